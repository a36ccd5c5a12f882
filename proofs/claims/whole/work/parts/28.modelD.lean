/-- the acts that are read can be done -/
def bz_actsA (A : Nat) (σ : bz_S) : Prop := A ≤ 60 ∧ σ.1 32 13 = nI A ∧ ∀ e, e < A → vp_in (σ.1 38 e) 3 ∧ ∃ N, N < 100 ∧ σ.1 40 e = nI N
theorem bz_actsA_c {A : Nat} {σ τ : bz_S} (h : bz_actsA A σ) (h13 : τ.1 32 13 = σ.1 32 13) (h38 : τ.1 38 = σ.1 38) (h40 : τ.1 40 = σ.1 40) : bz_actsA A τ := by
  unfold bz_actsA at h ⊢
  rw [h13, h38, h40]
  exact h
theorem bz_actsA_h {A : Nat} {σ τ : bz_S} {wh b w fo : Int32} (h : bz_actsA A σ) (e : f_X11_happen_32 σ wh b w fo = τ) : bz_actsA A τ := by
  subst e
  exact bz_actsA_c h (qf_X11_happen_32 σ wh b w fo 13 (by decide)) (bz_fr_at (rf_X11_happen_32 σ wh b w fo) 38 (by decide)) (bz_fr_at (rf_X11_happen_32 σ wh b w fo) 40 (by decide))
theorem bz_padM_c {σ τ : bz_S} (h : bz_padM σ) (e : τ.1 32 8 = σ.1 32 8) : bz_padM τ := by
  unfold bz_padM at h ⊢
  rw [e]
  exact h
theorem m_fault_acts {σ : bz_S} (hp : bz_padM σ) (h : (f_X11_fault_32 σ).1 < 0) : ∃ A, bz_actsA A (f_X11_fault_32 σ).2 := by
  obtain ⟨N, h60, hN⟩ := hp
  have q := pa_fault (P := σ.1 36) h60 (ς := (fun o k => if o = 6 then nI N else σ.1 36 k, σ.2)) rfl (fun k _ => rfl) N 0 0 0 ((bz_up σ.1 32 13 0), σ.2) (by omega) (by omega) (by omega) ⟨by simpa [bz_up] using hN, by funext k; simp [bz_up], by simp [bz_up]; rfl, fun e he => absurd he (by omega), rfl, fun z => absurd z (by omega), fun z => absurd z (by omega)⟩
  unfold f_X11_fault_32 at h ⊢
  rw [hN, nI_clamp (by omega)] at h ⊢
  obtain ⟨_, A', hA, q1, q2, q3, q4, _⟩ := q.2 h
  exact ⟨A', by omega, q3, fun e he => ⟨(q4 e he).2.1, (q4 e he).2.2.1⟩⟩

def lp_goc_c (rc : bz_S → Int32 → bz_S) (σ : bz_S) (e : Int32) (τ1 : Int32) (τ3 : bz_S) : bz_S := if (τ3.1 32 2) ≤ (σ.1 32 2) then (rc ((bz_up τ3.1 32 29 (τ3.1 32 29)), τ3.2) (e + 1)) else (if 0 ≤ (τ3.1 32 29) then (rc ((bz_up τ3.1 32 29 (τ3.1 32 29)), τ3.2) (e + 1)) else (rc ((bz_up τ3.1 32 29 e), τ3.2) (e + 1)))
def lp_goc_b (rc : bz_S → Int32 → bz_S) (σ : bz_S) (e : Int32) (τ1 : Int32) (τ2 : bz_S) : bz_S := if (τ2.1 32 2) ≤ (σ.1 32 2) then (rc ((bz_up τ2.1 32 29 (τ2.1 32 29)), τ2.2) (e + 1)) else (if 0 ≤ (τ2.1 32 29) then (rc ((bz_up τ2.1 32 29 (τ2.1 32 29)), τ2.2) (e + 1)) else (rc ((bz_up τ2.1 32 29 e), τ2.2) (e + 1)))
def lp_goc_a (rc : bz_S → Int32 → bz_S) (σ : bz_S) (e : Int32) (τ1 : Int32) : bz_S := if τ1 ≤ 0 then if τ1 = 0 then (lp_goc_b rc σ e τ1 (f_X11_happen_32 ((bz_up (bz_up σ.1 32 27 (-6)) 32 28 (-6)), σ.2) (σ.1 37 e.toNatClampNeg) (σ.1 38 e.toNatClampNeg) (σ.1 39 e.toNatClampNeg) (σ.1 40 e.toNatClampNeg))) else (if (σ.1 32 2) ≤ (σ.1 32 2) then (rc ((bz_up (bz_up (bz_up σ.1 32 27 (-6)) 32 28 (-6)) 32 29 (σ.1 32 29)), σ.2) (e + 1)) else (if 0 ≤ (σ.1 32 29) then (rc ((bz_up (bz_up (bz_up σ.1 32 27 (-6)) 32 28 (-6)) 32 29 (σ.1 32 29)), σ.2) (e + 1)) else (rc ((bz_up (bz_up (bz_up σ.1 32 27 (-6)) 32 28 (-6)) 32 29 e), σ.2) (e + 1)))) else (if τ1 = 0 then (lp_goc_c rc σ e τ1 (f_X11_happen_32 ((bz_up (bz_up σ.1 32 27 e) 32 28 τ1), σ.2) (σ.1 37 e.toNatClampNeg) (σ.1 38 e.toNatClampNeg) (σ.1 39 e.toNatClampNeg) (σ.1 40 e.toNatClampNeg))) else (if (σ.1 32 2) ≤ (σ.1 32 2) then (rc ((bz_up (bz_up (bz_up σ.1 32 27 e) 32 28 τ1) 32 29 (σ.1 32 29)), σ.2) (e + 1)) else (if 0 ≤ (σ.1 32 29) then (rc ((bz_up (bz_up (bz_up σ.1 32 27 e) 32 28 τ1) 32 29 (σ.1 32 29)), σ.2) (e + 1)) else (rc ((bz_up (bz_up (bz_up σ.1 32 27 e) 32 28 τ1) 32 29 e), σ.2) (e + 1)))))
def lp_goc : Nat → bz_S → Int32 → bz_S
  | 0, σ, e => σ
  | n + 1, σ, e => if 0 ≤ (σ.1 32 27) then σ else (lp_goc_a (lp_goc n) σ e (f_X11_whyNot_32 σ (σ.1 37 e.toNatClampNeg) (σ.1 38 e.toNatClampNeg)))
set_option maxRecDepth 100000 in
theorem lp_goc0_blk1 {X : bz_X} (σ : bz_S) (e : Int32) : bz_run X bt_X11_goCrises 4 (30, [some (.ref 32), some (.int e), none, none], [], σ) = some (True, if (σ.1 32 13) ≤ e then (160, [some (.ref 32), some (.int e), none, none], [], σ) else (38, [some (.ref 32), some (.int e), none, none], [], σ)) := rfl
set_option maxRecDepth 100000 in
theorem lp_goc_blk1 {X : bz_X} (σ : bz_S) (e : Int32) : bz_run X bt_X11_goCrises 4 (30, [some (.ref 32), some (.int e), none, none], [], σ) = some (True, if (σ.1 32 13) ≤ e then (160, [some (.ref 32), some (.int e), none, none], [], σ) else (38, [some (.ref 32), some (.int e), none, none], [], σ)) := rfl
set_option maxRecDepth 100000 in
theorem lp_goc_blk2 {X : bz_X} (σ : bz_S) (e : Int32) : bz_run X bt_X11_goCrises 3 (38, [some (.ref 32), some (.int e), none, none], [], σ) = some (True, if 0 ≤ (σ.1 32 27) then (160, [some (.ref 32), some (.int e), none, none], [], σ) else (45, [some (.ref 32), some (.int e), none, none], [], σ)) := rfl
set_option maxRecDepth 100000 in
theorem lp_goc_blk3 {X : bz_X} (σ : bz_S) (e : Int32) : bz_run X bt_X11_goCrises 9 (45, [some (.ref 32), some (.int e), none, none], [], σ) = some (vp_in e 60 ∧ vp_in e 60 ∧ True, (58, [some (.ref 32), some (.int e), none, none], [.int (σ.1 38 e.toNatClampNeg), .int (σ.1 37 e.toNatClampNeg), .ref 32], σ)) := rfl
set_option maxRecDepth 100000 in
theorem lp_goc_blk4 {X : bz_X} (σ : bz_S) (e : Int32) (τ1 : Int32) : bz_run X bt_X11_goCrises 7 (61, [some (.ref 32), some (.int e), none, none], [.int τ1], σ) = some (True, if τ1 ≤ 0 then (76, [some (.ref 32), some (.int e), some (.int τ1), some (.int (σ.1 32 2))], [.ref 32], σ) else (72, [some (.ref 32), some (.int e), some (.int τ1), some (.int (σ.1 32 2))], [.ref 32], σ)) := rfl
set_option maxRecDepth 100000 in
theorem lp_goc_blk5 {X : bz_X} (σ : bz_S) (e : Int32) (τ1 : Int32) : bz_run X bt_X11_goCrises 5 (76, [some (.ref 32), some (.int e), some (.int τ1), some (.int (σ.1 32 2))], [.ref 32], σ) = some (True, if τ1 ≤ 0 then (90, [some (.ref 32), some (.int e), some (.int τ1), some (.int (σ.1 32 2))], [.ref 32], ((bz_up σ.1 32 27 (-6)), σ.2)) else (86, [some (.ref 32), some (.int e), some (.int τ1), some (.int (σ.1 32 2))], [.ref 32], ((bz_up σ.1 32 27 (-6)), σ.2))) := rfl
set_option maxRecDepth 100000 in
theorem lp_goc_blk6 {X : bz_X} (σ : bz_S) (e : Int32) (τ1 : Int32) : bz_run X bt_X11_goCrises 4 (90, [some (.ref 32), some (.int e), some (.int τ1), some (.int (σ.1 32 2))], [.ref 32], ((bz_up σ.1 32 27 (-6)), σ.2)) = some (True, if ¬ τ1 = 0 then (127, [some (.ref 32), some (.int e), some (.int τ1), some (.int (σ.1 32 2))], [], ((bz_up (bz_up σ.1 32 27 (-6)) 32 28 (-6)), σ.2)) else (99, [some (.ref 32), some (.int e), some (.int τ1), some (.int (σ.1 32 2))], [], ((bz_up (bz_up σ.1 32 27 (-6)) 32 28 (-6)), σ.2))) := rfl
set_option maxRecDepth 100000 in
theorem lp_goc_blk7 {X : bz_X} (σ : bz_S) (e : Int32) (τ1 : Int32) : bz_run X bt_X11_goCrises 5 (127, [some (.ref 32), some (.int e), some (.int τ1), some (.int (σ.1 32 2))], [], ((bz_up (bz_up σ.1 32 27 (-6)) 32 28 (-6)), σ.2)) = some (True, if (σ.1 32 2) ≤ (σ.1 32 2) then (147, [some (.ref 32), some (.int e), some (.int τ1), some (.int (σ.1 32 2))], [.ref 32], ((bz_up (bz_up σ.1 32 27 (-6)) 32 28 (-6)), σ.2)) else (136, [some (.ref 32), some (.int e), some (.int τ1), some (.int (σ.1 32 2))], [.ref 32], ((bz_up (bz_up σ.1 32 27 (-6)) 32 28 (-6)), σ.2))) := rfl
set_option maxRecDepth 100000 in
theorem lp_goc_blk8 {X : bz_X} (σ : bz_S) (e : Int32) (τ1 : Int32) : bz_run X bt_X11_goCrises 5 (147, [some (.ref 32), some (.int e), some (.int τ1), some (.int (σ.1 32 2))], [.ref 32], ((bz_up (bz_up σ.1 32 27 (-6)) 32 28 (-6)), σ.2)) = some (True, (30, [some (.ref 32), some (.int (e + 1)), some (.int τ1), some (.int (σ.1 32 2))], [], ((bz_up (bz_up (bz_up σ.1 32 27 (-6)) 32 28 (-6)) 32 29 (σ.1 32 29)), σ.2))) := rfl
set_option maxRecDepth 100000 in
theorem lp_goc_blk9 {X : bz_X} (σ : bz_S) (e : Int32) (τ1 : Int32) : bz_run X bt_X11_goCrises 3 (136, [some (.ref 32), some (.int e), some (.int τ1), some (.int (σ.1 32 2))], [.ref 32], ((bz_up (bz_up σ.1 32 27 (-6)) 32 28 (-6)), σ.2)) = some (True, if 0 ≤ (σ.1 32 29) then (147, [some (.ref 32), some (.int e), some (.int τ1), some (.int (σ.1 32 2))], [.ref 32], ((bz_up (bz_up σ.1 32 27 (-6)) 32 28 (-6)), σ.2)) else (143, [some (.ref 32), some (.int e), some (.int τ1), some (.int (σ.1 32 2))], [.ref 32], ((bz_up (bz_up σ.1 32 27 (-6)) 32 28 (-6)), σ.2))) := rfl
set_option maxRecDepth 100000 in
theorem lp_goc_blk10 {X : bz_X} (σ : bz_S) (e : Int32) (τ1 : Int32) : bz_run X bt_X11_goCrises 5 (147, [some (.ref 32), some (.int e), some (.int τ1), some (.int (σ.1 32 2))], [.ref 32], ((bz_up (bz_up σ.1 32 27 (-6)) 32 28 (-6)), σ.2)) = some (True, (30, [some (.ref 32), some (.int (e + 1)), some (.int τ1), some (.int (σ.1 32 2))], [], ((bz_up (bz_up (bz_up σ.1 32 27 (-6)) 32 28 (-6)) 32 29 (σ.1 32 29)), σ.2))) := rfl
set_option maxRecDepth 100000 in
theorem lp_goc_blk11 {X : bz_X} (σ : bz_S) (e : Int32) (τ1 : Int32) : bz_run X bt_X11_goCrises 5 (143, [some (.ref 32), some (.int e), some (.int τ1), some (.int (σ.1 32 2))], [.ref 32], ((bz_up (bz_up σ.1 32 27 (-6)) 32 28 (-6)), σ.2)) = some (True, (30, [some (.ref 32), some (.int (e + 1)), some (.int τ1), some (.int (σ.1 32 2))], [], ((bz_up (bz_up (bz_up σ.1 32 27 (-6)) 32 28 (-6)) 32 29 e), σ.2))) := rfl
set_option maxRecDepth 100000 in
theorem lp_goc_blk12 {X : bz_X} (σ : bz_S) (e : Int32) (τ1 : Int32) : bz_run X bt_X11_goCrises 4 (99, [some (.ref 32), some (.int e), some (.int τ1), some (.int (σ.1 32 2))], [], ((bz_up (bz_up σ.1 32 27 (-6)) 32 28 (-6)), σ.2)) = some (True, (105, [some (.ref 32), some (.int e), some (.int τ1), some (.int (σ.1 32 2))], [.int e, .ref 37, .ref 32], ((bz_up (bz_up σ.1 32 27 (-6)) 32 28 (-6)), σ.2))) := rfl
set_option maxRecDepth 100000 in
theorem lp_goc_blk13 {X : bz_X} (σ : bz_S) (e : Int32) (τ1 : Int32) : bz_run X bt_X11_goCrises 4 (105, [some (.ref 32), some (.int e), some (.int τ1), some (.int (σ.1 32 2))], [.int e, .ref 37, .ref 32], ((bz_up (bz_up σ.1 32 27 (-6)) 32 28 (-6)), σ.2)) = some (vp_in e 60 ∧ True, (111, [some (.ref 32), some (.int e), some (.int τ1), some (.int (σ.1 32 2))], [.int e, .ref 38, .int (σ.1 37 e.toNatClampNeg), .ref 32], ((bz_up (bz_up σ.1 32 27 (-6)) 32 28 (-6)), σ.2))) := rfl
set_option maxRecDepth 100000 in
theorem lp_goc_blk14 {X : bz_X} (σ : bz_S) (e : Int32) (τ1 : Int32) : bz_run X bt_X11_goCrises 4 (111, [some (.ref 32), some (.int e), some (.int τ1), some (.int (σ.1 32 2))], [.int e, .ref 38, .int (σ.1 37 e.toNatClampNeg), .ref 32], ((bz_up (bz_up σ.1 32 27 (-6)) 32 28 (-6)), σ.2)) = some (vp_in e 60 ∧ True, (117, [some (.ref 32), some (.int e), some (.int τ1), some (.int (σ.1 32 2))], [.int e, .ref 39, .int (σ.1 38 e.toNatClampNeg), .int (σ.1 37 e.toNatClampNeg), .ref 32], ((bz_up (bz_up σ.1 32 27 (-6)) 32 28 (-6)), σ.2))) := rfl
set_option maxRecDepth 100000 in
theorem lp_goc_blk15 {X : bz_X} (σ : bz_S) (e : Int32) (τ1 : Int32) : bz_run X bt_X11_goCrises 4 (117, [some (.ref 32), some (.int e), some (.int τ1), some (.int (σ.1 32 2))], [.int e, .ref 39, .int (σ.1 38 e.toNatClampNeg), .int (σ.1 37 e.toNatClampNeg), .ref 32], ((bz_up (bz_up σ.1 32 27 (-6)) 32 28 (-6)), σ.2)) = some (vp_in e 60 ∧ True, (123, [some (.ref 32), some (.int e), some (.int τ1), some (.int (σ.1 32 2))], [.int e, .ref 40, .int (σ.1 39 e.toNatClampNeg), .int (σ.1 38 e.toNatClampNeg), .int (σ.1 37 e.toNatClampNeg), .ref 32], ((bz_up (bz_up σ.1 32 27 (-6)) 32 28 (-6)), σ.2))) := rfl
set_option maxRecDepth 100000 in
theorem lp_goc_blk16 {X : bz_X} (σ : bz_S) (e : Int32) (τ1 : Int32) : bz_run X bt_X11_goCrises 1 (123, [some (.ref 32), some (.int e), some (.int τ1), some (.int (σ.1 32 2))], [.int e, .ref 40, .int (σ.1 39 e.toNatClampNeg), .int (σ.1 38 e.toNatClampNeg), .int (σ.1 37 e.toNatClampNeg), .ref 32], ((bz_up (bz_up σ.1 32 27 (-6)) 32 28 (-6)), σ.2)) = some (vp_in e 60 ∧ True, (124, [some (.ref 32), some (.int e), some (.int τ1), some (.int (σ.1 32 2))], [.int (σ.1 40 e.toNatClampNeg), .int (σ.1 39 e.toNatClampNeg), .int (σ.1 38 e.toNatClampNeg), .int (σ.1 37 e.toNatClampNeg), .ref 32], ((bz_up (bz_up σ.1 32 27 (-6)) 32 28 (-6)), σ.2))) := rfl
set_option maxRecDepth 100000 in
theorem lp_goc_blk17 {X : bz_X} (σ : bz_S) (e : Int32) (τ1 : Int32) (τ2 : bz_S) : bz_run X bt_X11_goCrises 5 (127, [some (.ref 32), some (.int e), some (.int τ1), some (.int (σ.1 32 2))], [], τ2) = some (True, if (τ2.1 32 2) ≤ (σ.1 32 2) then (147, [some (.ref 32), some (.int e), some (.int τ1), some (.int (σ.1 32 2))], [.ref 32], τ2) else (136, [some (.ref 32), some (.int e), some (.int τ1), some (.int (σ.1 32 2))], [.ref 32], τ2)) := rfl
set_option maxRecDepth 100000 in
theorem lp_goc_blk18 {X : bz_X} (σ : bz_S) (e : Int32) (τ1 : Int32) (τ2 : bz_S) : bz_run X bt_X11_goCrises 5 (147, [some (.ref 32), some (.int e), some (.int τ1), some (.int (σ.1 32 2))], [.ref 32], τ2) = some (True, (30, [some (.ref 32), some (.int (e + 1)), some (.int τ1), some (.int (σ.1 32 2))], [], ((bz_up τ2.1 32 29 (τ2.1 32 29)), τ2.2))) := rfl
set_option maxRecDepth 100000 in
theorem lp_goc_blk19 {X : bz_X} (σ : bz_S) (e : Int32) (τ1 : Int32) (τ2 : bz_S) : bz_run X bt_X11_goCrises 3 (136, [some (.ref 32), some (.int e), some (.int τ1), some (.int (σ.1 32 2))], [.ref 32], τ2) = some (True, if 0 ≤ (τ2.1 32 29) then (147, [some (.ref 32), some (.int e), some (.int τ1), some (.int (σ.1 32 2))], [.ref 32], τ2) else (143, [some (.ref 32), some (.int e), some (.int τ1), some (.int (σ.1 32 2))], [.ref 32], τ2)) := rfl
set_option maxRecDepth 100000 in
theorem lp_goc_blk20 {X : bz_X} (σ : bz_S) (e : Int32) (τ1 : Int32) (τ2 : bz_S) : bz_run X bt_X11_goCrises 5 (147, [some (.ref 32), some (.int e), some (.int τ1), some (.int (σ.1 32 2))], [.ref 32], τ2) = some (True, (30, [some (.ref 32), some (.int (e + 1)), some (.int τ1), some (.int (σ.1 32 2))], [], ((bz_up τ2.1 32 29 (τ2.1 32 29)), τ2.2))) := rfl
set_option maxRecDepth 100000 in
theorem lp_goc_blk21 {X : bz_X} (σ : bz_S) (e : Int32) (τ1 : Int32) (τ2 : bz_S) : bz_run X bt_X11_goCrises 5 (143, [some (.ref 32), some (.int e), some (.int τ1), some (.int (σ.1 32 2))], [.ref 32], τ2) = some (True, (30, [some (.ref 32), some (.int (e + 1)), some (.int τ1), some (.int (σ.1 32 2))], [], ((bz_up τ2.1 32 29 e), τ2.2))) := rfl
set_option maxRecDepth 100000 in
theorem lp_goc_blk22 {X : bz_X} (σ : bz_S) (e : Int32) (τ1 : Int32) : bz_run X bt_X11_goCrises 6 (72, [some (.ref 32), some (.int e), some (.int τ1), some (.int (σ.1 32 2))], [.ref 32], σ) = some (True, if τ1 ≤ 0 then (90, [some (.ref 32), some (.int e), some (.int τ1), some (.int (σ.1 32 2))], [.ref 32], ((bz_up σ.1 32 27 e), σ.2)) else (86, [some (.ref 32), some (.int e), some (.int τ1), some (.int (σ.1 32 2))], [.ref 32], ((bz_up σ.1 32 27 e), σ.2))) := rfl
set_option maxRecDepth 100000 in
theorem lp_goc_blk23 {X : bz_X} (σ : bz_S) (e : Int32) (τ1 : Int32) : bz_run X bt_X11_goCrises 5 (86, [some (.ref 32), some (.int e), some (.int τ1), some (.int (σ.1 32 2))], [.ref 32], ((bz_up σ.1 32 27 e), σ.2)) = some (True, if ¬ τ1 = 0 then (127, [some (.ref 32), some (.int e), some (.int τ1), some (.int (σ.1 32 2))], [], ((bz_up (bz_up σ.1 32 27 e) 32 28 τ1), σ.2)) else (99, [some (.ref 32), some (.int e), some (.int τ1), some (.int (σ.1 32 2))], [], ((bz_up (bz_up σ.1 32 27 e) 32 28 τ1), σ.2))) := rfl
set_option maxRecDepth 100000 in
theorem lp_goc_blk24 {X : bz_X} (σ : bz_S) (e : Int32) (τ1 : Int32) : bz_run X bt_X11_goCrises 5 (127, [some (.ref 32), some (.int e), some (.int τ1), some (.int (σ.1 32 2))], [], ((bz_up (bz_up σ.1 32 27 e) 32 28 τ1), σ.2)) = some (True, if (σ.1 32 2) ≤ (σ.1 32 2) then (147, [some (.ref 32), some (.int e), some (.int τ1), some (.int (σ.1 32 2))], [.ref 32], ((bz_up (bz_up σ.1 32 27 e) 32 28 τ1), σ.2)) else (136, [some (.ref 32), some (.int e), some (.int τ1), some (.int (σ.1 32 2))], [.ref 32], ((bz_up (bz_up σ.1 32 27 e) 32 28 τ1), σ.2))) := rfl
set_option maxRecDepth 100000 in
theorem lp_goc_blk25 {X : bz_X} (σ : bz_S) (e : Int32) (τ1 : Int32) : bz_run X bt_X11_goCrises 5 (147, [some (.ref 32), some (.int e), some (.int τ1), some (.int (σ.1 32 2))], [.ref 32], ((bz_up (bz_up σ.1 32 27 e) 32 28 τ1), σ.2)) = some (True, (30, [some (.ref 32), some (.int (e + 1)), some (.int τ1), some (.int (σ.1 32 2))], [], ((bz_up (bz_up (bz_up σ.1 32 27 e) 32 28 τ1) 32 29 (σ.1 32 29)), σ.2))) := rfl
set_option maxRecDepth 100000 in
theorem lp_goc_blk26 {X : bz_X} (σ : bz_S) (e : Int32) (τ1 : Int32) : bz_run X bt_X11_goCrises 3 (136, [some (.ref 32), some (.int e), some (.int τ1), some (.int (σ.1 32 2))], [.ref 32], ((bz_up (bz_up σ.1 32 27 e) 32 28 τ1), σ.2)) = some (True, if 0 ≤ (σ.1 32 29) then (147, [some (.ref 32), some (.int e), some (.int τ1), some (.int (σ.1 32 2))], [.ref 32], ((bz_up (bz_up σ.1 32 27 e) 32 28 τ1), σ.2)) else (143, [some (.ref 32), some (.int e), some (.int τ1), some (.int (σ.1 32 2))], [.ref 32], ((bz_up (bz_up σ.1 32 27 e) 32 28 τ1), σ.2))) := rfl
set_option maxRecDepth 100000 in
theorem lp_goc_blk27 {X : bz_X} (σ : bz_S) (e : Int32) (τ1 : Int32) : bz_run X bt_X11_goCrises 5 (147, [some (.ref 32), some (.int e), some (.int τ1), some (.int (σ.1 32 2))], [.ref 32], ((bz_up (bz_up σ.1 32 27 e) 32 28 τ1), σ.2)) = some (True, (30, [some (.ref 32), some (.int (e + 1)), some (.int τ1), some (.int (σ.1 32 2))], [], ((bz_up (bz_up (bz_up σ.1 32 27 e) 32 28 τ1) 32 29 (σ.1 32 29)), σ.2))) := rfl
set_option maxRecDepth 100000 in
theorem lp_goc_blk28 {X : bz_X} (σ : bz_S) (e : Int32) (τ1 : Int32) : bz_run X bt_X11_goCrises 5 (143, [some (.ref 32), some (.int e), some (.int τ1), some (.int (σ.1 32 2))], [.ref 32], ((bz_up (bz_up σ.1 32 27 e) 32 28 τ1), σ.2)) = some (True, (30, [some (.ref 32), some (.int (e + 1)), some (.int τ1), some (.int (σ.1 32 2))], [], ((bz_up (bz_up (bz_up σ.1 32 27 e) 32 28 τ1) 32 29 e), σ.2))) := rfl
set_option maxRecDepth 100000 in
theorem lp_goc_blk29 {X : bz_X} (σ : bz_S) (e : Int32) (τ1 : Int32) : bz_run X bt_X11_goCrises 4 (99, [some (.ref 32), some (.int e), some (.int τ1), some (.int (σ.1 32 2))], [], ((bz_up (bz_up σ.1 32 27 e) 32 28 τ1), σ.2)) = some (True, (105, [some (.ref 32), some (.int e), some (.int τ1), some (.int (σ.1 32 2))], [.int e, .ref 37, .ref 32], ((bz_up (bz_up σ.1 32 27 e) 32 28 τ1), σ.2))) := rfl
set_option maxRecDepth 100000 in
theorem lp_goc_blk30 {X : bz_X} (σ : bz_S) (e : Int32) (τ1 : Int32) : bz_run X bt_X11_goCrises 4 (105, [some (.ref 32), some (.int e), some (.int τ1), some (.int (σ.1 32 2))], [.int e, .ref 37, .ref 32], ((bz_up (bz_up σ.1 32 27 e) 32 28 τ1), σ.2)) = some (vp_in e 60 ∧ True, (111, [some (.ref 32), some (.int e), some (.int τ1), some (.int (σ.1 32 2))], [.int e, .ref 38, .int (σ.1 37 e.toNatClampNeg), .ref 32], ((bz_up (bz_up σ.1 32 27 e) 32 28 τ1), σ.2))) := rfl
set_option maxRecDepth 100000 in
theorem lp_goc_blk31 {X : bz_X} (σ : bz_S) (e : Int32) (τ1 : Int32) : bz_run X bt_X11_goCrises 4 (111, [some (.ref 32), some (.int e), some (.int τ1), some (.int (σ.1 32 2))], [.int e, .ref 38, .int (σ.1 37 e.toNatClampNeg), .ref 32], ((bz_up (bz_up σ.1 32 27 e) 32 28 τ1), σ.2)) = some (vp_in e 60 ∧ True, (117, [some (.ref 32), some (.int e), some (.int τ1), some (.int (σ.1 32 2))], [.int e, .ref 39, .int (σ.1 38 e.toNatClampNeg), .int (σ.1 37 e.toNatClampNeg), .ref 32], ((bz_up (bz_up σ.1 32 27 e) 32 28 τ1), σ.2))) := rfl
set_option maxRecDepth 100000 in
theorem lp_goc_blk32 {X : bz_X} (σ : bz_S) (e : Int32) (τ1 : Int32) : bz_run X bt_X11_goCrises 4 (117, [some (.ref 32), some (.int e), some (.int τ1), some (.int (σ.1 32 2))], [.int e, .ref 39, .int (σ.1 38 e.toNatClampNeg), .int (σ.1 37 e.toNatClampNeg), .ref 32], ((bz_up (bz_up σ.1 32 27 e) 32 28 τ1), σ.2)) = some (vp_in e 60 ∧ True, (123, [some (.ref 32), some (.int e), some (.int τ1), some (.int (σ.1 32 2))], [.int e, .ref 40, .int (σ.1 39 e.toNatClampNeg), .int (σ.1 38 e.toNatClampNeg), .int (σ.1 37 e.toNatClampNeg), .ref 32], ((bz_up (bz_up σ.1 32 27 e) 32 28 τ1), σ.2))) := rfl
set_option maxRecDepth 100000 in
theorem lp_goc_blk33 {X : bz_X} (σ : bz_S) (e : Int32) (τ1 : Int32) : bz_run X bt_X11_goCrises 1 (123, [some (.ref 32), some (.int e), some (.int τ1), some (.int (σ.1 32 2))], [.int e, .ref 40, .int (σ.1 39 e.toNatClampNeg), .int (σ.1 38 e.toNatClampNeg), .int (σ.1 37 e.toNatClampNeg), .ref 32], ((bz_up (bz_up σ.1 32 27 e) 32 28 τ1), σ.2)) = some (vp_in e 60 ∧ True, (124, [some (.ref 32), some (.int e), some (.int τ1), some (.int (σ.1 32 2))], [.int (σ.1 40 e.toNatClampNeg), .int (σ.1 39 e.toNatClampNeg), .int (σ.1 38 e.toNatClampNeg), .int (σ.1 37 e.toNatClampNeg), .ref 32], ((bz_up (bz_up σ.1 32 27 e) 32 28 τ1), σ.2))) := rfl
set_option maxRecDepth 100000 in
theorem lp_goc_blk34 {X : bz_X} (σ : bz_S) (e : Int32) (τ1 : Int32) (τ3 : bz_S) : bz_run X bt_X11_goCrises 5 (127, [some (.ref 32), some (.int e), some (.int τ1), some (.int (σ.1 32 2))], [], τ3) = some (True, if (τ3.1 32 2) ≤ (σ.1 32 2) then (147, [some (.ref 32), some (.int e), some (.int τ1), some (.int (σ.1 32 2))], [.ref 32], τ3) else (136, [some (.ref 32), some (.int e), some (.int τ1), some (.int (σ.1 32 2))], [.ref 32], τ3)) := rfl
set_option maxRecDepth 100000 in
theorem lp_goc_blk35 {X : bz_X} (σ : bz_S) (e : Int32) (τ1 : Int32) (τ3 : bz_S) : bz_run X bt_X11_goCrises 5 (147, [some (.ref 32), some (.int e), some (.int τ1), some (.int (σ.1 32 2))], [.ref 32], τ3) = some (True, (30, [some (.ref 32), some (.int (e + 1)), some (.int τ1), some (.int (σ.1 32 2))], [], ((bz_up τ3.1 32 29 (τ3.1 32 29)), τ3.2))) := rfl
set_option maxRecDepth 100000 in
theorem lp_goc_blk36 {X : bz_X} (σ : bz_S) (e : Int32) (τ1 : Int32) (τ3 : bz_S) : bz_run X bt_X11_goCrises 3 (136, [some (.ref 32), some (.int e), some (.int τ1), some (.int (σ.1 32 2))], [.ref 32], τ3) = some (True, if 0 ≤ (τ3.1 32 29) then (147, [some (.ref 32), some (.int e), some (.int τ1), some (.int (σ.1 32 2))], [.ref 32], τ3) else (143, [some (.ref 32), some (.int e), some (.int τ1), some (.int (σ.1 32 2))], [.ref 32], τ3)) := rfl
set_option maxRecDepth 100000 in
theorem lp_goc_blk37 {X : bz_X} (σ : bz_S) (e : Int32) (τ1 : Int32) (τ3 : bz_S) : bz_run X bt_X11_goCrises 5 (147, [some (.ref 32), some (.int e), some (.int τ1), some (.int (σ.1 32 2))], [.ref 32], τ3) = some (True, (30, [some (.ref 32), some (.int (e + 1)), some (.int τ1), some (.int (σ.1 32 2))], [], ((bz_up τ3.1 32 29 (τ3.1 32 29)), τ3.2))) := rfl
set_option maxRecDepth 100000 in
theorem lp_goc_blk38 {X : bz_X} (σ : bz_S) (e : Int32) (τ1 : Int32) (τ3 : bz_S) : bz_run X bt_X11_goCrises 5 (143, [some (.ref 32), some (.int e), some (.int τ1), some (.int (σ.1 32 2))], [.ref 32], τ3) = some (True, (30, [some (.ref 32), some (.int (e + 1)), some (.int τ1), some (.int (σ.1 32 2))], [], ((bz_up τ3.1 32 29 e), τ3.2))) := rfl
set_option maxRecDepth 100000 in
theorem s_lp_goc {X : bz_X} (A : Nat) : ∀ (n : Nat) (σ : bz_S) (e : Int32) (j9 : Nat) (hi : e = nI j9) (hj : j9 + n = A) (ha : bz_actsA A σ), bz_wp bz_P X mX11_goCrises (bz_pv (lp_goc n σ e)) (30, [some (.ref 32), some (.int e), none, none], [], σ) := by
  intro n
  induction n with
  | zero =>
    intro σ e j9 hi hj ha
    refine bz_wpb bT_X11_goCrises 4 (b1 := (160, [some (.ref 32), some (.int e), none, none], [], σ)) (b2 := (38, [some (.ref 32), some (.int e), none, none], [], σ)) (C := (σ.1 32 13) ≤ e) (G := True) (lp_goc0_blk1 σ e) trivial (fun _ => ?_) (fun z => absurd (show (σ.1 32 13) ≤ e from by have := ha.1; rw [hi, ha.2.1]; exact nI_le (by omega) (by omega)) z)
    refine bz_wpr bT_X11_goCrises rfl rfl trivial ?_
    have e9 : lp_goc 0 σ e = σ := by rw [lp_goc]
    exact ⟨rfl, by rw [e9]⟩
  | succ n ih =>
    intro σ e j9 hi hj ha
    refine bz_wpb bT_X11_goCrises 4 (b1 := (160, [some (.ref 32), some (.int e), none, none], [], σ)) (b2 := (38, [some (.ref 32), some (.int e), none, none], [], σ)) (C := (σ.1 32 13) ≤ e) (G := True) (lp_goc_blk1 σ e) trivial (fun z => absurd z (show ¬ (σ.1 32 13) ≤ e from by have := ha.1; rw [hi, ha.2.1]; exact nI_ge (by omega) (by omega))) (fun _ => ?_)
    refine bz_wpb bT_X11_goCrises 3 (b1 := (160, [some (.ref 32), some (.int e), none, none], [], σ)) (b2 := (45, [some (.ref 32), some (.int e), none, none], [], σ)) (C := 0 ≤ (σ.1 32 27)) (G := True) (lp_goc_blk2 σ e) trivial (fun h1 => ?_) (fun h1 => ?_)
    · skip
      refine bz_wpr bT_X11_goCrises rfl rfl trivial ?_
      have e9 : lp_goc (n + 1) σ e = σ := by rw [lp_goc, if_pos (h1)]
      exact ⟨rfl, by rw [e9]⟩
    · skip
      refine bz_wpn bT_X11_goCrises 9 (b := (58, [some (.ref 32), some (.int e), none, none], [.int (σ.1 38 e.toNatClampNeg), .int (σ.1 37 e.toNatClampNeg), .ref 32], σ)) (G := vp_in e 60 ∧ vp_in e 60 ∧ True) (lp_goc_blk3 σ e) ⟨(by have := ha.1; rw [hi]; exact vp_in_nI (by omega) (by decide)), (by have := ha.1; rw [hi]; exact vp_in_nI (by omega) (by decide)), trivial⟩ ?_
      refine bz_wci bT_X11_goCrises [.ref 32, .int (σ.1 37 e.toNatClampNeg), .int (σ.1 38 e.toNatClampNeg)] (pc' := 61) (rest := []) rfl rfl (Nat.le_of_ble_eq_true rfl) rfl (Nat.le_of_ble_eq_true rfl) rfl (s_X11_whyNot_32 σ (σ.1 37 e.toNatClampNeg) (σ.1 38 e.toNatClampNeg) (by have := ha.1; rw [hi, nI_clamp (by omega)]; exact (ha.2.2 j9 (by omega)).1)) rfl ?_
      generalize hτ1 : f_X11_whyNot_32 σ (σ.1 37 e.toNatClampNeg) (σ.1 38 e.toNatClampNeg) = τ1
      refine bz_wpb bT_X11_goCrises 7 (b1 := (76, [some (.ref 32), some (.int e), some (.int τ1), some (.int (σ.1 32 2))], [.ref 32], σ)) (b2 := (72, [some (.ref 32), some (.int e), some (.int τ1), some (.int (σ.1 32 2))], [.ref 32], σ)) (C := τ1 ≤ 0) (G := True) (lp_goc_blk4 σ e τ1) trivial (fun h2 => ?_) (fun h2 => ?_)
      · skip
        refine bz_wpb bT_X11_goCrises 5 (b1 := (90, [some (.ref 32), some (.int e), some (.int τ1), some (.int (σ.1 32 2))], [.ref 32], ((bz_up σ.1 32 27 (-6)), σ.2))) (b2 := (86, [some (.ref 32), some (.int e), some (.int τ1), some (.int (σ.1 32 2))], [.ref 32], ((bz_up σ.1 32 27 (-6)), σ.2))) (C := τ1 ≤ 0) (G := True) (lp_goc_blk5 σ e τ1) trivial (fun _ => ?_) (fun z => absurd h2 z)
        refine bz_wpb bT_X11_goCrises 4 (b1 := (127, [some (.ref 32), some (.int e), some (.int τ1), some (.int (σ.1 32 2))], [], ((bz_up (bz_up σ.1 32 27 (-6)) 32 28 (-6)), σ.2))) (b2 := (99, [some (.ref 32), some (.int e), some (.int τ1), some (.int (σ.1 32 2))], [], ((bz_up (bz_up σ.1 32 27 (-6)) 32 28 (-6)), σ.2))) (C := ¬ τ1 = 0) (G := True) (lp_goc_blk6 σ e τ1) trivial (fun h3 => ?_) (fun h3 => ?_)
        · skip
          refine bz_wpb bT_X11_goCrises 5 (b1 := (147, [some (.ref 32), some (.int e), some (.int τ1), some (.int (σ.1 32 2))], [.ref 32], ((bz_up (bz_up σ.1 32 27 (-6)) 32 28 (-6)), σ.2))) (b2 := (136, [some (.ref 32), some (.int e), some (.int τ1), some (.int (σ.1 32 2))], [.ref 32], ((bz_up (bz_up σ.1 32 27 (-6)) 32 28 (-6)), σ.2))) (C := (σ.1 32 2) ≤ (σ.1 32 2)) (G := True) (lp_goc_blk7 σ e τ1) trivial (fun h4 => ?_) (fun h4 => ?_)
          · skip
            refine bz_wpn bT_X11_goCrises 5 (b := (30, [some (.ref 32), some (.int (e + 1)), some (.int τ1), some (.int (σ.1 32 2))], [], ((bz_up (bz_up (bz_up σ.1 32 27 (-6)) 32 28 (-6)) 32 29 (σ.1 32 29)), σ.2))) (G := True) (lp_goc_blk8 σ e τ1) trivial ?_
            have e9 : lp_goc (n + 1) σ e = (lp_goc n ((bz_up (bz_up (bz_up σ.1 32 27 (-6)) 32 28 (-6)) 32 29 (σ.1 32 29)), σ.2) (e + 1)) := by rw [lp_goc, if_neg (h1), hτ1, lp_goc_a, if_pos (h2), if_neg (h3), if_pos (h4)]
            rw [e9]
            refine bz_wpw (L' := [some (.ref 32), some (.int (e + 1)), none, none]) (by exact ⟨rfl, rfl, trivial⟩) ?_
            exact ih ((bz_up (bz_up (bz_up σ.1 32 27 (-6)) 32 28 (-6)) 32 29 (σ.1 32 29)), σ.2) (e + 1) (j9 + 1) (by rw [hi]; exact nI_1 j9) (by omega) (bz_actsA_c ha (by simp [bz_up]) (by funext q9; simp [bz_up]) (by funext q9; simp [bz_up]))
          · skip
            refine bz_wpb bT_X11_goCrises 3 (b1 := (147, [some (.ref 32), some (.int e), some (.int τ1), some (.int (σ.1 32 2))], [.ref 32], ((bz_up (bz_up σ.1 32 27 (-6)) 32 28 (-6)), σ.2))) (b2 := (143, [some (.ref 32), some (.int e), some (.int τ1), some (.int (σ.1 32 2))], [.ref 32], ((bz_up (bz_up σ.1 32 27 (-6)) 32 28 (-6)), σ.2))) (C := 0 ≤ (σ.1 32 29)) (G := True) (lp_goc_blk9 σ e τ1) trivial (fun h5 => ?_) (fun h5 => ?_)
            · skip
              refine bz_wpn bT_X11_goCrises 5 (b := (30, [some (.ref 32), some (.int (e + 1)), some (.int τ1), some (.int (σ.1 32 2))], [], ((bz_up (bz_up (bz_up σ.1 32 27 (-6)) 32 28 (-6)) 32 29 (σ.1 32 29)), σ.2))) (G := True) (lp_goc_blk10 σ e τ1) trivial ?_
              have e9 : lp_goc (n + 1) σ e = (lp_goc n ((bz_up (bz_up (bz_up σ.1 32 27 (-6)) 32 28 (-6)) 32 29 (σ.1 32 29)), σ.2) (e + 1)) := by rw [lp_goc, if_neg (h1), hτ1, lp_goc_a, if_pos (h2), if_neg (h3), if_neg (h4), if_pos (h5)]
              rw [e9]
              refine bz_wpw (L' := [some (.ref 32), some (.int (e + 1)), none, none]) (by exact ⟨rfl, rfl, trivial⟩) ?_
              exact ih ((bz_up (bz_up (bz_up σ.1 32 27 (-6)) 32 28 (-6)) 32 29 (σ.1 32 29)), σ.2) (e + 1) (j9 + 1) (by rw [hi]; exact nI_1 j9) (by omega) (bz_actsA_c ha (by simp [bz_up]) (by funext q9; simp [bz_up]) (by funext q9; simp [bz_up]))
            · skip
              refine bz_wpn bT_X11_goCrises 5 (b := (30, [some (.ref 32), some (.int (e + 1)), some (.int τ1), some (.int (σ.1 32 2))], [], ((bz_up (bz_up (bz_up σ.1 32 27 (-6)) 32 28 (-6)) 32 29 e), σ.2))) (G := True) (lp_goc_blk11 σ e τ1) trivial ?_
              have e9 : lp_goc (n + 1) σ e = (lp_goc n ((bz_up (bz_up (bz_up σ.1 32 27 (-6)) 32 28 (-6)) 32 29 e), σ.2) (e + 1)) := by rw [lp_goc, if_neg (h1), hτ1, lp_goc_a, if_pos (h2), if_neg (h3), if_neg (h4), if_neg (h5)]
              rw [e9]
              refine bz_wpw (L' := [some (.ref 32), some (.int (e + 1)), none, none]) (by exact ⟨rfl, rfl, trivial⟩) ?_
              exact ih ((bz_up (bz_up (bz_up σ.1 32 27 (-6)) 32 28 (-6)) 32 29 e), σ.2) (e + 1) (j9 + 1) (by rw [hi]; exact nI_1 j9) (by omega) (bz_actsA_c ha (by simp [bz_up]) (by funext q9; simp [bz_up]) (by funext q9; simp [bz_up]))
        · skip
          refine bz_wpn bT_X11_goCrises 4 (b := (105, [some (.ref 32), some (.int e), some (.int τ1), some (.int (σ.1 32 2))], [.int e, .ref 37, .ref 32], ((bz_up (bz_up σ.1 32 27 (-6)) 32 28 (-6)), σ.2))) (G := True) (lp_goc_blk12 σ e τ1) trivial ?_
          refine bz_wpn bT_X11_goCrises 4 (b := (111, [some (.ref 32), some (.int e), some (.int τ1), some (.int (σ.1 32 2))], [.int e, .ref 38, .int (σ.1 37 e.toNatClampNeg), .ref 32], ((bz_up (bz_up σ.1 32 27 (-6)) 32 28 (-6)), σ.2))) (G := vp_in e 60 ∧ True) (lp_goc_blk13 σ e τ1) ⟨(by have := ha.1; rw [hi]; exact vp_in_nI (by omega) (by decide)), trivial⟩ ?_
          refine bz_wpn bT_X11_goCrises 4 (b := (117, [some (.ref 32), some (.int e), some (.int τ1), some (.int (σ.1 32 2))], [.int e, .ref 39, .int (σ.1 38 e.toNatClampNeg), .int (σ.1 37 e.toNatClampNeg), .ref 32], ((bz_up (bz_up σ.1 32 27 (-6)) 32 28 (-6)), σ.2))) (G := vp_in e 60 ∧ True) (lp_goc_blk14 σ e τ1) ⟨(by have := ha.1; rw [hi]; exact vp_in_nI (by omega) (by decide)), trivial⟩ ?_
          refine bz_wpn bT_X11_goCrises 4 (b := (123, [some (.ref 32), some (.int e), some (.int τ1), some (.int (σ.1 32 2))], [.int e, .ref 40, .int (σ.1 39 e.toNatClampNeg), .int (σ.1 38 e.toNatClampNeg), .int (σ.1 37 e.toNatClampNeg), .ref 32], ((bz_up (bz_up σ.1 32 27 (-6)) 32 28 (-6)), σ.2))) (G := vp_in e 60 ∧ True) (lp_goc_blk15 σ e τ1) ⟨(by have := ha.1; rw [hi]; exact vp_in_nI (by omega) (by decide)), trivial⟩ ?_
          refine bz_wpn bT_X11_goCrises 1 (b := (124, [some (.ref 32), some (.int e), some (.int τ1), some (.int (σ.1 32 2))], [.int (σ.1 40 e.toNatClampNeg), .int (σ.1 39 e.toNatClampNeg), .int (σ.1 38 e.toNatClampNeg), .int (σ.1 37 e.toNatClampNeg), .ref 32], ((bz_up (bz_up σ.1 32 27 (-6)) 32 28 (-6)), σ.2))) (G := vp_in e 60 ∧ True) (lp_goc_blk16 σ e τ1) ⟨(by have := ha.1; rw [hi]; exact vp_in_nI (by omega) (by decide)), trivial⟩ ?_
          refine bz_wcv bT_X11_goCrises [.ref 32, .int (σ.1 37 e.toNatClampNeg), .int (σ.1 38 e.toNatClampNeg), .int (σ.1 39 e.toNatClampNeg), .int (σ.1 40 e.toNatClampNeg)] (pc' := 127) (rest := []) rfl rfl (Nat.le_of_ble_eq_true rfl) rfl (Nat.le_of_ble_eq_true rfl) rfl (s_X11_happen_32 ((bz_up (bz_up σ.1 32 27 (-6)) 32 28 (-6)), σ.2) (σ.1 37 e.toNatClampNeg) (σ.1 38 e.toNatClampNeg) (σ.1 39 e.toNatClampNeg) (σ.1 40 e.toNatClampNeg) (by have := ha.1; rw [hi, nI_clamp (by omega)]; exact (ha.2.2 j9 (by omega)).1) (by have := ha.1; rw [hi, nI_clamp (by omega)]; exact (ha.2.2 j9 (by omega)).2)) rfl ?_
          generalize hτ2 : f_X11_happen_32 ((bz_up (bz_up σ.1 32 27 (-6)) 32 28 (-6)), σ.2) (σ.1 37 e.toNatClampNeg) (σ.1 38 e.toNatClampNeg) (σ.1 39 e.toNatClampNeg) (σ.1 40 e.toNatClampNeg) = τ2
          refine bz_wpb bT_X11_goCrises 5 (b1 := (147, [some (.ref 32), some (.int e), some (.int τ1), some (.int (σ.1 32 2))], [.ref 32], τ2)) (b2 := (136, [some (.ref 32), some (.int e), some (.int τ1), some (.int (σ.1 32 2))], [.ref 32], τ2)) (C := (τ2.1 32 2) ≤ (σ.1 32 2)) (G := True) (lp_goc_blk17 σ e τ1 τ2) trivial (fun h6 => ?_) (fun h6 => ?_)
          · skip
            refine bz_wpn bT_X11_goCrises 5 (b := (30, [some (.ref 32), some (.int (e + 1)), some (.int τ1), some (.int (σ.1 32 2))], [], ((bz_up τ2.1 32 29 (τ2.1 32 29)), τ2.2))) (G := True) (lp_goc_blk18 σ e τ1 τ2) trivial ?_
            have e9 : lp_goc (n + 1) σ e = (lp_goc n ((bz_up τ2.1 32 29 (τ2.1 32 29)), τ2.2) (e + 1)) := by rw [lp_goc, if_neg (h1), hτ1, lp_goc_a, if_pos (h2), if_pos ((Decidable.not_not.mp h3)), hτ2, lp_goc_b, if_pos (h6)]
            rw [e9]
            refine bz_wpw (L' := [some (.ref 32), some (.int (e + 1)), none, none]) (by exact ⟨rfl, rfl, trivial⟩) ?_
            exact ih ((bz_up τ2.1 32 29 (τ2.1 32 29)), τ2.2) (e + 1) (j9 + 1) (by rw [hi]; exact nI_1 j9) (by omega) (bz_actsA_c (bz_actsA_h (bz_actsA_c ha (by simp [bz_up]) (by funext q9; simp [bz_up]) (by funext q9; simp [bz_up])) hτ2) (by simp [bz_up]) (by funext q9; simp [bz_up]) (by funext q9; simp [bz_up]))
          · skip
            refine bz_wpb bT_X11_goCrises 3 (b1 := (147, [some (.ref 32), some (.int e), some (.int τ1), some (.int (σ.1 32 2))], [.ref 32], τ2)) (b2 := (143, [some (.ref 32), some (.int e), some (.int τ1), some (.int (σ.1 32 2))], [.ref 32], τ2)) (C := 0 ≤ (τ2.1 32 29)) (G := True) (lp_goc_blk19 σ e τ1 τ2) trivial (fun h7 => ?_) (fun h7 => ?_)
            · skip
              refine bz_wpn bT_X11_goCrises 5 (b := (30, [some (.ref 32), some (.int (e + 1)), some (.int τ1), some (.int (σ.1 32 2))], [], ((bz_up τ2.1 32 29 (τ2.1 32 29)), τ2.2))) (G := True) (lp_goc_blk20 σ e τ1 τ2) trivial ?_
              have e9 : lp_goc (n + 1) σ e = (lp_goc n ((bz_up τ2.1 32 29 (τ2.1 32 29)), τ2.2) (e + 1)) := by rw [lp_goc, if_neg (h1), hτ1, lp_goc_a, if_pos (h2), if_pos ((Decidable.not_not.mp h3)), hτ2, lp_goc_b, if_neg (h6), if_pos (h7)]
              rw [e9]
              refine bz_wpw (L' := [some (.ref 32), some (.int (e + 1)), none, none]) (by exact ⟨rfl, rfl, trivial⟩) ?_
              exact ih ((bz_up τ2.1 32 29 (τ2.1 32 29)), τ2.2) (e + 1) (j9 + 1) (by rw [hi]; exact nI_1 j9) (by omega) (bz_actsA_c (bz_actsA_h (bz_actsA_c ha (by simp [bz_up]) (by funext q9; simp [bz_up]) (by funext q9; simp [bz_up])) hτ2) (by simp [bz_up]) (by funext q9; simp [bz_up]) (by funext q9; simp [bz_up]))
            · skip
              refine bz_wpn bT_X11_goCrises 5 (b := (30, [some (.ref 32), some (.int (e + 1)), some (.int τ1), some (.int (σ.1 32 2))], [], ((bz_up τ2.1 32 29 e), τ2.2))) (G := True) (lp_goc_blk21 σ e τ1 τ2) trivial ?_
              have e9 : lp_goc (n + 1) σ e = (lp_goc n ((bz_up τ2.1 32 29 e), τ2.2) (e + 1)) := by rw [lp_goc, if_neg (h1), hτ1, lp_goc_a, if_pos (h2), if_pos ((Decidable.not_not.mp h3)), hτ2, lp_goc_b, if_neg (h6), if_neg (h7)]
              rw [e9]
              refine bz_wpw (L' := [some (.ref 32), some (.int (e + 1)), none, none]) (by exact ⟨rfl, rfl, trivial⟩) ?_
              exact ih ((bz_up τ2.1 32 29 e), τ2.2) (e + 1) (j9 + 1) (by rw [hi]; exact nI_1 j9) (by omega) (bz_actsA_c (bz_actsA_h (bz_actsA_c ha (by simp [bz_up]) (by funext q9; simp [bz_up]) (by funext q9; simp [bz_up])) hτ2) (by simp [bz_up]) (by funext q9; simp [bz_up]) (by funext q9; simp [bz_up]))
      · skip
        refine bz_wpb bT_X11_goCrises 6 (b1 := (90, [some (.ref 32), some (.int e), some (.int τ1), some (.int (σ.1 32 2))], [.ref 32], ((bz_up σ.1 32 27 e), σ.2))) (b2 := (86, [some (.ref 32), some (.int e), some (.int τ1), some (.int (σ.1 32 2))], [.ref 32], ((bz_up σ.1 32 27 e), σ.2))) (C := τ1 ≤ 0) (G := True) (lp_goc_blk22 σ e τ1) trivial (fun z => absurd z h2) (fun _ => ?_)
        refine bz_wpb bT_X11_goCrises 5 (b1 := (127, [some (.ref 32), some (.int e), some (.int τ1), some (.int (σ.1 32 2))], [], ((bz_up (bz_up σ.1 32 27 e) 32 28 τ1), σ.2))) (b2 := (99, [some (.ref 32), some (.int e), some (.int τ1), some (.int (σ.1 32 2))], [], ((bz_up (bz_up σ.1 32 27 e) 32 28 τ1), σ.2))) (C := ¬ τ1 = 0) (G := True) (lp_goc_blk23 σ e τ1) trivial (fun h8 => ?_) (fun h8 => ?_)
        · skip
          refine bz_wpb bT_X11_goCrises 5 (b1 := (147, [some (.ref 32), some (.int e), some (.int τ1), some (.int (σ.1 32 2))], [.ref 32], ((bz_up (bz_up σ.1 32 27 e) 32 28 τ1), σ.2))) (b2 := (136, [some (.ref 32), some (.int e), some (.int τ1), some (.int (σ.1 32 2))], [.ref 32], ((bz_up (bz_up σ.1 32 27 e) 32 28 τ1), σ.2))) (C := (σ.1 32 2) ≤ (σ.1 32 2)) (G := True) (lp_goc_blk24 σ e τ1) trivial (fun h9 => ?_) (fun h9 => ?_)
          · skip
            refine bz_wpn bT_X11_goCrises 5 (b := (30, [some (.ref 32), some (.int (e + 1)), some (.int τ1), some (.int (σ.1 32 2))], [], ((bz_up (bz_up (bz_up σ.1 32 27 e) 32 28 τ1) 32 29 (σ.1 32 29)), σ.2))) (G := True) (lp_goc_blk25 σ e τ1) trivial ?_
            have e9 : lp_goc (n + 1) σ e = (lp_goc n ((bz_up (bz_up (bz_up σ.1 32 27 e) 32 28 τ1) 32 29 (σ.1 32 29)), σ.2) (e + 1)) := by rw [lp_goc, if_neg (h1), hτ1, lp_goc_a, if_neg (h2), if_neg (h8), if_pos (h9)]
            rw [e9]
            refine bz_wpw (L' := [some (.ref 32), some (.int (e + 1)), none, none]) (by exact ⟨rfl, rfl, trivial⟩) ?_
            exact ih ((bz_up (bz_up (bz_up σ.1 32 27 e) 32 28 τ1) 32 29 (σ.1 32 29)), σ.2) (e + 1) (j9 + 1) (by rw [hi]; exact nI_1 j9) (by omega) (bz_actsA_c ha (by simp [bz_up]) (by funext q9; simp [bz_up]) (by funext q9; simp [bz_up]))
          · skip
            refine bz_wpb bT_X11_goCrises 3 (b1 := (147, [some (.ref 32), some (.int e), some (.int τ1), some (.int (σ.1 32 2))], [.ref 32], ((bz_up (bz_up σ.1 32 27 e) 32 28 τ1), σ.2))) (b2 := (143, [some (.ref 32), some (.int e), some (.int τ1), some (.int (σ.1 32 2))], [.ref 32], ((bz_up (bz_up σ.1 32 27 e) 32 28 τ1), σ.2))) (C := 0 ≤ (σ.1 32 29)) (G := True) (lp_goc_blk26 σ e τ1) trivial (fun h10 => ?_) (fun h10 => ?_)
            · skip
              refine bz_wpn bT_X11_goCrises 5 (b := (30, [some (.ref 32), some (.int (e + 1)), some (.int τ1), some (.int (σ.1 32 2))], [], ((bz_up (bz_up (bz_up σ.1 32 27 e) 32 28 τ1) 32 29 (σ.1 32 29)), σ.2))) (G := True) (lp_goc_blk27 σ e τ1) trivial ?_
              have e9 : lp_goc (n + 1) σ e = (lp_goc n ((bz_up (bz_up (bz_up σ.1 32 27 e) 32 28 τ1) 32 29 (σ.1 32 29)), σ.2) (e + 1)) := by rw [lp_goc, if_neg (h1), hτ1, lp_goc_a, if_neg (h2), if_neg (h8), if_neg (h9), if_pos (h10)]
              rw [e9]
              refine bz_wpw (L' := [some (.ref 32), some (.int (e + 1)), none, none]) (by exact ⟨rfl, rfl, trivial⟩) ?_
              exact ih ((bz_up (bz_up (bz_up σ.1 32 27 e) 32 28 τ1) 32 29 (σ.1 32 29)), σ.2) (e + 1) (j9 + 1) (by rw [hi]; exact nI_1 j9) (by omega) (bz_actsA_c ha (by simp [bz_up]) (by funext q9; simp [bz_up]) (by funext q9; simp [bz_up]))
            · skip
              refine bz_wpn bT_X11_goCrises 5 (b := (30, [some (.ref 32), some (.int (e + 1)), some (.int τ1), some (.int (σ.1 32 2))], [], ((bz_up (bz_up (bz_up σ.1 32 27 e) 32 28 τ1) 32 29 e), σ.2))) (G := True) (lp_goc_blk28 σ e τ1) trivial ?_
              have e9 : lp_goc (n + 1) σ e = (lp_goc n ((bz_up (bz_up (bz_up σ.1 32 27 e) 32 28 τ1) 32 29 e), σ.2) (e + 1)) := by rw [lp_goc, if_neg (h1), hτ1, lp_goc_a, if_neg (h2), if_neg (h8), if_neg (h9), if_neg (h10)]
              rw [e9]
              refine bz_wpw (L' := [some (.ref 32), some (.int (e + 1)), none, none]) (by exact ⟨rfl, rfl, trivial⟩) ?_
              exact ih ((bz_up (bz_up (bz_up σ.1 32 27 e) 32 28 τ1) 32 29 e), σ.2) (e + 1) (j9 + 1) (by rw [hi]; exact nI_1 j9) (by omega) (bz_actsA_c ha (by simp [bz_up]) (by funext q9; simp [bz_up]) (by funext q9; simp [bz_up]))
        · skip
          refine bz_wpn bT_X11_goCrises 4 (b := (105, [some (.ref 32), some (.int e), some (.int τ1), some (.int (σ.1 32 2))], [.int e, .ref 37, .ref 32], ((bz_up (bz_up σ.1 32 27 e) 32 28 τ1), σ.2))) (G := True) (lp_goc_blk29 σ e τ1) trivial ?_
          refine bz_wpn bT_X11_goCrises 4 (b := (111, [some (.ref 32), some (.int e), some (.int τ1), some (.int (σ.1 32 2))], [.int e, .ref 38, .int (σ.1 37 e.toNatClampNeg), .ref 32], ((bz_up (bz_up σ.1 32 27 e) 32 28 τ1), σ.2))) (G := vp_in e 60 ∧ True) (lp_goc_blk30 σ e τ1) ⟨(by have := ha.1; rw [hi]; exact vp_in_nI (by omega) (by decide)), trivial⟩ ?_
          refine bz_wpn bT_X11_goCrises 4 (b := (117, [some (.ref 32), some (.int e), some (.int τ1), some (.int (σ.1 32 2))], [.int e, .ref 39, .int (σ.1 38 e.toNatClampNeg), .int (σ.1 37 e.toNatClampNeg), .ref 32], ((bz_up (bz_up σ.1 32 27 e) 32 28 τ1), σ.2))) (G := vp_in e 60 ∧ True) (lp_goc_blk31 σ e τ1) ⟨(by have := ha.1; rw [hi]; exact vp_in_nI (by omega) (by decide)), trivial⟩ ?_
          refine bz_wpn bT_X11_goCrises 4 (b := (123, [some (.ref 32), some (.int e), some (.int τ1), some (.int (σ.1 32 2))], [.int e, .ref 40, .int (σ.1 39 e.toNatClampNeg), .int (σ.1 38 e.toNatClampNeg), .int (σ.1 37 e.toNatClampNeg), .ref 32], ((bz_up (bz_up σ.1 32 27 e) 32 28 τ1), σ.2))) (G := vp_in e 60 ∧ True) (lp_goc_blk32 σ e τ1) ⟨(by have := ha.1; rw [hi]; exact vp_in_nI (by omega) (by decide)), trivial⟩ ?_
          refine bz_wpn bT_X11_goCrises 1 (b := (124, [some (.ref 32), some (.int e), some (.int τ1), some (.int (σ.1 32 2))], [.int (σ.1 40 e.toNatClampNeg), .int (σ.1 39 e.toNatClampNeg), .int (σ.1 38 e.toNatClampNeg), .int (σ.1 37 e.toNatClampNeg), .ref 32], ((bz_up (bz_up σ.1 32 27 e) 32 28 τ1), σ.2))) (G := vp_in e 60 ∧ True) (lp_goc_blk33 σ e τ1) ⟨(by have := ha.1; rw [hi]; exact vp_in_nI (by omega) (by decide)), trivial⟩ ?_
          refine bz_wcv bT_X11_goCrises [.ref 32, .int (σ.1 37 e.toNatClampNeg), .int (σ.1 38 e.toNatClampNeg), .int (σ.1 39 e.toNatClampNeg), .int (σ.1 40 e.toNatClampNeg)] (pc' := 127) (rest := []) rfl rfl (Nat.le_of_ble_eq_true rfl) rfl (Nat.le_of_ble_eq_true rfl) rfl (s_X11_happen_32 ((bz_up (bz_up σ.1 32 27 e) 32 28 τ1), σ.2) (σ.1 37 e.toNatClampNeg) (σ.1 38 e.toNatClampNeg) (σ.1 39 e.toNatClampNeg) (σ.1 40 e.toNatClampNeg) (by have := ha.1; rw [hi, nI_clamp (by omega)]; exact (ha.2.2 j9 (by omega)).1) (by have := ha.1; rw [hi, nI_clamp (by omega)]; exact (ha.2.2 j9 (by omega)).2)) rfl ?_
          generalize hτ3 : f_X11_happen_32 ((bz_up (bz_up σ.1 32 27 e) 32 28 τ1), σ.2) (σ.1 37 e.toNatClampNeg) (σ.1 38 e.toNatClampNeg) (σ.1 39 e.toNatClampNeg) (σ.1 40 e.toNatClampNeg) = τ3
          refine bz_wpb bT_X11_goCrises 5 (b1 := (147, [some (.ref 32), some (.int e), some (.int τ1), some (.int (σ.1 32 2))], [.ref 32], τ3)) (b2 := (136, [some (.ref 32), some (.int e), some (.int τ1), some (.int (σ.1 32 2))], [.ref 32], τ3)) (C := (τ3.1 32 2) ≤ (σ.1 32 2)) (G := True) (lp_goc_blk34 σ e τ1 τ3) trivial (fun h11 => ?_) (fun h11 => ?_)
          · skip
            refine bz_wpn bT_X11_goCrises 5 (b := (30, [some (.ref 32), some (.int (e + 1)), some (.int τ1), some (.int (σ.1 32 2))], [], ((bz_up τ3.1 32 29 (τ3.1 32 29)), τ3.2))) (G := True) (lp_goc_blk35 σ e τ1 τ3) trivial ?_
            have e9 : lp_goc (n + 1) σ e = (lp_goc n ((bz_up τ3.1 32 29 (τ3.1 32 29)), τ3.2) (e + 1)) := by rw [lp_goc, if_neg (h1), hτ1, lp_goc_a, if_neg (h2), if_pos ((Decidable.not_not.mp h8)), hτ3, lp_goc_c, if_pos (h11)]
            rw [e9]
            refine bz_wpw (L' := [some (.ref 32), some (.int (e + 1)), none, none]) (by exact ⟨rfl, rfl, trivial⟩) ?_
            exact ih ((bz_up τ3.1 32 29 (τ3.1 32 29)), τ3.2) (e + 1) (j9 + 1) (by rw [hi]; exact nI_1 j9) (by omega) (bz_actsA_c (bz_actsA_h (bz_actsA_c ha (by simp [bz_up]) (by funext q9; simp [bz_up]) (by funext q9; simp [bz_up])) hτ3) (by simp [bz_up]) (by funext q9; simp [bz_up]) (by funext q9; simp [bz_up]))
          · skip
            refine bz_wpb bT_X11_goCrises 3 (b1 := (147, [some (.ref 32), some (.int e), some (.int τ1), some (.int (σ.1 32 2))], [.ref 32], τ3)) (b2 := (143, [some (.ref 32), some (.int e), some (.int τ1), some (.int (σ.1 32 2))], [.ref 32], τ3)) (C := 0 ≤ (τ3.1 32 29)) (G := True) (lp_goc_blk36 σ e τ1 τ3) trivial (fun h12 => ?_) (fun h12 => ?_)
            · skip
              refine bz_wpn bT_X11_goCrises 5 (b := (30, [some (.ref 32), some (.int (e + 1)), some (.int τ1), some (.int (σ.1 32 2))], [], ((bz_up τ3.1 32 29 (τ3.1 32 29)), τ3.2))) (G := True) (lp_goc_blk37 σ e τ1 τ3) trivial ?_
              have e9 : lp_goc (n + 1) σ e = (lp_goc n ((bz_up τ3.1 32 29 (τ3.1 32 29)), τ3.2) (e + 1)) := by rw [lp_goc, if_neg (h1), hτ1, lp_goc_a, if_neg (h2), if_pos ((Decidable.not_not.mp h8)), hτ3, lp_goc_c, if_neg (h11), if_pos (h12)]
              rw [e9]
              refine bz_wpw (L' := [some (.ref 32), some (.int (e + 1)), none, none]) (by exact ⟨rfl, rfl, trivial⟩) ?_
              exact ih ((bz_up τ3.1 32 29 (τ3.1 32 29)), τ3.2) (e + 1) (j9 + 1) (by rw [hi]; exact nI_1 j9) (by omega) (bz_actsA_c (bz_actsA_h (bz_actsA_c ha (by simp [bz_up]) (by funext q9; simp [bz_up]) (by funext q9; simp [bz_up])) hτ3) (by simp [bz_up]) (by funext q9; simp [bz_up]) (by funext q9; simp [bz_up]))
            · skip
              refine bz_wpn bT_X11_goCrises 5 (b := (30, [some (.ref 32), some (.int (e + 1)), some (.int τ1), some (.int (σ.1 32 2))], [], ((bz_up τ3.1 32 29 e), τ3.2))) (G := True) (lp_goc_blk38 σ e τ1 τ3) trivial ?_
              have e9 : lp_goc (n + 1) σ e = (lp_goc n ((bz_up τ3.1 32 29 e), τ3.2) (e + 1)) := by rw [lp_goc, if_neg (h1), hτ1, lp_goc_a, if_neg (h2), if_pos ((Decidable.not_not.mp h8)), hτ3, lp_goc_c, if_neg (h11), if_neg (h12)]
              rw [e9]
              refine bz_wpw (L' := [some (.ref 32), some (.int (e + 1)), none, none]) (by exact ⟨rfl, rfl, trivial⟩) ?_
              exact ih ((bz_up τ3.1 32 29 e), τ3.2) (e + 1) (j9 + 1) (by rw [hi]; exact nI_1 j9) (by omega) (bz_actsA_c (bz_actsA_h (bz_actsA_c ha (by simp [bz_up]) (by funext q9; simp [bz_up]) (by funext q9; simp [bz_up])) hτ3) (by simp [bz_up]) (by funext q9; simp [bz_up]) (by funext q9; simp [bz_up]))
theorem rlp_goc_b (rc : bz_S → Int32 → bz_S) (σ : bz_S) (e : Int32) (τ1 : Int32) (τ2 : bz_S) (ihc : ∀ (σ : bz_S) (e : Int32), bz_fr [32, 33, 41] σ (rc σ e)) (fτ2 : bz_fr [32, 33, 41] σ τ2) : bz_fr [32, 33, 41] σ (lp_goc_b rc σ e τ1 τ2) := by
  unfold lp_goc_b
  exact (bz_ite (bz_fr_tr (τ := ((bz_up τ2.1 32 29 (τ2.1 32 29)), τ2.2)) ⟨(bz_f1_up (fτ2).1 (by decide)), (fτ2).2⟩ (ihc ((bz_up τ2.1 32 29 (τ2.1 32 29)), τ2.2) (e + 1))) (bz_ite (bz_fr_tr (τ := ((bz_up τ2.1 32 29 (τ2.1 32 29)), τ2.2)) ⟨(bz_f1_up (fτ2).1 (by decide)), (fτ2).2⟩ (ihc ((bz_up τ2.1 32 29 (τ2.1 32 29)), τ2.2) (e + 1))) (bz_fr_tr (τ := ((bz_up τ2.1 32 29 e), τ2.2)) ⟨(bz_f1_up (fτ2).1 (by decide)), (fτ2).2⟩ (ihc ((bz_up τ2.1 32 29 e), τ2.2) (e + 1)))))
theorem rlp_goc_c (rc : bz_S → Int32 → bz_S) (σ : bz_S) (e : Int32) (τ1 : Int32) (τ3 : bz_S) (ihc : ∀ (σ : bz_S) (e : Int32), bz_fr [32, 33, 41] σ (rc σ e)) (fτ3 : bz_fr [32, 33, 41] σ τ3) : bz_fr [32, 33, 41] σ (lp_goc_c rc σ e τ1 τ3) := by
  unfold lp_goc_c
  exact (bz_ite (bz_fr_tr (τ := ((bz_up τ3.1 32 29 (τ3.1 32 29)), τ3.2)) ⟨(bz_f1_up (fτ3).1 (by decide)), (fτ3).2⟩ (ihc ((bz_up τ3.1 32 29 (τ3.1 32 29)), τ3.2) (e + 1))) (bz_ite (bz_fr_tr (τ := ((bz_up τ3.1 32 29 (τ3.1 32 29)), τ3.2)) ⟨(bz_f1_up (fτ3).1 (by decide)), (fτ3).2⟩ (ihc ((bz_up τ3.1 32 29 (τ3.1 32 29)), τ3.2) (e + 1))) (bz_fr_tr (τ := ((bz_up τ3.1 32 29 e), τ3.2)) ⟨(bz_f1_up (fτ3).1 (by decide)), (fτ3).2⟩ (ihc ((bz_up τ3.1 32 29 e), τ3.2) (e + 1)))))
theorem rlp_goc_a (rc : bz_S → Int32 → bz_S) (σ : bz_S) (e : Int32) (τ1 : Int32) (ihc : ∀ (σ : bz_S) (e : Int32), bz_fr [32, 33, 41] σ (rc σ e)) : bz_fr [32, 33, 41] σ (lp_goc_a rc σ e τ1) := by
  unfold lp_goc_a
  exact (bz_ite (bz_ite (rlp_goc_b rc σ e τ1 (f_X11_happen_32 ((bz_up (bz_up σ.1 32 27 (-6)) 32 28 (-6)), σ.2) (σ.1 37 e.toNatClampNeg) (σ.1 38 e.toNatClampNeg) (σ.1 39 e.toNatClampNeg) (σ.1 40 e.toNatClampNeg)) ihc (bz_fr_tr (τ := ((bz_up (bz_up σ.1 32 27 (-6)) 32 28 (-6)), σ.2)) ⟨(bz_f1_up (bz_f1_up (bz_fr_rf).1 (by decide)) (by decide)), (bz_fr_rf).2⟩ (bz_fr_mo (rf_X11_happen_32 ((bz_up (bz_up σ.1 32 27 (-6)) 32 28 (-6)), σ.2) (σ.1 37 e.toNatClampNeg) (σ.1 38 e.toNatClampNeg) (σ.1 39 e.toNatClampNeg) (σ.1 40 e.toNatClampNeg)) (by decide)))) (bz_ite (bz_fr_tr (τ := ((bz_up (bz_up (bz_up σ.1 32 27 (-6)) 32 28 (-6)) 32 29 (σ.1 32 29)), σ.2)) ⟨(bz_f1_up (bz_f1_up (bz_f1_up (bz_fr_rf).1 (by decide)) (by decide)) (by decide)), (bz_fr_rf).2⟩ (ihc ((bz_up (bz_up (bz_up σ.1 32 27 (-6)) 32 28 (-6)) 32 29 (σ.1 32 29)), σ.2) (e + 1))) (bz_ite (bz_fr_tr (τ := ((bz_up (bz_up (bz_up σ.1 32 27 (-6)) 32 28 (-6)) 32 29 (σ.1 32 29)), σ.2)) ⟨(bz_f1_up (bz_f1_up (bz_f1_up (bz_fr_rf).1 (by decide)) (by decide)) (by decide)), (bz_fr_rf).2⟩ (ihc ((bz_up (bz_up (bz_up σ.1 32 27 (-6)) 32 28 (-6)) 32 29 (σ.1 32 29)), σ.2) (e + 1))) (bz_fr_tr (τ := ((bz_up (bz_up (bz_up σ.1 32 27 (-6)) 32 28 (-6)) 32 29 e), σ.2)) ⟨(bz_f1_up (bz_f1_up (bz_f1_up (bz_fr_rf).1 (by decide)) (by decide)) (by decide)), (bz_fr_rf).2⟩ (ihc ((bz_up (bz_up (bz_up σ.1 32 27 (-6)) 32 28 (-6)) 32 29 e), σ.2) (e + 1)))))) (bz_ite (rlp_goc_c rc σ e τ1 (f_X11_happen_32 ((bz_up (bz_up σ.1 32 27 e) 32 28 τ1), σ.2) (σ.1 37 e.toNatClampNeg) (σ.1 38 e.toNatClampNeg) (σ.1 39 e.toNatClampNeg) (σ.1 40 e.toNatClampNeg)) ihc (bz_fr_tr (τ := ((bz_up (bz_up σ.1 32 27 e) 32 28 τ1), σ.2)) ⟨(bz_f1_up (bz_f1_up (bz_fr_rf).1 (by decide)) (by decide)), (bz_fr_rf).2⟩ (bz_fr_mo (rf_X11_happen_32 ((bz_up (bz_up σ.1 32 27 e) 32 28 τ1), σ.2) (σ.1 37 e.toNatClampNeg) (σ.1 38 e.toNatClampNeg) (σ.1 39 e.toNatClampNeg) (σ.1 40 e.toNatClampNeg)) (by decide)))) (bz_ite (bz_fr_tr (τ := ((bz_up (bz_up (bz_up σ.1 32 27 e) 32 28 τ1) 32 29 (σ.1 32 29)), σ.2)) ⟨(bz_f1_up (bz_f1_up (bz_f1_up (bz_fr_rf).1 (by decide)) (by decide)) (by decide)), (bz_fr_rf).2⟩ (ihc ((bz_up (bz_up (bz_up σ.1 32 27 e) 32 28 τ1) 32 29 (σ.1 32 29)), σ.2) (e + 1))) (bz_ite (bz_fr_tr (τ := ((bz_up (bz_up (bz_up σ.1 32 27 e) 32 28 τ1) 32 29 (σ.1 32 29)), σ.2)) ⟨(bz_f1_up (bz_f1_up (bz_f1_up (bz_fr_rf).1 (by decide)) (by decide)) (by decide)), (bz_fr_rf).2⟩ (ihc ((bz_up (bz_up (bz_up σ.1 32 27 e) 32 28 τ1) 32 29 (σ.1 32 29)), σ.2) (e + 1))) (bz_fr_tr (τ := ((bz_up (bz_up (bz_up σ.1 32 27 e) 32 28 τ1) 32 29 e), σ.2)) ⟨(bz_f1_up (bz_f1_up (bz_f1_up (bz_fr_rf).1 (by decide)) (by decide)) (by decide)), (bz_fr_rf).2⟩ (ihc ((bz_up (bz_up (bz_up σ.1 32 27 e) 32 28 τ1) 32 29 e), σ.2) (e + 1)))))))
theorem rlp_goc : ∀ (n : Nat) (σ : bz_S) (e : Int32), bz_fr [32, 33, 41] σ (lp_goc n σ e) := by
  intro n
  induction n with
  | zero =>
    intro σ e
    rw [lp_goc]
    exact bz_fr_rf
  | succ n ihc =>
    intro σ e
    rw [lp_goc]
    exact (bz_ite bz_fr_rf (rlp_goc_a (lp_goc n) σ e (f_X11_whyNot_32 σ (σ.1 37 e.toNatClampNeg) (σ.1 38 e.toNatClampNeg)) ihc))
theorem qlp_goc_b (rc : bz_S → Int32 → bz_S) (σ : bz_S) (e : Int32) (τ1 : Int32) (τ2 : bz_S) (ihc : ∀ (σ : bz_S) (e : Int32), bz_fo [1, 2, 3, 14, 15, 16, 17, 18, 19, 20, 21, 22, 23, 24, 27, 28, 29] σ (rc σ e)) (fτ2 : bz_fo [1, 2, 3, 14, 15, 16, 17, 18, 19, 20, 21, 22, 23, 24, 27, 28, 29] σ τ2) : bz_fo [1, 2, 3, 14, 15, 16, 17, 18, 19, 20, 21, 22, 23, 24, 27, 28, 29] σ (lp_goc_b rc σ e τ1 τ2) := by
  unfold lp_goc_b
  exact (bz_ite (bz_fo_tr (τ := ((bz_up τ2.1 32 29 (τ2.1 32 29)), τ2.2)) (bz_fo_up (f := _) fτ2 (by decide)) (ihc ((bz_up τ2.1 32 29 (τ2.1 32 29)), τ2.2) (e + 1))) (bz_ite (bz_fo_tr (τ := ((bz_up τ2.1 32 29 (τ2.1 32 29)), τ2.2)) (bz_fo_up (f := _) fτ2 (by decide)) (ihc ((bz_up τ2.1 32 29 (τ2.1 32 29)), τ2.2) (e + 1))) (bz_fo_tr (τ := ((bz_up τ2.1 32 29 e), τ2.2)) (bz_fo_up (f := _) fτ2 (by decide)) (ihc ((bz_up τ2.1 32 29 e), τ2.2) (e + 1)))))
theorem qlp_goc_c (rc : bz_S → Int32 → bz_S) (σ : bz_S) (e : Int32) (τ1 : Int32) (τ3 : bz_S) (ihc : ∀ (σ : bz_S) (e : Int32), bz_fo [1, 2, 3, 14, 15, 16, 17, 18, 19, 20, 21, 22, 23, 24, 27, 28, 29] σ (rc σ e)) (fτ3 : bz_fo [1, 2, 3, 14, 15, 16, 17, 18, 19, 20, 21, 22, 23, 24, 27, 28, 29] σ τ3) : bz_fo [1, 2, 3, 14, 15, 16, 17, 18, 19, 20, 21, 22, 23, 24, 27, 28, 29] σ (lp_goc_c rc σ e τ1 τ3) := by
  unfold lp_goc_c
  exact (bz_ite (bz_fo_tr (τ := ((bz_up τ3.1 32 29 (τ3.1 32 29)), τ3.2)) (bz_fo_up (f := _) fτ3 (by decide)) (ihc ((bz_up τ3.1 32 29 (τ3.1 32 29)), τ3.2) (e + 1))) (bz_ite (bz_fo_tr (τ := ((bz_up τ3.1 32 29 (τ3.1 32 29)), τ3.2)) (bz_fo_up (f := _) fτ3 (by decide)) (ihc ((bz_up τ3.1 32 29 (τ3.1 32 29)), τ3.2) (e + 1))) (bz_fo_tr (τ := ((bz_up τ3.1 32 29 e), τ3.2)) (bz_fo_up (f := _) fτ3 (by decide)) (ihc ((bz_up τ3.1 32 29 e), τ3.2) (e + 1)))))
theorem qlp_goc_a (rc : bz_S → Int32 → bz_S) (σ : bz_S) (e : Int32) (τ1 : Int32) (ihc : ∀ (σ : bz_S) (e : Int32), bz_fo [1, 2, 3, 14, 15, 16, 17, 18, 19, 20, 21, 22, 23, 24, 27, 28, 29] σ (rc σ e)) : bz_fo [1, 2, 3, 14, 15, 16, 17, 18, 19, 20, 21, 22, 23, 24, 27, 28, 29] σ (lp_goc_a rc σ e τ1) := by
  unfold lp_goc_a
  exact (bz_ite (bz_ite (qlp_goc_b rc σ e τ1 (f_X11_happen_32 ((bz_up (bz_up σ.1 32 27 (-6)) 32 28 (-6)), σ.2) (σ.1 37 e.toNatClampNeg) (σ.1 38 e.toNatClampNeg) (σ.1 39 e.toNatClampNeg) (σ.1 40 e.toNatClampNeg)) ihc (bz_fo_tr (τ := ((bz_up (bz_up σ.1 32 27 (-6)) 32 28 (-6)), σ.2)) (bz_fo_up (f := _) (bz_fo_up (f := _) bz_fo_rf (by decide)) (by decide)) (bz_fo_mo (qf_X11_happen_32 ((bz_up (bz_up σ.1 32 27 (-6)) 32 28 (-6)), σ.2) (σ.1 37 e.toNatClampNeg) (σ.1 38 e.toNatClampNeg) (σ.1 39 e.toNatClampNeg) (σ.1 40 e.toNatClampNeg)) (by decide)))) (bz_ite (bz_fo_tr (τ := ((bz_up (bz_up (bz_up σ.1 32 27 (-6)) 32 28 (-6)) 32 29 (σ.1 32 29)), σ.2)) (bz_fo_up (f := _) (bz_fo_up (f := _) (bz_fo_up (f := _) bz_fo_rf (by decide)) (by decide)) (by decide)) (ihc ((bz_up (bz_up (bz_up σ.1 32 27 (-6)) 32 28 (-6)) 32 29 (σ.1 32 29)), σ.2) (e + 1))) (bz_ite (bz_fo_tr (τ := ((bz_up (bz_up (bz_up σ.1 32 27 (-6)) 32 28 (-6)) 32 29 (σ.1 32 29)), σ.2)) (bz_fo_up (f := _) (bz_fo_up (f := _) (bz_fo_up (f := _) bz_fo_rf (by decide)) (by decide)) (by decide)) (ihc ((bz_up (bz_up (bz_up σ.1 32 27 (-6)) 32 28 (-6)) 32 29 (σ.1 32 29)), σ.2) (e + 1))) (bz_fo_tr (τ := ((bz_up (bz_up (bz_up σ.1 32 27 (-6)) 32 28 (-6)) 32 29 e), σ.2)) (bz_fo_up (f := _) (bz_fo_up (f := _) (bz_fo_up (f := _) bz_fo_rf (by decide)) (by decide)) (by decide)) (ihc ((bz_up (bz_up (bz_up σ.1 32 27 (-6)) 32 28 (-6)) 32 29 e), σ.2) (e + 1)))))) (bz_ite (qlp_goc_c rc σ e τ1 (f_X11_happen_32 ((bz_up (bz_up σ.1 32 27 e) 32 28 τ1), σ.2) (σ.1 37 e.toNatClampNeg) (σ.1 38 e.toNatClampNeg) (σ.1 39 e.toNatClampNeg) (σ.1 40 e.toNatClampNeg)) ihc (bz_fo_tr (τ := ((bz_up (bz_up σ.1 32 27 e) 32 28 τ1), σ.2)) (bz_fo_up (f := _) (bz_fo_up (f := _) bz_fo_rf (by decide)) (by decide)) (bz_fo_mo (qf_X11_happen_32 ((bz_up (bz_up σ.1 32 27 e) 32 28 τ1), σ.2) (σ.1 37 e.toNatClampNeg) (σ.1 38 e.toNatClampNeg) (σ.1 39 e.toNatClampNeg) (σ.1 40 e.toNatClampNeg)) (by decide)))) (bz_ite (bz_fo_tr (τ := ((bz_up (bz_up (bz_up σ.1 32 27 e) 32 28 τ1) 32 29 (σ.1 32 29)), σ.2)) (bz_fo_up (f := _) (bz_fo_up (f := _) (bz_fo_up (f := _) bz_fo_rf (by decide)) (by decide)) (by decide)) (ihc ((bz_up (bz_up (bz_up σ.1 32 27 e) 32 28 τ1) 32 29 (σ.1 32 29)), σ.2) (e + 1))) (bz_ite (bz_fo_tr (τ := ((bz_up (bz_up (bz_up σ.1 32 27 e) 32 28 τ1) 32 29 (σ.1 32 29)), σ.2)) (bz_fo_up (f := _) (bz_fo_up (f := _) (bz_fo_up (f := _) bz_fo_rf (by decide)) (by decide)) (by decide)) (ihc ((bz_up (bz_up (bz_up σ.1 32 27 e) 32 28 τ1) 32 29 (σ.1 32 29)), σ.2) (e + 1))) (bz_fo_tr (τ := ((bz_up (bz_up (bz_up σ.1 32 27 e) 32 28 τ1) 32 29 e), σ.2)) (bz_fo_up (f := _) (bz_fo_up (f := _) (bz_fo_up (f := _) bz_fo_rf (by decide)) (by decide)) (by decide)) (ihc ((bz_up (bz_up (bz_up σ.1 32 27 e) 32 28 τ1) 32 29 e), σ.2) (e + 1)))))))
theorem qlp_goc : ∀ (n : Nat) (σ : bz_S) (e : Int32), bz_fo [1, 2, 3, 14, 15, 16, 17, 18, 19, 20, 21, 22, 23, 24, 27, 28, 29] σ (lp_goc n σ e) := by
  intro n
  induction n with
  | zero =>
    intro σ e
    rw [lp_goc]
    exact bz_fo_rf
  | succ n ihc =>
    intro σ e
    rw [lp_goc]
    exact (bz_ite bz_fo_rf (qlp_goc_a (lp_goc n) σ e (f_X11_whyNot_32 σ (σ.1 37 e.toNatClampNeg) (σ.1 38 e.toNatClampNeg)) ihc))

def f_X11_goCrises_32 (σ : bz_S)  : bz_S := lp_goc (σ.1 32 13).toNatClampNeg ((bz_up (bz_up (bz_up (bz_up (bz_up σ.1 32 27 (-6)) 32 28 (-6)) 32 29 (-6)) 32 23 0) 32 24 0), σ.2) 0
set_option maxRecDepth 100000 in
theorem f_X11_goCrises_32_blk1 {X : bz_X} (σ : bz_S) : bz_run X bt_X11_goCrises 17 (0, [some (.ref 32), none, none, none], [], σ) = some (True, (30, [some (.ref 32), some (.int 0), none, none], [], ((bz_up (bz_up (bz_up (bz_up (bz_up σ.1 32 27 (-6)) 32 28 (-6)) 32 29 (-6)) 32 23 0) 32 24 0), σ.2))) := rfl
set_option maxRecDepth 100000 in
theorem s_X11_goCrises_32 {X : bz_X} (σ : bz_S) (ha : ∃ A, bz_actsA A σ) : bz_C bz_P X mX11_goCrises [.ref 32] σ (bz_pv (f_X11_goCrises_32 σ)) := by
  show bz_wp bz_P X mX11_goCrises (bz_pv (f_X11_goCrises_32 σ)) (0, [some (.ref 32), none, none, none], [], σ)
  refine bz_wpn bT_X11_goCrises 17 (b := (30, [some (.ref 32), some (.int 0), none, none], [], ((bz_up (bz_up (bz_up (bz_up (bz_up σ.1 32 27 (-6)) 32 28 (-6)) 32 29 (-6)) 32 23 0) 32 24 0), σ.2))) (G := True) (f_X11_goCrises_32_blk1 σ) trivial ?_
  have e9 : f_X11_goCrises_32 σ = lp_goc (σ.1 32 13).toNatClampNeg ((bz_up (bz_up (bz_up (bz_up (bz_up σ.1 32 27 (-6)) 32 28 (-6)) 32 29 (-6)) 32 23 0) 32 24 0), σ.2) 0 := by rw [f_X11_goCrises_32]
  rw [e9]
  obtain ⟨A, ha⟩ := ha
  exact s_lp_goc A _ ((bz_up (bz_up (bz_up (bz_up (bz_up σ.1 32 27 (-6)) 32 28 (-6)) 32 29 (-6)) 32 23 0) 32 24 0), σ.2) 0 0 rfl (by have := ha.1; rw [ha.2.1, nI_clamp (by omega)]; omega) (bz_actsA_c ha (by simp [bz_up]) (by funext q9; simp [bz_up]) (by funext q9; simp [bz_up]))
theorem rf_X11_goCrises_32 (σ : bz_S)  : bz_fr [32, 33, 41] σ (f_X11_goCrises_32 σ) := by
  unfold f_X11_goCrises_32
  exact (bz_fr_tr (τ := ((bz_up (bz_up (bz_up (bz_up (bz_up σ.1 32 27 (-6)) 32 28 (-6)) 32 29 (-6)) 32 23 0) 32 24 0), σ.2)) ⟨(bz_f1_up (bz_f1_up (bz_f1_up (bz_f1_up (bz_f1_up (bz_fr_rf).1 (by decide)) (by decide)) (by decide)) (by decide)) (by decide)), (bz_fr_rf).2⟩ (bz_fr_mo (rlp_goc (σ.1 32 13).toNatClampNeg ((bz_up (bz_up (bz_up (bz_up (bz_up σ.1 32 27 (-6)) 32 28 (-6)) 32 29 (-6)) 32 23 0) 32 24 0), σ.2) 0) (by decide)))
theorem qf_X11_goCrises_32 (σ : bz_S)  : bz_fo [1, 2, 3, 14, 15, 16, 17, 18, 19, 20, 21, 22, 23, 24, 27, 28, 29] σ (f_X11_goCrises_32 σ) := by
  unfold f_X11_goCrises_32
  exact (bz_fo_tr (τ := ((bz_up (bz_up (bz_up (bz_up (bz_up σ.1 32 27 (-6)) 32 28 (-6)) 32 29 (-6)) 32 23 0) 32 24 0), σ.2)) (bz_fo_up (f := _) (bz_fo_up (f := _) (bz_fo_up (f := _) (bz_fo_up (f := _) (bz_fo_up (f := _) bz_fo_rf (by decide)) (by decide)) (by decide)) (by decide)) (by decide)) (bz_fo_mo (qlp_goc (σ.1 32 13).toNatClampNeg ((bz_up (bz_up (bz_up (bz_up (bz_up σ.1 32 27 (-6)) 32 28 (-6)) 32 29 (-6)) 32 23 0) 32 24 0), σ.2) 0) (by decide)))

def f_X11_refusal_32_c (σ : bz_S) (τ1 : bz_S) (τ2 : Int32 × bz_S) (τ3 : bz_S) : Int32 × bz_S := if (τ3.1 32 27) < 0 then ((-6), τ3) else ((-3), τ3)
def f_X11_refusal_32_b (σ : bz_S) (τ1 : bz_S) (τ2 : Int32 × bz_S) : Int32 × bz_S := if τ2.1 < 0 then (f_X11_refusal_32_c σ τ1 τ2 (f_X11_goCrises_32 τ2.2)) else ((-5), τ2.2)
def f_X11_refusal_32_a (σ : bz_S) (τ1 : bz_S) : Int32 × bz_S := (f_X11_refusal_32_b σ τ1 (f_X11_fault_32 τ1))
def f_X11_refusal_32 (σ : bz_S)  : Int32 × bz_S := (f_X11_refusal_32_a σ (f_X11_keepNow_32 σ))
set_option maxRecDepth 100000 in
theorem f_X11_refusal_32_blk1 {X : bz_X} (σ : bz_S) : bz_run X bt_X11_refusal 1 (0, [some (.ref 32)], [], σ) = some (True, (1, [some (.ref 32)], [.ref 32], σ)) := rfl
set_option maxRecDepth 100000 in
theorem f_X11_refusal_32_blk2 {X : bz_X} (σ : bz_S) (τ1 : bz_S) : bz_run X bt_X11_refusal 1 (4, [some (.ref 32)], [], τ1) = some (True, (5, [some (.ref 32)], [.ref 32], τ1)) := rfl
set_option maxRecDepth 100000 in
theorem f_X11_refusal_32_blk3 {X : bz_X} (σ : bz_S) (τ1 : bz_S) (τ2 : Int32 × bz_S) : bz_run X bt_X11_refusal 1 (8, [some (.ref 32)], [.int τ2.1], τ2.2) = some (True, if τ2.1 < 0 then (14, [some (.ref 32)], [], τ2.2) else (11, [some (.ref 32)], [], τ2.2)) := rfl
set_option maxRecDepth 100000 in
theorem f_X11_refusal_32_blk4 {X : bz_X} (σ : bz_S) (τ1 : bz_S) (τ2 : Int32 × bz_S) : bz_run X bt_X11_refusal 1 (14, [some (.ref 32)], [], τ2.2) = some (True, (15, [some (.ref 32)], [.ref 32], τ2.2)) := rfl
set_option maxRecDepth 100000 in
theorem f_X11_refusal_32_blk5 {X : bz_X} (σ : bz_S) (τ1 : bz_S) (τ2 : Int32 × bz_S) (τ3 : bz_S) : bz_run X bt_X11_refusal 3 (18, [some (.ref 32)], [], τ3) = some (True, if (τ3.1 32 27) < 0 then (30, [some (.ref 32)], [], τ3) else (25, [some (.ref 32)], [], τ3)) := rfl
set_option maxRecDepth 100000 in
theorem f_X11_refusal_32_blk6 {X : bz_X} (σ : bz_S) (τ1 : bz_S) (τ2 : Int32 × bz_S) (τ3 : bz_S) : bz_run X bt_X11_refusal 1 (30, [some (.ref 32)], [], τ3) = some (True, (32, [some (.ref 32)], [.int (-6)], τ3)) := rfl
set_option maxRecDepth 100000 in
theorem f_X11_refusal_32_blk7 {X : bz_X} (σ : bz_S) (τ1 : bz_S) (τ2 : Int32 × bz_S) (τ3 : bz_S) : bz_run X bt_X11_refusal 2 (25, [some (.ref 32)], [], τ3) = some (True, (32, [some (.ref 32)], [.int (-3)], τ3)) := rfl
set_option maxRecDepth 100000 in
theorem f_X11_refusal_32_blk8 {X : bz_X} (σ : bz_S) (τ1 : bz_S) (τ2 : Int32 × bz_S) : bz_run X bt_X11_refusal 1 (11, [some (.ref 32)], [], τ2.2) = some (True, (13, [some (.ref 32)], [.int (-5)], τ2.2)) := rfl
set_option maxRecDepth 100000 in
theorem s_X11_refusal_32 {X : bz_X} (σ : bz_S) (hp : bz_padM σ) : bz_C bz_P X mX11_refusal [.ref 32] σ (bz_pi (f_X11_refusal_32 σ).1 (f_X11_refusal_32 σ).2) := by
  show bz_wp bz_P X mX11_refusal (bz_pi (f_X11_refusal_32 σ).1 (f_X11_refusal_32 σ).2) (0, [some (.ref 32)], [], σ)
  refine bz_wpn bT_X11_refusal 1 (b := (1, [some (.ref 32)], [.ref 32], σ)) (G := True) (f_X11_refusal_32_blk1 σ) trivial ?_
  refine bz_wcv bT_X11_refusal [.ref 32] (pc' := 4) (rest := []) rfl rfl (Nat.le_of_ble_eq_true rfl) rfl (Nat.le_of_ble_eq_true rfl) rfl (s_X11_keepNow_32 σ) rfl ?_
  generalize hτ1 : f_X11_keepNow_32 σ = τ1
  refine bz_wpn bT_X11_refusal 1 (b := (5, [some (.ref 32)], [.ref 32], τ1)) (G := True) (f_X11_refusal_32_blk2 σ τ1) trivial ?_
  refine bz_wci bT_X11_refusal [.ref 32] (pc' := 8) (rest := []) rfl rfl (Nat.le_of_ble_eq_true rfl) rfl (Nat.le_of_ble_eq_true rfl) rfl (s_X11_fault_32 τ1 (bz_padM_c hp (by rw [← hτ1]; exact congrFun (bz_fr_at (rf_X11_keepNow_32 σ) 32 (by decide)) 8))) rfl ?_
  generalize hτ2 : f_X11_fault_32 τ1 = τ2
  refine bz_wpb bT_X11_refusal 1 (b1 := (14, [some (.ref 32)], [], τ2.2)) (b2 := (11, [some (.ref 32)], [], τ2.2)) (C := τ2.1 < 0) (G := True) (f_X11_refusal_32_blk3 σ τ1 τ2) trivial (fun h1 => ?_) (fun h1 => ?_)
  · skip
    refine bz_wpn bT_X11_refusal 1 (b := (15, [some (.ref 32)], [.ref 32], τ2.2)) (G := True) (f_X11_refusal_32_blk4 σ τ1 τ2) trivial ?_
    refine bz_wcv bT_X11_refusal [.ref 32] (pc' := 18) (rest := []) rfl rfl (Nat.le_of_ble_eq_true rfl) rfl (Nat.le_of_ble_eq_true rfl) rfl (s_X11_goCrises_32 τ2.2 (by rw [← hτ2]; exact m_fault_acts (bz_padM_c hp (by rw [← hτ1]; exact congrFun (bz_fr_at (rf_X11_keepNow_32 σ) 32 (by decide)) 8)) (by rw [hτ2]; exact h1))) rfl ?_
    generalize hτ3 : f_X11_goCrises_32 τ2.2 = τ3
    refine bz_wpb bT_X11_refusal 3 (b1 := (30, [some (.ref 32)], [], τ3)) (b2 := (25, [some (.ref 32)], [], τ3)) (C := (τ3.1 32 27) < 0) (G := True) (f_X11_refusal_32_blk5 σ τ1 τ2 τ3) trivial (fun h2 => ?_) (fun h2 => ?_)
    · skip
      refine bz_wpn bT_X11_refusal 1 (b := (32, [some (.ref 32)], [.int (-6)], τ3)) (G := True) (f_X11_refusal_32_blk6 σ τ1 τ2 τ3) trivial ?_
      refine bz_wpr bT_X11_refusal rfl rfl trivial ?_
      have e9 : f_X11_refusal_32 σ = ((-6), τ3) := by rw [f_X11_refusal_32, hτ1, f_X11_refusal_32_a, hτ2, f_X11_refusal_32_b, if_pos (h1), hτ3, f_X11_refusal_32_c, if_pos (h2)]
      exact ⟨by rw [e9], by rw [e9]⟩
    · skip
      refine bz_wpn bT_X11_refusal 2 (b := (32, [some (.ref 32)], [.int (-3)], τ3)) (G := True) (f_X11_refusal_32_blk7 σ τ1 τ2 τ3) trivial ?_
      refine bz_wpr bT_X11_refusal rfl rfl trivial ?_
      have e9 : f_X11_refusal_32 σ = ((-3), τ3) := by rw [f_X11_refusal_32, hτ1, f_X11_refusal_32_a, hτ2, f_X11_refusal_32_b, if_pos (h1), hτ3, f_X11_refusal_32_c, if_neg (h2)]
      exact ⟨by rw [e9], by rw [e9]⟩
  · skip
    refine bz_wpn bT_X11_refusal 1 (b := (13, [some (.ref 32)], [.int (-5)], τ2.2)) (G := True) (f_X11_refusal_32_blk8 σ τ1 τ2) trivial ?_
    refine bz_wpr bT_X11_refusal rfl rfl trivial ?_
    have e9 : f_X11_refusal_32 σ = ((-5), τ2.2) := by rw [f_X11_refusal_32, hτ1, f_X11_refusal_32_a, hτ2, f_X11_refusal_32_b, if_neg (h1)]
    exact ⟨by rw [e9], by rw [e9]⟩
theorem rf_X11_refusal_32_c (σ : bz_S) (τ1 : bz_S) (τ2 : Int32 × bz_S) (τ3 : bz_S) (fτ1 : bz_fr [32, 33, 37, 38, 39, 40, 41, 42] σ τ1) (fτ2 : bz_fr [32, 33, 37, 38, 39, 40, 41, 42] σ τ2.2) (fτ3 : bz_fr [32, 33, 37, 38, 39, 40, 41, 42] σ τ3) : bz_fr [32, 33, 37, 38, 39, 40, 41, 42] σ (f_X11_refusal_32_c σ τ1 τ2 τ3).2 := by
  unfold f_X11_refusal_32_c
  exact (bz_ite2 fτ3 fτ3)
theorem rf_X11_refusal_32_b (σ : bz_S) (τ1 : bz_S) (τ2 : Int32 × bz_S) (fτ1 : bz_fr [32, 33, 37, 38, 39, 40, 41, 42] σ τ1) (fτ2 : bz_fr [32, 33, 37, 38, 39, 40, 41, 42] σ τ2.2) : bz_fr [32, 33, 37, 38, 39, 40, 41, 42] σ (f_X11_refusal_32_b σ τ1 τ2).2 := by
  unfold f_X11_refusal_32_b
  exact (bz_ite2 (rf_X11_refusal_32_c σ τ1 τ2 (f_X11_goCrises_32 τ2.2) fτ1 fτ2 (bz_fr_tr (τ := τ2.2) fτ2 (bz_fr_mo (rf_X11_goCrises_32 τ2.2) (by decide)))) fτ2)
theorem rf_X11_refusal_32_a (σ : bz_S) (τ1 : bz_S) (fτ1 : bz_fr [32, 33, 37, 38, 39, 40, 41, 42] σ τ1) : bz_fr [32, 33, 37, 38, 39, 40, 41, 42] σ (f_X11_refusal_32_a σ τ1).2 := by
  unfold f_X11_refusal_32_a
  exact (rf_X11_refusal_32_b σ τ1 (f_X11_fault_32 τ1) fτ1 (bz_fr_tr (τ := τ1) fτ1 (bz_fr_mo (rf_X11_fault_32 τ1) (by decide))))
theorem rf_X11_refusal_32 (σ : bz_S)  : bz_fr [32, 33, 37, 38, 39, 40, 41, 42] σ (f_X11_refusal_32 σ).2 := by
  unfold f_X11_refusal_32
  exact (rf_X11_refusal_32_a σ (f_X11_keepNow_32 σ) (bz_fr_mo (rf_X11_keepNow_32 σ) (by decide)))
theorem qf_X11_refusal_32_c (σ : bz_S) (τ1 : bz_S) (τ2 : Int32 × bz_S) (τ3 : bz_S) (fτ1 : bz_fo [1, 2, 3, 13, 14, 15, 16, 17, 18, 19, 20, 21, 22, 23, 24, 27, 28, 29] σ τ1) (fτ2 : bz_fo [1, 2, 3, 13, 14, 15, 16, 17, 18, 19, 20, 21, 22, 23, 24, 27, 28, 29] σ τ2.2) (fτ3 : bz_fo [1, 2, 3, 13, 14, 15, 16, 17, 18, 19, 20, 21, 22, 23, 24, 27, 28, 29] σ τ3) : bz_fo [1, 2, 3, 13, 14, 15, 16, 17, 18, 19, 20, 21, 22, 23, 24, 27, 28, 29] σ (f_X11_refusal_32_c σ τ1 τ2 τ3).2 := by
  unfold f_X11_refusal_32_c
  exact (bz_ite2 fτ3 fτ3)
theorem qf_X11_refusal_32_b (σ : bz_S) (τ1 : bz_S) (τ2 : Int32 × bz_S) (fτ1 : bz_fo [1, 2, 3, 13, 14, 15, 16, 17, 18, 19, 20, 21, 22, 23, 24, 27, 28, 29] σ τ1) (fτ2 : bz_fo [1, 2, 3, 13, 14, 15, 16, 17, 18, 19, 20, 21, 22, 23, 24, 27, 28, 29] σ τ2.2) : bz_fo [1, 2, 3, 13, 14, 15, 16, 17, 18, 19, 20, 21, 22, 23, 24, 27, 28, 29] σ (f_X11_refusal_32_b σ τ1 τ2).2 := by
  unfold f_X11_refusal_32_b
  exact (bz_ite2 (qf_X11_refusal_32_c σ τ1 τ2 (f_X11_goCrises_32 τ2.2) fτ1 fτ2 (bz_fo_tr (τ := τ2.2) fτ2 (bz_fo_mo (qf_X11_goCrises_32 τ2.2) (by decide)))) fτ2)
theorem qf_X11_refusal_32_a (σ : bz_S) (τ1 : bz_S) (fτ1 : bz_fo [1, 2, 3, 13, 14, 15, 16, 17, 18, 19, 20, 21, 22, 23, 24, 27, 28, 29] σ τ1) : bz_fo [1, 2, 3, 13, 14, 15, 16, 17, 18, 19, 20, 21, 22, 23, 24, 27, 28, 29] σ (f_X11_refusal_32_a σ τ1).2 := by
  unfold f_X11_refusal_32_a
  exact (qf_X11_refusal_32_b σ τ1 (f_X11_fault_32 τ1) fτ1 (bz_fo_tr (τ := τ1) fτ1 (bz_fo_mo (qf_X11_fault_32 τ1) (by decide))))
theorem qf_X11_refusal_32 (σ : bz_S)  : bz_fo [1, 2, 3, 13, 14, 15, 16, 17, 18, 19, 20, 21, 22, 23, 24, 27, 28, 29] σ (f_X11_refusal_32 σ).2 := by
  unfold f_X11_refusal_32
  exact (qf_X11_refusal_32_a σ (f_X11_keepNow_32 σ) (bz_fo_mo (qf_X11_keepNow_32 σ) (by decide)))

def f_X11_judge_32_b (σ : bz_S) (what : Int32) (τ1 : Int32 × bz_S) (τ2 : Int32 × bz_S) : Int32 × bz_S := if τ2.1 = (-5) then (τ2.1, τ2.2) else (if what ≤ 1 then if what = 0 then ((τ2.2.1 32 27), τ2.2) else (if what = 1 then ((τ2.2.1 32 28), τ2.2) else ((τ2.2.1 32 23), τ2.2)) else (if τ2.1 = (-3) then (τ2.1, τ2.2) else (if what = 0 then ((τ2.2.1 32 27), τ2.2) else (if what = 1 then ((τ2.2.1 32 28), τ2.2) else ((τ2.2.1 32 23), τ2.2)))))
def f_X11_judge_32_a (σ : bz_S) (what : Int32) (τ1 : Int32 × bz_S) : Int32 × bz_S := (f_X11_judge_32_b σ what τ1 (f_X11_back_32 τ1.2 τ1.1))
def f_X11_judge_32 (σ : bz_S) (what : Int32) : Int32 × bz_S := if f_X11_in (Int32.toInt64 what) 0 2 = true then (f_X11_judge_32_a σ what (f_X11_refusal_32 σ)) else ((-2), σ)
set_option maxRecDepth 100000 in
theorem f_X11_judge_32_blk1 {X : bz_X} (σ : bz_S) (what : Int32) : bz_run X bt_X11_judge 4 (0, [some (.ref 32), some (.int what), none], [], σ) = some (True, (6, [some (.ref 32), some (.int what), none], [.long 2, .long 0, .long (Int32.toInt64 what)], σ)) := rfl
set_option maxRecDepth 100000 in
theorem f_X11_judge_32_blk2 {X : bz_X} (σ : bz_S) (what : Int32) : bz_run X bt_X11_judge 1 (9, [some (.ref 32), some (.int what), none], [.int (bz_b (f_X11_in (Int32.toInt64 what) 0 2))], σ) = some (True, if ¬ bz_b (f_X11_in (Int32.toInt64 what) 0 2) = 0 then (15, [some (.ref 32), some (.int what), none], [], σ) else (12, [some (.ref 32), some (.int what), none], [], σ)) := rfl
set_option maxRecDepth 100000 in
theorem f_X11_judge_32_blk3 {X : bz_X} (σ : bz_S) (what : Int32) : bz_run X bt_X11_judge 2 (15, [some (.ref 32), some (.int what), none], [], σ) = some (True, (17, [some (.ref 32), some (.int what), none], [.ref 32, .ref 32], σ)) := rfl
set_option maxRecDepth 100000 in
theorem f_X11_judge_32_blk4 {X : bz_X} (σ : bz_S) (what : Int32) (τ1 : Int32 × bz_S) (τ2 : Int32 × bz_S) : bz_run X bt_X11_judge 4 (23, [some (.ref 32), some (.int what), none], [.int τ2.1], τ2.2) = some (True, if τ2.1 = (-5) then (41, [some (.ref 32), some (.int what), some (.int τ2.1)], [], τ2.2) else (30, [some (.ref 32), some (.int what), some (.int τ2.1)], [], τ2.2)) := rfl
set_option maxRecDepth 100000 in
theorem f_X11_judge_32_blk5 {X : bz_X} (σ : bz_S) (what : Int32) (τ1 : Int32 × bz_S) (τ2 : Int32 × bz_S) : bz_run X bt_X11_judge 1 (41, [some (.ref 32), some (.int what), some (.int τ2.1)], [], τ2.2) = some (True, (42, [some (.ref 32), some (.int what), some (.int τ2.1)], [.int τ2.1], τ2.2)) := rfl
set_option maxRecDepth 100000 in
theorem f_X11_judge_32_blk6 {X : bz_X} (σ : bz_S) (what : Int32) (τ1 : Int32 × bz_S) (τ2 : Int32 × bz_S) : bz_run X bt_X11_judge 3 (30, [some (.ref 32), some (.int what), some (.int τ2.1)], [], τ2.2) = some (True, if what ≤ 1 then (43, [some (.ref 32), some (.int what), some (.int τ2.1)], [], τ2.2) else (35, [some (.ref 32), some (.int what), some (.int τ2.1)], [], τ2.2)) := rfl
set_option maxRecDepth 100000 in
theorem f_X11_judge_32_blk7 {X : bz_X} (σ : bz_S) (what : Int32) (τ1 : Int32 × bz_S) (τ2 : Int32 × bz_S) : bz_run X bt_X11_judge 2 (43, [some (.ref 32), some (.int what), some (.int τ2.1)], [], τ2.2) = some (True, if ¬ what = 0 then (54, [some (.ref 32), some (.int what), some (.int τ2.1)], [], τ2.2) else (47, [some (.ref 32), some (.int what), some (.int τ2.1)], [], τ2.2)) := rfl
set_option maxRecDepth 100000 in
theorem f_X11_judge_32_blk8 {X : bz_X} (σ : bz_S) (what : Int32) (τ1 : Int32 × bz_S) (τ2 : Int32 × bz_S) : bz_run X bt_X11_judge 3 (54, [some (.ref 32), some (.int what), some (.int τ2.1)], [], τ2.2) = some (True, if ¬ what = 1 then (66, [some (.ref 32), some (.int what), some (.int τ2.1)], [], τ2.2) else (59, [some (.ref 32), some (.int what), some (.int τ2.1)], [], τ2.2)) := rfl
set_option maxRecDepth 100000 in
theorem f_X11_judge_32_blk9 {X : bz_X} (σ : bz_S) (what : Int32) (τ1 : Int32 × bz_S) (τ2 : Int32 × bz_S) : bz_run X bt_X11_judge 2 (66, [some (.ref 32), some (.int what), some (.int τ2.1)], [], τ2.2) = some (True, (70, [some (.ref 32), some (.int what), some (.int τ2.1)], [.int (τ2.2.1 32 23)], τ2.2)) := rfl
set_option maxRecDepth 100000 in
theorem f_X11_judge_32_blk10 {X : bz_X} (σ : bz_S) (what : Int32) (τ1 : Int32 × bz_S) (τ2 : Int32 × bz_S) : bz_run X bt_X11_judge 3 (59, [some (.ref 32), some (.int what), some (.int τ2.1)], [], τ2.2) = some (True, (70, [some (.ref 32), some (.int what), some (.int τ2.1)], [.int (τ2.2.1 32 28)], τ2.2)) := rfl
set_option maxRecDepth 100000 in
theorem f_X11_judge_32_blk11 {X : bz_X} (σ : bz_S) (what : Int32) (τ1 : Int32 × bz_S) (τ2 : Int32 × bz_S) : bz_run X bt_X11_judge 3 (47, [some (.ref 32), some (.int what), some (.int τ2.1)], [], τ2.2) = some (True, (70, [some (.ref 32), some (.int what), some (.int τ2.1)], [.int (τ2.2.1 32 27)], τ2.2)) := rfl
set_option maxRecDepth 100000 in
theorem f_X11_judge_32_blk12 {X : bz_X} (σ : bz_S) (what : Int32) (τ1 : Int32 × bz_S) (τ2 : Int32 × bz_S) : bz_run X bt_X11_judge 3 (35, [some (.ref 32), some (.int what), some (.int τ2.1)], [], τ2.2) = some (True, if ¬ τ2.1 = (-3) then (43, [some (.ref 32), some (.int what), some (.int τ2.1)], [], τ2.2) else (41, [some (.ref 32), some (.int what), some (.int τ2.1)], [], τ2.2)) := rfl
set_option maxRecDepth 100000 in
theorem f_X11_judge_32_blk13 {X : bz_X} (σ : bz_S) (what : Int32) (τ1 : Int32 × bz_S) (τ2 : Int32 × bz_S) : bz_run X bt_X11_judge 2 (43, [some (.ref 32), some (.int what), some (.int τ2.1)], [], τ2.2) = some (True, if ¬ what = 0 then (54, [some (.ref 32), some (.int what), some (.int τ2.1)], [], τ2.2) else (47, [some (.ref 32), some (.int what), some (.int τ2.1)], [], τ2.2)) := rfl
set_option maxRecDepth 100000 in
theorem f_X11_judge_32_blk14 {X : bz_X} (σ : bz_S) (what : Int32) (τ1 : Int32 × bz_S) (τ2 : Int32 × bz_S) : bz_run X bt_X11_judge 3 (54, [some (.ref 32), some (.int what), some (.int τ2.1)], [], τ2.2) = some (True, if ¬ what = 1 then (66, [some (.ref 32), some (.int what), some (.int τ2.1)], [], τ2.2) else (59, [some (.ref 32), some (.int what), some (.int τ2.1)], [], τ2.2)) := rfl
set_option maxRecDepth 100000 in
theorem f_X11_judge_32_blk15 {X : bz_X} (σ : bz_S) (what : Int32) (τ1 : Int32 × bz_S) (τ2 : Int32 × bz_S) : bz_run X bt_X11_judge 2 (66, [some (.ref 32), some (.int what), some (.int τ2.1)], [], τ2.2) = some (True, (70, [some (.ref 32), some (.int what), some (.int τ2.1)], [.int (τ2.2.1 32 23)], τ2.2)) := rfl
set_option maxRecDepth 100000 in
theorem f_X11_judge_32_blk16 {X : bz_X} (σ : bz_S) (what : Int32) (τ1 : Int32 × bz_S) (τ2 : Int32 × bz_S) : bz_run X bt_X11_judge 3 (59, [some (.ref 32), some (.int what), some (.int τ2.1)], [], τ2.2) = some (True, (70, [some (.ref 32), some (.int what), some (.int τ2.1)], [.int (τ2.2.1 32 28)], τ2.2)) := rfl
set_option maxRecDepth 100000 in
theorem f_X11_judge_32_blk17 {X : bz_X} (σ : bz_S) (what : Int32) (τ1 : Int32 × bz_S) (τ2 : Int32 × bz_S) : bz_run X bt_X11_judge 3 (47, [some (.ref 32), some (.int what), some (.int τ2.1)], [], τ2.2) = some (True, (70, [some (.ref 32), some (.int what), some (.int τ2.1)], [.int (τ2.2.1 32 27)], τ2.2)) := rfl
set_option maxRecDepth 100000 in
theorem f_X11_judge_32_blk18 {X : bz_X} (σ : bz_S) (what : Int32) (τ1 : Int32 × bz_S) (τ2 : Int32 × bz_S) : bz_run X bt_X11_judge 1 (41, [some (.ref 32), some (.int what), some (.int τ2.1)], [], τ2.2) = some (True, (42, [some (.ref 32), some (.int what), some (.int τ2.1)], [.int τ2.1], τ2.2)) := rfl
set_option maxRecDepth 100000 in
theorem f_X11_judge_32_blk19 {X : bz_X} (σ : bz_S) (what : Int32) : bz_run X bt_X11_judge 1 (12, [some (.ref 32), some (.int what), none], [], σ) = some (True, (14, [some (.ref 32), some (.int what), none], [.int (-2)], σ)) := rfl
set_option maxRecDepth 100000 in
theorem s_X11_judge_32 {X : bz_X} (σ : bz_S) (what : Int32) (hp : bz_padM σ) : bz_C bz_P X mX11_judge [.ref 32, .int what] σ (bz_pi (f_X11_judge_32 σ what).1 (f_X11_judge_32 σ what).2) := by
  show bz_wp bz_P X mX11_judge (bz_pi (f_X11_judge_32 σ what).1 (f_X11_judge_32 σ what).2) (0, [some (.ref 32), some (.int what), none], [], σ)
  refine bz_wpn bT_X11_judge 4 (b := (6, [some (.ref 32), some (.int what), none], [.long 2, .long 0, .long (Int32.toInt64 what)], σ)) (G := True) (f_X11_judge_32_blk1 σ what) trivial ?_
  refine bz_wci bT_X11_judge [.long (Int32.toInt64 what), .long 0, .long 2] (pc' := 9) (rest := []) rfl rfl (Nat.le_of_ble_eq_true rfl) rfl (Nat.le_of_ble_eq_true rfl) rfl (s_X11_in σ (Int32.toInt64 what) 0 2) rfl ?_
  refine bz_wpb bT_X11_judge 1 (b1 := (15, [some (.ref 32), some (.int what), none], [], σ)) (b2 := (12, [some (.ref 32), some (.int what), none], [], σ)) (C := ¬ bz_b (f_X11_in (Int32.toInt64 what) 0 2) = 0) (G := True) (f_X11_judge_32_blk2 σ what) trivial (fun h1 => ?_) (fun h1 => ?_)
  · skip
    have h1 := bz_b1 h1
    refine bz_wpn bT_X11_judge 2 (b := (17, [some (.ref 32), some (.int what), none], [.ref 32, .ref 32], σ)) (G := True) (f_X11_judge_32_blk3 σ what) trivial ?_
    refine bz_wci bT_X11_judge [.ref 32] (pc' := 20) (rest := [.ref 32]) rfl rfl (Nat.le_of_ble_eq_true rfl) rfl (Nat.le_of_ble_eq_true rfl) rfl (s_X11_refusal_32 σ hp) rfl ?_
    generalize hτ1 : f_X11_refusal_32 σ = τ1
    refine bz_wci bT_X11_judge [.ref 32, .int τ1.1] (pc' := 23) (rest := []) rfl rfl (Nat.le_of_ble_eq_true rfl) rfl (Nat.le_of_ble_eq_true rfl) rfl (s_X11_back_32 τ1.2 τ1.1) rfl ?_
    generalize hτ2 : f_X11_back_32 τ1.2 τ1.1 = τ2
    refine bz_wpb bT_X11_judge 4 (b1 := (41, [some (.ref 32), some (.int what), some (.int τ2.1)], [], τ2.2)) (b2 := (30, [some (.ref 32), some (.int what), some (.int τ2.1)], [], τ2.2)) (C := τ2.1 = (-5)) (G := True) (f_X11_judge_32_blk4 σ what τ1 τ2) trivial (fun h2 => ?_) (fun h2 => ?_)
    · skip
      refine bz_wpn bT_X11_judge 1 (b := (42, [some (.ref 32), some (.int what), some (.int τ2.1)], [.int τ2.1], τ2.2)) (G := True) (f_X11_judge_32_blk5 σ what τ1 τ2) trivial ?_
      refine bz_wpr bT_X11_judge rfl rfl trivial ?_
      have e9 : f_X11_judge_32 σ what = (τ2.1, τ2.2) := by rw [f_X11_judge_32, if_pos (h1), hτ1, f_X11_judge_32_a, hτ2, f_X11_judge_32_b, if_pos (h2)]
      exact ⟨by rw [e9], by rw [e9]⟩
    · skip
      refine bz_wpb bT_X11_judge 3 (b1 := (43, [some (.ref 32), some (.int what), some (.int τ2.1)], [], τ2.2)) (b2 := (35, [some (.ref 32), some (.int what), some (.int τ2.1)], [], τ2.2)) (C := what ≤ 1) (G := True) (f_X11_judge_32_blk6 σ what τ1 τ2) trivial (fun h3 => ?_) (fun h3 => ?_)
      · skip
        refine bz_wpb bT_X11_judge 2 (b1 := (54, [some (.ref 32), some (.int what), some (.int τ2.1)], [], τ2.2)) (b2 := (47, [some (.ref 32), some (.int what), some (.int τ2.1)], [], τ2.2)) (C := ¬ what = 0) (G := True) (f_X11_judge_32_blk7 σ what τ1 τ2) trivial (fun h4 => ?_) (fun h4 => ?_)
        · skip
          refine bz_wpb bT_X11_judge 3 (b1 := (66, [some (.ref 32), some (.int what), some (.int τ2.1)], [], τ2.2)) (b2 := (59, [some (.ref 32), some (.int what), some (.int τ2.1)], [], τ2.2)) (C := ¬ what = 1) (G := True) (f_X11_judge_32_blk8 σ what τ1 τ2) trivial (fun h5 => ?_) (fun h5 => ?_)
          · skip
            refine bz_wpn bT_X11_judge 2 (b := (70, [some (.ref 32), some (.int what), some (.int τ2.1)], [.int (τ2.2.1 32 23)], τ2.2)) (G := True) (f_X11_judge_32_blk9 σ what τ1 τ2) trivial ?_
            refine bz_wpr bT_X11_judge rfl rfl trivial ?_
            have e9 : f_X11_judge_32 σ what = ((τ2.2.1 32 23), τ2.2) := by rw [f_X11_judge_32, if_pos (h1), hτ1, f_X11_judge_32_a, hτ2, f_X11_judge_32_b, if_neg (h2), if_pos (h3), if_neg (h4), if_neg (h5)]
            exact ⟨by rw [e9], by rw [e9]⟩
          · skip
            refine bz_wpn bT_X11_judge 3 (b := (70, [some (.ref 32), some (.int what), some (.int τ2.1)], [.int (τ2.2.1 32 28)], τ2.2)) (G := True) (f_X11_judge_32_blk10 σ what τ1 τ2) trivial ?_
            refine bz_wpr bT_X11_judge rfl rfl trivial ?_
            have e9 : f_X11_judge_32 σ what = ((τ2.2.1 32 28), τ2.2) := by rw [f_X11_judge_32, if_pos (h1), hτ1, f_X11_judge_32_a, hτ2, f_X11_judge_32_b, if_neg (h2), if_pos (h3), if_neg (h4), if_pos ((Decidable.not_not.mp h5))]
            exact ⟨by rw [e9], by rw [e9]⟩
        · skip
          refine bz_wpn bT_X11_judge 3 (b := (70, [some (.ref 32), some (.int what), some (.int τ2.1)], [.int (τ2.2.1 32 27)], τ2.2)) (G := True) (f_X11_judge_32_blk11 σ what τ1 τ2) trivial ?_
          refine bz_wpr bT_X11_judge rfl rfl trivial ?_
          have e9 : f_X11_judge_32 σ what = ((τ2.2.1 32 27), τ2.2) := by rw [f_X11_judge_32, if_pos (h1), hτ1, f_X11_judge_32_a, hτ2, f_X11_judge_32_b, if_neg (h2), if_pos (h3), if_pos ((Decidable.not_not.mp h4))]
          exact ⟨by rw [e9], by rw [e9]⟩
      · skip
        refine bz_wpb bT_X11_judge 3 (b1 := (43, [some (.ref 32), some (.int what), some (.int τ2.1)], [], τ2.2)) (b2 := (41, [some (.ref 32), some (.int what), some (.int τ2.1)], [], τ2.2)) (C := ¬ τ2.1 = (-3)) (G := True) (f_X11_judge_32_blk12 σ what τ1 τ2) trivial (fun h6 => ?_) (fun h6 => ?_)
        · skip
          refine bz_wpb bT_X11_judge 2 (b1 := (54, [some (.ref 32), some (.int what), some (.int τ2.1)], [], τ2.2)) (b2 := (47, [some (.ref 32), some (.int what), some (.int τ2.1)], [], τ2.2)) (C := ¬ what = 0) (G := True) (f_X11_judge_32_blk13 σ what τ1 τ2) trivial (fun h7 => ?_) (fun h7 => ?_)
          · skip
            refine bz_wpb bT_X11_judge 3 (b1 := (66, [some (.ref 32), some (.int what), some (.int τ2.1)], [], τ2.2)) (b2 := (59, [some (.ref 32), some (.int what), some (.int τ2.1)], [], τ2.2)) (C := ¬ what = 1) (G := True) (f_X11_judge_32_blk14 σ what τ1 τ2) trivial (fun h8 => ?_) (fun h8 => ?_)
            · skip
              refine bz_wpn bT_X11_judge 2 (b := (70, [some (.ref 32), some (.int what), some (.int τ2.1)], [.int (τ2.2.1 32 23)], τ2.2)) (G := True) (f_X11_judge_32_blk15 σ what τ1 τ2) trivial ?_
              refine bz_wpr bT_X11_judge rfl rfl trivial ?_
              have e9 : f_X11_judge_32 σ what = ((τ2.2.1 32 23), τ2.2) := by rw [f_X11_judge_32, if_pos (h1), hτ1, f_X11_judge_32_a, hτ2, f_X11_judge_32_b, if_neg (h2), if_neg (h3), if_neg (h6), if_neg (h7), if_neg (h8)]
              exact ⟨by rw [e9], by rw [e9]⟩
            · skip
              refine bz_wpn bT_X11_judge 3 (b := (70, [some (.ref 32), some (.int what), some (.int τ2.1)], [.int (τ2.2.1 32 28)], τ2.2)) (G := True) (f_X11_judge_32_blk16 σ what τ1 τ2) trivial ?_
              refine bz_wpr bT_X11_judge rfl rfl trivial ?_
              have e9 : f_X11_judge_32 σ what = ((τ2.2.1 32 28), τ2.2) := by rw [f_X11_judge_32, if_pos (h1), hτ1, f_X11_judge_32_a, hτ2, f_X11_judge_32_b, if_neg (h2), if_neg (h3), if_neg (h6), if_neg (h7), if_pos ((Decidable.not_not.mp h8))]
              exact ⟨by rw [e9], by rw [e9]⟩
          · skip
            refine bz_wpn bT_X11_judge 3 (b := (70, [some (.ref 32), some (.int what), some (.int τ2.1)], [.int (τ2.2.1 32 27)], τ2.2)) (G := True) (f_X11_judge_32_blk17 σ what τ1 τ2) trivial ?_
            refine bz_wpr bT_X11_judge rfl rfl trivial ?_
            have e9 : f_X11_judge_32 σ what = ((τ2.2.1 32 27), τ2.2) := by rw [f_X11_judge_32, if_pos (h1), hτ1, f_X11_judge_32_a, hτ2, f_X11_judge_32_b, if_neg (h2), if_neg (h3), if_neg (h6), if_pos ((Decidable.not_not.mp h7))]
            exact ⟨by rw [e9], by rw [e9]⟩
        · skip
          refine bz_wpn bT_X11_judge 1 (b := (42, [some (.ref 32), some (.int what), some (.int τ2.1)], [.int τ2.1], τ2.2)) (G := True) (f_X11_judge_32_blk18 σ what τ1 τ2) trivial ?_
          refine bz_wpr bT_X11_judge rfl rfl trivial ?_
          have e9 : f_X11_judge_32 σ what = (τ2.1, τ2.2) := by rw [f_X11_judge_32, if_pos (h1), hτ1, f_X11_judge_32_a, hτ2, f_X11_judge_32_b, if_neg (h2), if_neg (h3), if_pos ((Decidable.not_not.mp h6))]
          exact ⟨by rw [e9], by rw [e9]⟩
  · skip
    have h1 := bz_b0 (Decidable.not_not.mp h1)
    refine bz_wpn bT_X11_judge 1 (b := (14, [some (.ref 32), some (.int what), none], [.int (-2)], σ)) (G := True) (f_X11_judge_32_blk19 σ what) trivial ?_
    refine bz_wpr bT_X11_judge rfl rfl trivial ?_
    have e9 : f_X11_judge_32 σ what = ((-2), σ) := by rw [f_X11_judge_32, if_neg (bz_ff h1)]
    exact ⟨by rw [e9], by rw [e9]⟩
theorem rf_X11_judge_32_b (σ : bz_S) (what : Int32) (τ1 : Int32 × bz_S) (τ2 : Int32 × bz_S) (fτ1 : bz_fr [32, 33, 37, 38, 39, 40, 41, 42] σ τ1.2) (fτ2 : bz_fr [32, 33, 37, 38, 39, 40, 41, 42] σ τ2.2) : bz_fr [32, 33, 37, 38, 39, 40, 41, 42] σ (f_X11_judge_32_b σ what τ1 τ2).2 := by
  unfold f_X11_judge_32_b
  exact (bz_ite2 fτ2 (bz_ite2 (bz_ite2 fτ2 (bz_ite2 fτ2 fτ2)) (bz_ite2 fτ2 (bz_ite2 fτ2 (bz_ite2 fτ2 fτ2)))))
theorem rf_X11_judge_32_a (σ : bz_S) (what : Int32) (τ1 : Int32 × bz_S) (fτ1 : bz_fr [32, 33, 37, 38, 39, 40, 41, 42] σ τ1.2) : bz_fr [32, 33, 37, 38, 39, 40, 41, 42] σ (f_X11_judge_32_a σ what τ1).2 := by
  unfold f_X11_judge_32_a
  exact (rf_X11_judge_32_b σ what τ1 (f_X11_back_32 τ1.2 τ1.1) fτ1 (bz_fr_tr (τ := τ1.2) fτ1 (bz_fr_mo (rf_X11_back_32 τ1.2 τ1.1) (by decide))))
theorem rf_X11_judge_32 (σ : bz_S) (what : Int32) : bz_fr [32, 33, 37, 38, 39, 40, 41, 42] σ (f_X11_judge_32 σ what).2 := by
  unfold f_X11_judge_32
  exact (bz_ite2 (rf_X11_judge_32_a σ what (f_X11_refusal_32 σ) (bz_fr_mo (rf_X11_refusal_32 σ) (by decide))) bz_fr_rf)
theorem qf_X11_judge_32_b (σ : bz_S) (what : Int32) (τ1 : Int32 × bz_S) (τ2 : Int32 × bz_S) (fτ1 : bz_fo [1, 2, 3, 13, 14, 15, 16, 17, 18, 19, 20, 21, 22, 23, 24, 27, 28, 29] σ τ1.2) (fτ2 : bz_fo [1, 2, 3, 13, 14, 15, 16, 17, 18, 19, 20, 21, 22, 23, 24, 27, 28, 29] σ τ2.2) : bz_fo [1, 2, 3, 13, 14, 15, 16, 17, 18, 19, 20, 21, 22, 23, 24, 27, 28, 29] σ (f_X11_judge_32_b σ what τ1 τ2).2 := by
  unfold f_X11_judge_32_b
  exact (bz_ite2 fτ2 (bz_ite2 (bz_ite2 fτ2 (bz_ite2 fτ2 fτ2)) (bz_ite2 fτ2 (bz_ite2 fτ2 (bz_ite2 fτ2 fτ2)))))
theorem qf_X11_judge_32_a (σ : bz_S) (what : Int32) (τ1 : Int32 × bz_S) (fτ1 : bz_fo [1, 2, 3, 13, 14, 15, 16, 17, 18, 19, 20, 21, 22, 23, 24, 27, 28, 29] σ τ1.2) : bz_fo [1, 2, 3, 13, 14, 15, 16, 17, 18, 19, 20, 21, 22, 23, 24, 27, 28, 29] σ (f_X11_judge_32_a σ what τ1).2 := by
  unfold f_X11_judge_32_a
  exact (qf_X11_judge_32_b σ what τ1 (f_X11_back_32 τ1.2 τ1.1) fτ1 (bz_fo_tr (τ := τ1.2) fτ1 (bz_fo_mo (qf_X11_back_32 τ1.2 τ1.1) (by decide))))
theorem qf_X11_judge_32 (σ : bz_S) (what : Int32) : bz_fo [1, 2, 3, 13, 14, 15, 16, 17, 18, 19, 20, 21, 22, 23, 24, 27, 28, 29] σ (f_X11_judge_32 σ what).2 := by
  unfold f_X11_judge_32
  exact (bz_ite2 (qf_X11_judge_32_a σ what (f_X11_refusal_32 σ) (bz_fo_mo (qf_X11_refusal_32 σ) (by decide))) bz_fo_rf)

def f_X11_table_32_f (σ : bz_S) (what : Int32) (τ1 : Int32 × bz_S) (τ6 : Int32 × bz_S) : Int32 × bz_S := (τ6.1, τ6.2)
def f_X11_table_32_b (σ : bz_S) (what : Int32) (τ1 : Int32 × bz_S) (τ2 : Int32 × bz_S) : Int32 × bz_S := (τ2.1, τ2.2)
def f_X11_table_32_c (σ : bz_S) (what : Int32) (τ1 : Int32 × bz_S) (τ3 : Int32 × bz_S) : Int32 × bz_S := (τ3.1, τ3.2)
def f_X11_table_32_d (σ : bz_S) (what : Int32) (τ1 : Int32 × bz_S) (τ4 : Int32 × bz_S) : Int32 × bz_S := (τ4.1, τ4.2)
def f_X11_table_32_e (σ : bz_S) (what : Int32) (τ1 : Int32 × bz_S) (τ5 : Int32 × bz_S) : Int32 × bz_S := (τ5.1, τ5.2)
def f_X11_table_32_a (σ : bz_S) (what : Int32) (τ1 : Int32 × bz_S) : Int32 × bz_S := if τ1.1 = (-6) then if what = 0 then (f_X11_table_32_e σ what τ1 (f_X11_back_32 τ1.2 (τ1.2.1 32 1))) else (if what = 1 then (f_X11_table_32_d σ what τ1 (f_X11_back_32 τ1.2 (τ1.2.1 32 2))) else (if what = 2 then (f_X11_table_32_c σ what τ1 (f_X11_back_32 τ1.2 (f_X11_downMany_32 τ1.2))) else (f_X11_table_32_b σ what τ1 (f_X11_back_32 τ1.2 (τ1.2.1 32 3))))) else (f_X11_table_32_f σ what τ1 (f_X11_back_32 τ1.2 τ1.1))
def f_X11_table_32 (σ : bz_S) (what : Int32) : Int32 × bz_S := if f_X11_in (Int32.toInt64 what) 0 3 = true then (f_X11_table_32_a σ what (f_X11_refusal_32 σ)) else ((-2), σ)
set_option maxRecDepth 100000 in
theorem f_X11_table_32_blk1 {X : bz_X} (σ : bz_S) (what : Int32) : bz_run X bt_X11_table 4 (0, [some (.ref 32), some (.int what), none], [], σ) = some (True, (6, [some (.ref 32), some (.int what), none], [.long 3, .long 0, .long (Int32.toInt64 what)], σ)) := rfl
set_option maxRecDepth 100000 in
theorem f_X11_table_32_blk2 {X : bz_X} (σ : bz_S) (what : Int32) : bz_run X bt_X11_table 1 (9, [some (.ref 32), some (.int what), none], [.int (bz_b (f_X11_in (Int32.toInt64 what) 0 3))], σ) = some (True, if ¬ bz_b (f_X11_in (Int32.toInt64 what) 0 3) = 0 then (15, [some (.ref 32), some (.int what), none], [], σ) else (12, [some (.ref 32), some (.int what), none], [], σ)) := rfl
set_option maxRecDepth 100000 in
theorem f_X11_table_32_blk3 {X : bz_X} (σ : bz_S) (what : Int32) : bz_run X bt_X11_table 1 (15, [some (.ref 32), some (.int what), none], [], σ) = some (True, (16, [some (.ref 32), some (.int what), none], [.ref 32], σ)) := rfl
set_option maxRecDepth 100000 in
theorem f_X11_table_32_blk4 {X : bz_X} (σ : bz_S) (what : Int32) (τ1 : Int32 × bz_S) : bz_run X bt_X11_table 5 (19, [some (.ref 32), some (.int what), none], [.int τ1.1], τ1.2) = some (True, if τ1.1 = (-6) then (31, [some (.ref 32), some (.int what), some (.int τ1.1)], [.ref 32], τ1.2) else (27, [some (.ref 32), some (.int what), some (.int τ1.1)], [.ref 32], τ1.2)) := rfl
set_option maxRecDepth 100000 in
theorem f_X11_table_32_blk5 {X : bz_X} (σ : bz_S) (what : Int32) (τ1 : Int32 × bz_S) : bz_run X bt_X11_table 2 (31, [some (.ref 32), some (.int what), some (.int τ1.1)], [.ref 32], τ1.2) = some (True, if ¬ what = 0 then (42, [some (.ref 32), some (.int what), some (.int τ1.1)], [.ref 32], τ1.2) else (35, [some (.ref 32), some (.int what), some (.int τ1.1)], [.ref 32], τ1.2)) := rfl
set_option maxRecDepth 100000 in
theorem f_X11_table_32_blk6 {X : bz_X} (σ : bz_S) (what : Int32) (τ1 : Int32 × bz_S) : bz_run X bt_X11_table 3 (42, [some (.ref 32), some (.int what), some (.int τ1.1)], [.ref 32], τ1.2) = some (True, if ¬ what = 1 then (54, [some (.ref 32), some (.int what), some (.int τ1.1)], [.ref 32], τ1.2) else (47, [some (.ref 32), some (.int what), some (.int τ1.1)], [.ref 32], τ1.2)) := rfl
set_option maxRecDepth 100000 in
theorem f_X11_table_32_blk7 {X : bz_X} (σ : bz_S) (what : Int32) (τ1 : Int32 × bz_S) : bz_run X bt_X11_table 3 (54, [some (.ref 32), some (.int what), some (.int τ1.1)], [.ref 32], τ1.2) = some (True, if ¬ what = 2 then (66, [some (.ref 32), some (.int what), some (.int τ1.1)], [.ref 32], τ1.2) else (59, [some (.ref 32), some (.int what), some (.int τ1.1)], [.ref 32], τ1.2)) := rfl
set_option maxRecDepth 100000 in
theorem f_X11_table_32_blk8 {X : bz_X} (σ : bz_S) (what : Int32) (τ1 : Int32 × bz_S) : bz_run X bt_X11_table 2 (66, [some (.ref 32), some (.int what), some (.int τ1.1)], [.ref 32], τ1.2) = some (True, (70, [some (.ref 32), some (.int what), some (.int τ1.1)], [.int (τ1.2.1 32 3), .ref 32], τ1.2)) := rfl
set_option maxRecDepth 100000 in
theorem f_X11_table_32_blk9 {X : bz_X} (σ : bz_S) (what : Int32) (τ1 : Int32 × bz_S) : bz_run X bt_X11_table 1 (59, [some (.ref 32), some (.int what), some (.int τ1.1)], [.ref 32], τ1.2) = some (True, (60, [some (.ref 32), some (.int what), some (.int τ1.1)], [.ref 32, .ref 32], τ1.2)) := rfl
set_option maxRecDepth 100000 in
theorem f_X11_table_32_blk10 {X : bz_X} (σ : bz_S) (what : Int32) (τ1 : Int32 × bz_S) : bz_run X bt_X11_table 1 (63, [some (.ref 32), some (.int what), some (.int τ1.1)], [.int (f_X11_downMany_32 τ1.2), .ref 32], τ1.2) = some (True, (70, [some (.ref 32), some (.int what), some (.int τ1.1)], [.int (f_X11_downMany_32 τ1.2), .ref 32], τ1.2)) := rfl
set_option maxRecDepth 100000 in
theorem f_X11_table_32_blk11 {X : bz_X} (σ : bz_S) (what : Int32) (τ1 : Int32 × bz_S) : bz_run X bt_X11_table 3 (47, [some (.ref 32), some (.int what), some (.int τ1.1)], [.ref 32], τ1.2) = some (True, (70, [some (.ref 32), some (.int what), some (.int τ1.1)], [.int (τ1.2.1 32 2), .ref 32], τ1.2)) := rfl
set_option maxRecDepth 100000 in
theorem f_X11_table_32_blk12 {X : bz_X} (σ : bz_S) (what : Int32) (τ1 : Int32 × bz_S) : bz_run X bt_X11_table 3 (35, [some (.ref 32), some (.int what), some (.int τ1.1)], [.ref 32], τ1.2) = some (True, (70, [some (.ref 32), some (.int what), some (.int τ1.1)], [.int (τ1.2.1 32 1), .ref 32], τ1.2)) := rfl
set_option maxRecDepth 100000 in
theorem f_X11_table_32_blk13 {X : bz_X} (σ : bz_S) (what : Int32) (τ1 : Int32 × bz_S) : bz_run X bt_X11_table 2 (27, [some (.ref 32), some (.int what), some (.int τ1.1)], [.ref 32], τ1.2) = some (True, (70, [some (.ref 32), some (.int what), some (.int τ1.1)], [.int τ1.1, .ref 32], τ1.2)) := rfl
set_option maxRecDepth 100000 in
theorem f_X11_table_32_blk14 {X : bz_X} (σ : bz_S) (what : Int32) : bz_run X bt_X11_table 1 (12, [some (.ref 32), some (.int what), none], [], σ) = some (True, (14, [some (.ref 32), some (.int what), none], [.int (-2)], σ)) := rfl
set_option maxRecDepth 100000 in
theorem s_X11_table_32 {X : bz_X} (σ : bz_S) (what : Int32) (hp : bz_padM σ) : bz_C bz_P X mX11_table [.ref 32, .int what] σ (bz_pi (f_X11_table_32 σ what).1 (f_X11_table_32 σ what).2) := by
  show bz_wp bz_P X mX11_table (bz_pi (f_X11_table_32 σ what).1 (f_X11_table_32 σ what).2) (0, [some (.ref 32), some (.int what), none], [], σ)
  refine bz_wpn bT_X11_table 4 (b := (6, [some (.ref 32), some (.int what), none], [.long 3, .long 0, .long (Int32.toInt64 what)], σ)) (G := True) (f_X11_table_32_blk1 σ what) trivial ?_
  refine bz_wci bT_X11_table [.long (Int32.toInt64 what), .long 0, .long 3] (pc' := 9) (rest := []) rfl rfl (Nat.le_of_ble_eq_true rfl) rfl (Nat.le_of_ble_eq_true rfl) rfl (s_X11_in σ (Int32.toInt64 what) 0 3) rfl ?_
  refine bz_wpb bT_X11_table 1 (b1 := (15, [some (.ref 32), some (.int what), none], [], σ)) (b2 := (12, [some (.ref 32), some (.int what), none], [], σ)) (C := ¬ bz_b (f_X11_in (Int32.toInt64 what) 0 3) = 0) (G := True) (f_X11_table_32_blk2 σ what) trivial (fun h1 => ?_) (fun h1 => ?_)
  · skip
    have h1 := bz_b1 h1
    refine bz_wpn bT_X11_table 1 (b := (16, [some (.ref 32), some (.int what), none], [.ref 32], σ)) (G := True) (f_X11_table_32_blk3 σ what) trivial ?_
    refine bz_wci bT_X11_table [.ref 32] (pc' := 19) (rest := []) rfl rfl (Nat.le_of_ble_eq_true rfl) rfl (Nat.le_of_ble_eq_true rfl) rfl (s_X11_refusal_32 σ hp) rfl ?_
    generalize hτ1 : f_X11_refusal_32 σ = τ1
    refine bz_wpb bT_X11_table 5 (b1 := (31, [some (.ref 32), some (.int what), some (.int τ1.1)], [.ref 32], τ1.2)) (b2 := (27, [some (.ref 32), some (.int what), some (.int τ1.1)], [.ref 32], τ1.2)) (C := τ1.1 = (-6)) (G := True) (f_X11_table_32_blk4 σ what τ1) trivial (fun h2 => ?_) (fun h2 => ?_)
    · skip
      refine bz_wpb bT_X11_table 2 (b1 := (42, [some (.ref 32), some (.int what), some (.int τ1.1)], [.ref 32], τ1.2)) (b2 := (35, [some (.ref 32), some (.int what), some (.int τ1.1)], [.ref 32], τ1.2)) (C := ¬ what = 0) (G := True) (f_X11_table_32_blk5 σ what τ1) trivial (fun h3 => ?_) (fun h3 => ?_)
      · skip
        refine bz_wpb bT_X11_table 3 (b1 := (54, [some (.ref 32), some (.int what), some (.int τ1.1)], [.ref 32], τ1.2)) (b2 := (47, [some (.ref 32), some (.int what), some (.int τ1.1)], [.ref 32], τ1.2)) (C := ¬ what = 1) (G := True) (f_X11_table_32_blk6 σ what τ1) trivial (fun h4 => ?_) (fun h4 => ?_)
        · skip
          refine bz_wpb bT_X11_table 3 (b1 := (66, [some (.ref 32), some (.int what), some (.int τ1.1)], [.ref 32], τ1.2)) (b2 := (59, [some (.ref 32), some (.int what), some (.int τ1.1)], [.ref 32], τ1.2)) (C := ¬ what = 2) (G := True) (f_X11_table_32_blk7 σ what τ1) trivial (fun h5 => ?_) (fun h5 => ?_)
          · skip
            refine bz_wpn bT_X11_table 2 (b := (70, [some (.ref 32), some (.int what), some (.int τ1.1)], [.int (τ1.2.1 32 3), .ref 32], τ1.2)) (G := True) (f_X11_table_32_blk8 σ what τ1) trivial ?_
            refine bz_wci bT_X11_table [.ref 32, .int (τ1.2.1 32 3)] (pc' := 73) (rest := []) rfl rfl (Nat.le_of_ble_eq_true rfl) rfl (Nat.le_of_ble_eq_true rfl) rfl (s_X11_back_32 τ1.2 (τ1.2.1 32 3)) rfl ?_
            generalize hτ2 : f_X11_back_32 τ1.2 (τ1.2.1 32 3) = τ2
            refine bz_wpr bT_X11_table rfl rfl trivial ?_
            have e9 : f_X11_table_32 σ what = (τ2.1, τ2.2) := by rw [f_X11_table_32, if_pos (h1), hτ1, f_X11_table_32_a, if_pos (h2), if_neg (h3), if_neg (h4), if_neg (h5), hτ2, f_X11_table_32_b]
            exact ⟨by rw [e9], by rw [e9]⟩
          · skip
            refine bz_wpn bT_X11_table 1 (b := (60, [some (.ref 32), some (.int what), some (.int τ1.1)], [.ref 32, .ref 32], τ1.2)) (G := True) (f_X11_table_32_blk9 σ what τ1) trivial ?_
            refine bz_wci bT_X11_table [.ref 32] (pc' := 63) (rest := [.ref 32]) rfl rfl (Nat.le_of_ble_eq_true rfl) rfl (Nat.le_of_ble_eq_true rfl) rfl (s_X11_downMany_32 τ1.2) rfl ?_
            refine bz_wpn bT_X11_table 1 (b := (70, [some (.ref 32), some (.int what), some (.int τ1.1)], [.int (f_X11_downMany_32 τ1.2), .ref 32], τ1.2)) (G := True) (f_X11_table_32_blk10 σ what τ1) trivial ?_
            refine bz_wci bT_X11_table [.ref 32, .int (f_X11_downMany_32 τ1.2)] (pc' := 73) (rest := []) rfl rfl (Nat.le_of_ble_eq_true rfl) rfl (Nat.le_of_ble_eq_true rfl) rfl (s_X11_back_32 τ1.2 (f_X11_downMany_32 τ1.2)) rfl ?_
            generalize hτ3 : f_X11_back_32 τ1.2 (f_X11_downMany_32 τ1.2) = τ3
            refine bz_wpr bT_X11_table rfl rfl trivial ?_
            have e9 : f_X11_table_32 σ what = (τ3.1, τ3.2) := by rw [f_X11_table_32, if_pos (h1), hτ1, f_X11_table_32_a, if_pos (h2), if_neg (h3), if_neg (h4), if_pos ((Decidable.not_not.mp h5)), hτ3, f_X11_table_32_c]
            exact ⟨by rw [e9], by rw [e9]⟩
        · skip
          refine bz_wpn bT_X11_table 3 (b := (70, [some (.ref 32), some (.int what), some (.int τ1.1)], [.int (τ1.2.1 32 2), .ref 32], τ1.2)) (G := True) (f_X11_table_32_blk11 σ what τ1) trivial ?_
          refine bz_wci bT_X11_table [.ref 32, .int (τ1.2.1 32 2)] (pc' := 73) (rest := []) rfl rfl (Nat.le_of_ble_eq_true rfl) rfl (Nat.le_of_ble_eq_true rfl) rfl (s_X11_back_32 τ1.2 (τ1.2.1 32 2)) rfl ?_
          generalize hτ4 : f_X11_back_32 τ1.2 (τ1.2.1 32 2) = τ4
          refine bz_wpr bT_X11_table rfl rfl trivial ?_
          have e9 : f_X11_table_32 σ what = (τ4.1, τ4.2) := by rw [f_X11_table_32, if_pos (h1), hτ1, f_X11_table_32_a, if_pos (h2), if_neg (h3), if_pos ((Decidable.not_not.mp h4)), hτ4, f_X11_table_32_d]
          exact ⟨by rw [e9], by rw [e9]⟩
      · skip
        refine bz_wpn bT_X11_table 3 (b := (70, [some (.ref 32), some (.int what), some (.int τ1.1)], [.int (τ1.2.1 32 1), .ref 32], τ1.2)) (G := True) (f_X11_table_32_blk12 σ what τ1) trivial ?_
        refine bz_wci bT_X11_table [.ref 32, .int (τ1.2.1 32 1)] (pc' := 73) (rest := []) rfl rfl (Nat.le_of_ble_eq_true rfl) rfl (Nat.le_of_ble_eq_true rfl) rfl (s_X11_back_32 τ1.2 (τ1.2.1 32 1)) rfl ?_
        generalize hτ5 : f_X11_back_32 τ1.2 (τ1.2.1 32 1) = τ5
        refine bz_wpr bT_X11_table rfl rfl trivial ?_
        have e9 : f_X11_table_32 σ what = (τ5.1, τ5.2) := by rw [f_X11_table_32, if_pos (h1), hτ1, f_X11_table_32_a, if_pos (h2), if_pos ((Decidable.not_not.mp h3)), hτ5, f_X11_table_32_e]
        exact ⟨by rw [e9], by rw [e9]⟩
    · skip
      refine bz_wpn bT_X11_table 2 (b := (70, [some (.ref 32), some (.int what), some (.int τ1.1)], [.int τ1.1, .ref 32], τ1.2)) (G := True) (f_X11_table_32_blk13 σ what τ1) trivial ?_
      refine bz_wci bT_X11_table [.ref 32, .int τ1.1] (pc' := 73) (rest := []) rfl rfl (Nat.le_of_ble_eq_true rfl) rfl (Nat.le_of_ble_eq_true rfl) rfl (s_X11_back_32 τ1.2 τ1.1) rfl ?_
      generalize hτ6 : f_X11_back_32 τ1.2 τ1.1 = τ6
      refine bz_wpr bT_X11_table rfl rfl trivial ?_
      have e9 : f_X11_table_32 σ what = (τ6.1, τ6.2) := by rw [f_X11_table_32, if_pos (h1), hτ1, f_X11_table_32_a, if_neg (h2), hτ6, f_X11_table_32_f]
      exact ⟨by rw [e9], by rw [e9]⟩
  · skip
    have h1 := bz_b0 (Decidable.not_not.mp h1)
    refine bz_wpn bT_X11_table 1 (b := (14, [some (.ref 32), some (.int what), none], [.int (-2)], σ)) (G := True) (f_X11_table_32_blk14 σ what) trivial ?_
    refine bz_wpr bT_X11_table rfl rfl trivial ?_
    have e9 : f_X11_table_32 σ what = ((-2), σ) := by rw [f_X11_table_32, if_neg (bz_ff h1)]
    exact ⟨by rw [e9], by rw [e9]⟩
theorem rf_X11_table_32_e (σ : bz_S) (what : Int32) (τ1 : Int32 × bz_S) (τ5 : Int32 × bz_S) (fτ1 : bz_fr [32, 33, 37, 38, 39, 40, 41, 42] σ τ1.2) (fτ5 : bz_fr [32, 33, 37, 38, 39, 40, 41, 42] σ τ5.2) : bz_fr [32, 33, 37, 38, 39, 40, 41, 42] σ (f_X11_table_32_e σ what τ1 τ5).2 := by
  unfold f_X11_table_32_e
  exact fτ5
theorem rf_X11_table_32_d (σ : bz_S) (what : Int32) (τ1 : Int32 × bz_S) (τ4 : Int32 × bz_S) (fτ1 : bz_fr [32, 33, 37, 38, 39, 40, 41, 42] σ τ1.2) (fτ4 : bz_fr [32, 33, 37, 38, 39, 40, 41, 42] σ τ4.2) : bz_fr [32, 33, 37, 38, 39, 40, 41, 42] σ (f_X11_table_32_d σ what τ1 τ4).2 := by
  unfold f_X11_table_32_d
  exact fτ4
theorem rf_X11_table_32_c (σ : bz_S) (what : Int32) (τ1 : Int32 × bz_S) (τ3 : Int32 × bz_S) (fτ1 : bz_fr [32, 33, 37, 38, 39, 40, 41, 42] σ τ1.2) (fτ3 : bz_fr [32, 33, 37, 38, 39, 40, 41, 42] σ τ3.2) : bz_fr [32, 33, 37, 38, 39, 40, 41, 42] σ (f_X11_table_32_c σ what τ1 τ3).2 := by
  unfold f_X11_table_32_c
  exact fτ3
theorem rf_X11_table_32_b (σ : bz_S) (what : Int32) (τ1 : Int32 × bz_S) (τ2 : Int32 × bz_S) (fτ1 : bz_fr [32, 33, 37, 38, 39, 40, 41, 42] σ τ1.2) (fτ2 : bz_fr [32, 33, 37, 38, 39, 40, 41, 42] σ τ2.2) : bz_fr [32, 33, 37, 38, 39, 40, 41, 42] σ (f_X11_table_32_b σ what τ1 τ2).2 := by
  unfold f_X11_table_32_b
  exact fτ2
theorem rf_X11_table_32_f (σ : bz_S) (what : Int32) (τ1 : Int32 × bz_S) (τ6 : Int32 × bz_S) (fτ1 : bz_fr [32, 33, 37, 38, 39, 40, 41, 42] σ τ1.2) (fτ6 : bz_fr [32, 33, 37, 38, 39, 40, 41, 42] σ τ6.2) : bz_fr [32, 33, 37, 38, 39, 40, 41, 42] σ (f_X11_table_32_f σ what τ1 τ6).2 := by
  unfold f_X11_table_32_f
  exact fτ6
theorem rf_X11_table_32_a (σ : bz_S) (what : Int32) (τ1 : Int32 × bz_S) (fτ1 : bz_fr [32, 33, 37, 38, 39, 40, 41, 42] σ τ1.2) : bz_fr [32, 33, 37, 38, 39, 40, 41, 42] σ (f_X11_table_32_a σ what τ1).2 := by
  unfold f_X11_table_32_a
  exact (bz_ite2 (bz_ite2 (rf_X11_table_32_e σ what τ1 (f_X11_back_32 τ1.2 (τ1.2.1 32 1)) fτ1 (bz_fr_tr (τ := τ1.2) fτ1 (bz_fr_mo (rf_X11_back_32 τ1.2 (τ1.2.1 32 1)) (by decide)))) (bz_ite2 (rf_X11_table_32_d σ what τ1 (f_X11_back_32 τ1.2 (τ1.2.1 32 2)) fτ1 (bz_fr_tr (τ := τ1.2) fτ1 (bz_fr_mo (rf_X11_back_32 τ1.2 (τ1.2.1 32 2)) (by decide)))) (bz_ite2 (rf_X11_table_32_c σ what τ1 (f_X11_back_32 τ1.2 (f_X11_downMany_32 τ1.2)) fτ1 (bz_fr_tr (τ := τ1.2) fτ1 (bz_fr_mo (rf_X11_back_32 τ1.2 (f_X11_downMany_32 τ1.2)) (by decide)))) (rf_X11_table_32_b σ what τ1 (f_X11_back_32 τ1.2 (τ1.2.1 32 3)) fτ1 (bz_fr_tr (τ := τ1.2) fτ1 (bz_fr_mo (rf_X11_back_32 τ1.2 (τ1.2.1 32 3)) (by decide))))))) (rf_X11_table_32_f σ what τ1 (f_X11_back_32 τ1.2 τ1.1) fτ1 (bz_fr_tr (τ := τ1.2) fτ1 (bz_fr_mo (rf_X11_back_32 τ1.2 τ1.1) (by decide)))))
theorem rf_X11_table_32 (σ : bz_S) (what : Int32) : bz_fr [32, 33, 37, 38, 39, 40, 41, 42] σ (f_X11_table_32 σ what).2 := by
  unfold f_X11_table_32
  exact (bz_ite2 (rf_X11_table_32_a σ what (f_X11_refusal_32 σ) (bz_fr_mo (rf_X11_refusal_32 σ) (by decide))) bz_fr_rf)
theorem qf_X11_table_32_e (σ : bz_S) (what : Int32) (τ1 : Int32 × bz_S) (τ5 : Int32 × bz_S) (fτ1 : bz_fo [1, 2, 3, 13, 14, 15, 16, 17, 18, 19, 20, 21, 22, 23, 24, 27, 28, 29] σ τ1.2) (fτ5 : bz_fo [1, 2, 3, 13, 14, 15, 16, 17, 18, 19, 20, 21, 22, 23, 24, 27, 28, 29] σ τ5.2) : bz_fo [1, 2, 3, 13, 14, 15, 16, 17, 18, 19, 20, 21, 22, 23, 24, 27, 28, 29] σ (f_X11_table_32_e σ what τ1 τ5).2 := by
  unfold f_X11_table_32_e
  exact fτ5
theorem qf_X11_table_32_d (σ : bz_S) (what : Int32) (τ1 : Int32 × bz_S) (τ4 : Int32 × bz_S) (fτ1 : bz_fo [1, 2, 3, 13, 14, 15, 16, 17, 18, 19, 20, 21, 22, 23, 24, 27, 28, 29] σ τ1.2) (fτ4 : bz_fo [1, 2, 3, 13, 14, 15, 16, 17, 18, 19, 20, 21, 22, 23, 24, 27, 28, 29] σ τ4.2) : bz_fo [1, 2, 3, 13, 14, 15, 16, 17, 18, 19, 20, 21, 22, 23, 24, 27, 28, 29] σ (f_X11_table_32_d σ what τ1 τ4).2 := by
  unfold f_X11_table_32_d
  exact fτ4
theorem qf_X11_table_32_c (σ : bz_S) (what : Int32) (τ1 : Int32 × bz_S) (τ3 : Int32 × bz_S) (fτ1 : bz_fo [1, 2, 3, 13, 14, 15, 16, 17, 18, 19, 20, 21, 22, 23, 24, 27, 28, 29] σ τ1.2) (fτ3 : bz_fo [1, 2, 3, 13, 14, 15, 16, 17, 18, 19, 20, 21, 22, 23, 24, 27, 28, 29] σ τ3.2) : bz_fo [1, 2, 3, 13, 14, 15, 16, 17, 18, 19, 20, 21, 22, 23, 24, 27, 28, 29] σ (f_X11_table_32_c σ what τ1 τ3).2 := by
  unfold f_X11_table_32_c
  exact fτ3
theorem qf_X11_table_32_b (σ : bz_S) (what : Int32) (τ1 : Int32 × bz_S) (τ2 : Int32 × bz_S) (fτ1 : bz_fo [1, 2, 3, 13, 14, 15, 16, 17, 18, 19, 20, 21, 22, 23, 24, 27, 28, 29] σ τ1.2) (fτ2 : bz_fo [1, 2, 3, 13, 14, 15, 16, 17, 18, 19, 20, 21, 22, 23, 24, 27, 28, 29] σ τ2.2) : bz_fo [1, 2, 3, 13, 14, 15, 16, 17, 18, 19, 20, 21, 22, 23, 24, 27, 28, 29] σ (f_X11_table_32_b σ what τ1 τ2).2 := by
  unfold f_X11_table_32_b
  exact fτ2
theorem qf_X11_table_32_f (σ : bz_S) (what : Int32) (τ1 : Int32 × bz_S) (τ6 : Int32 × bz_S) (fτ1 : bz_fo [1, 2, 3, 13, 14, 15, 16, 17, 18, 19, 20, 21, 22, 23, 24, 27, 28, 29] σ τ1.2) (fτ6 : bz_fo [1, 2, 3, 13, 14, 15, 16, 17, 18, 19, 20, 21, 22, 23, 24, 27, 28, 29] σ τ6.2) : bz_fo [1, 2, 3, 13, 14, 15, 16, 17, 18, 19, 20, 21, 22, 23, 24, 27, 28, 29] σ (f_X11_table_32_f σ what τ1 τ6).2 := by
  unfold f_X11_table_32_f
  exact fτ6
theorem qf_X11_table_32_a (σ : bz_S) (what : Int32) (τ1 : Int32 × bz_S) (fτ1 : bz_fo [1, 2, 3, 13, 14, 15, 16, 17, 18, 19, 20, 21, 22, 23, 24, 27, 28, 29] σ τ1.2) : bz_fo [1, 2, 3, 13, 14, 15, 16, 17, 18, 19, 20, 21, 22, 23, 24, 27, 28, 29] σ (f_X11_table_32_a σ what τ1).2 := by
  unfold f_X11_table_32_a
  exact (bz_ite2 (bz_ite2 (qf_X11_table_32_e σ what τ1 (f_X11_back_32 τ1.2 (τ1.2.1 32 1)) fτ1 (bz_fo_tr (τ := τ1.2) fτ1 (bz_fo_mo (qf_X11_back_32 τ1.2 (τ1.2.1 32 1)) (by decide)))) (bz_ite2 (qf_X11_table_32_d σ what τ1 (f_X11_back_32 τ1.2 (τ1.2.1 32 2)) fτ1 (bz_fo_tr (τ := τ1.2) fτ1 (bz_fo_mo (qf_X11_back_32 τ1.2 (τ1.2.1 32 2)) (by decide)))) (bz_ite2 (qf_X11_table_32_c σ what τ1 (f_X11_back_32 τ1.2 (f_X11_downMany_32 τ1.2)) fτ1 (bz_fo_tr (τ := τ1.2) fτ1 (bz_fo_mo (qf_X11_back_32 τ1.2 (f_X11_downMany_32 τ1.2)) (by decide)))) (qf_X11_table_32_b σ what τ1 (f_X11_back_32 τ1.2 (τ1.2.1 32 3)) fτ1 (bz_fo_tr (τ := τ1.2) fτ1 (bz_fo_mo (qf_X11_back_32 τ1.2 (τ1.2.1 32 3)) (by decide))))))) (qf_X11_table_32_f σ what τ1 (f_X11_back_32 τ1.2 τ1.1) fτ1 (bz_fo_tr (τ := τ1.2) fτ1 (bz_fo_mo (qf_X11_back_32 τ1.2 τ1.1) (by decide)))))
theorem qf_X11_table_32 (σ : bz_S) (what : Int32) : bz_fo [1, 2, 3, 13, 14, 15, 16, 17, 18, 19, 20, 21, 22, 23, 24, 27, 28, 29] σ (f_X11_table_32 σ what).2 := by
  unfold f_X11_table_32
  exact (bz_ite2 (qf_X11_table_32_a σ what (f_X11_refusal_32 σ) (bz_fo_mo (qf_X11_refusal_32 σ) (by decide))) bz_fo_rf)

def f_X11_candour_32_b (σ : bz_S) (what : Int32) (τ1 : Int32 × bz_S) (τ2 : Int32 × bz_S) : Int32 × bz_S := if τ2.1 = (-6) then if what = 0 then ((τ2.2.1 32 29), τ2.2) else ((τ2.2.1 32 24), τ2.2) else (τ2.1, τ2.2)
def f_X11_candour_32_a (σ : bz_S) (what : Int32) (τ1 : Int32 × bz_S) : Int32 × bz_S := (f_X11_candour_32_b σ what τ1 (f_X11_back_32 τ1.2 τ1.1))
def f_X11_candour_32 (σ : bz_S) (what : Int32) : Int32 × bz_S := if f_X11_in (Int32.toInt64 what) 0 1 = true then (f_X11_candour_32_a σ what (f_X11_refusal_32 σ)) else ((-2), σ)
set_option maxRecDepth 100000 in
theorem f_X11_candour_32_blk1 {X : bz_X} (σ : bz_S) (what : Int32) : bz_run X bt_X11_candour 4 (0, [some (.ref 32), some (.int what), none], [], σ) = some (True, (4, [some (.ref 32), some (.int what), none], [.long 1, .long 0, .long (Int32.toInt64 what)], σ)) := rfl
set_option maxRecDepth 100000 in
theorem f_X11_candour_32_blk2 {X : bz_X} (σ : bz_S) (what : Int32) : bz_run X bt_X11_candour 1 (7, [some (.ref 32), some (.int what), none], [.int (bz_b (f_X11_in (Int32.toInt64 what) 0 1))], σ) = some (True, if ¬ bz_b (f_X11_in (Int32.toInt64 what) 0 1) = 0 then (13, [some (.ref 32), some (.int what), none], [], σ) else (10, [some (.ref 32), some (.int what), none], [], σ)) := rfl
set_option maxRecDepth 100000 in
theorem f_X11_candour_32_blk3 {X : bz_X} (σ : bz_S) (what : Int32) : bz_run X bt_X11_candour 2 (13, [some (.ref 32), some (.int what), none], [], σ) = some (True, (15, [some (.ref 32), some (.int what), none], [.ref 32, .ref 32], σ)) := rfl
set_option maxRecDepth 100000 in
theorem f_X11_candour_32_blk4 {X : bz_X} (σ : bz_S) (what : Int32) (τ1 : Int32 × bz_S) (τ2 : Int32 × bz_S) : bz_run X bt_X11_candour 4 (21, [some (.ref 32), some (.int what), none], [.int τ2.1], τ2.2) = some (True, if τ2.1 = (-6) then (32, [some (.ref 32), some (.int what), some (.int τ2.1)], [], τ2.2) else (28, [some (.ref 32), some (.int what), some (.int τ2.1)], [], τ2.2)) := rfl
set_option maxRecDepth 100000 in
theorem f_X11_candour_32_blk5 {X : bz_X} (σ : bz_S) (what : Int32) (τ1 : Int32 × bz_S) (τ2 : Int32 × bz_S) : bz_run X bt_X11_candour 2 (32, [some (.ref 32), some (.int what), some (.int τ2.1)], [], τ2.2) = some (True, if ¬ what = 0 then (43, [some (.ref 32), some (.int what), some (.int τ2.1)], [], τ2.2) else (36, [some (.ref 32), some (.int what), some (.int τ2.1)], [], τ2.2)) := rfl
set_option maxRecDepth 100000 in
theorem f_X11_candour_32_blk6 {X : bz_X} (σ : bz_S) (what : Int32) (τ1 : Int32 × bz_S) (τ2 : Int32 × bz_S) : bz_run X bt_X11_candour 2 (43, [some (.ref 32), some (.int what), some (.int τ2.1)], [], τ2.2) = some (True, (47, [some (.ref 32), some (.int what), some (.int τ2.1)], [.int (τ2.2.1 32 24)], τ2.2)) := rfl
set_option maxRecDepth 100000 in
theorem f_X11_candour_32_blk7 {X : bz_X} (σ : bz_S) (what : Int32) (τ1 : Int32 × bz_S) (τ2 : Int32 × bz_S) : bz_run X bt_X11_candour 3 (36, [some (.ref 32), some (.int what), some (.int τ2.1)], [], τ2.2) = some (True, (47, [some (.ref 32), some (.int what), some (.int τ2.1)], [.int (τ2.2.1 32 29)], τ2.2)) := rfl
set_option maxRecDepth 100000 in
theorem f_X11_candour_32_blk8 {X : bz_X} (σ : bz_S) (what : Int32) (τ1 : Int32 × bz_S) (τ2 : Int32 × bz_S) : bz_run X bt_X11_candour 2 (28, [some (.ref 32), some (.int what), some (.int τ2.1)], [], τ2.2) = some (True, (47, [some (.ref 32), some (.int what), some (.int τ2.1)], [.int τ2.1], τ2.2)) := rfl
set_option maxRecDepth 100000 in
theorem f_X11_candour_32_blk9 {X : bz_X} (σ : bz_S) (what : Int32) : bz_run X bt_X11_candour 1 (10, [some (.ref 32), some (.int what), none], [], σ) = some (True, (12, [some (.ref 32), some (.int what), none], [.int (-2)], σ)) := rfl
set_option maxRecDepth 100000 in
theorem s_X11_candour_32 {X : bz_X} (σ : bz_S) (what : Int32) (hp : bz_padM σ) : bz_C bz_P X mX11_candour [.ref 32, .int what] σ (bz_pi (f_X11_candour_32 σ what).1 (f_X11_candour_32 σ what).2) := by
  show bz_wp bz_P X mX11_candour (bz_pi (f_X11_candour_32 σ what).1 (f_X11_candour_32 σ what).2) (0, [some (.ref 32), some (.int what), none], [], σ)
  refine bz_wpn bT_X11_candour 4 (b := (4, [some (.ref 32), some (.int what), none], [.long 1, .long 0, .long (Int32.toInt64 what)], σ)) (G := True) (f_X11_candour_32_blk1 σ what) trivial ?_
  refine bz_wci bT_X11_candour [.long (Int32.toInt64 what), .long 0, .long 1] (pc' := 7) (rest := []) rfl rfl (Nat.le_of_ble_eq_true rfl) rfl (Nat.le_of_ble_eq_true rfl) rfl (s_X11_in σ (Int32.toInt64 what) 0 1) rfl ?_
  refine bz_wpb bT_X11_candour 1 (b1 := (13, [some (.ref 32), some (.int what), none], [], σ)) (b2 := (10, [some (.ref 32), some (.int what), none], [], σ)) (C := ¬ bz_b (f_X11_in (Int32.toInt64 what) 0 1) = 0) (G := True) (f_X11_candour_32_blk2 σ what) trivial (fun h1 => ?_) (fun h1 => ?_)
  · skip
    have h1 := bz_b1 h1
    refine bz_wpn bT_X11_candour 2 (b := (15, [some (.ref 32), some (.int what), none], [.ref 32, .ref 32], σ)) (G := True) (f_X11_candour_32_blk3 σ what) trivial ?_
    refine bz_wci bT_X11_candour [.ref 32] (pc' := 18) (rest := [.ref 32]) rfl rfl (Nat.le_of_ble_eq_true rfl) rfl (Nat.le_of_ble_eq_true rfl) rfl (s_X11_refusal_32 σ hp) rfl ?_
    generalize hτ1 : f_X11_refusal_32 σ = τ1
    refine bz_wci bT_X11_candour [.ref 32, .int τ1.1] (pc' := 21) (rest := []) rfl rfl (Nat.le_of_ble_eq_true rfl) rfl (Nat.le_of_ble_eq_true rfl) rfl (s_X11_back_32 τ1.2 τ1.1) rfl ?_
    generalize hτ2 : f_X11_back_32 τ1.2 τ1.1 = τ2
    refine bz_wpb bT_X11_candour 4 (b1 := (32, [some (.ref 32), some (.int what), some (.int τ2.1)], [], τ2.2)) (b2 := (28, [some (.ref 32), some (.int what), some (.int τ2.1)], [], τ2.2)) (C := τ2.1 = (-6)) (G := True) (f_X11_candour_32_blk4 σ what τ1 τ2) trivial (fun h2 => ?_) (fun h2 => ?_)
    · skip
      refine bz_wpb bT_X11_candour 2 (b1 := (43, [some (.ref 32), some (.int what), some (.int τ2.1)], [], τ2.2)) (b2 := (36, [some (.ref 32), some (.int what), some (.int τ2.1)], [], τ2.2)) (C := ¬ what = 0) (G := True) (f_X11_candour_32_blk5 σ what τ1 τ2) trivial (fun h3 => ?_) (fun h3 => ?_)
      · skip
        refine bz_wpn bT_X11_candour 2 (b := (47, [some (.ref 32), some (.int what), some (.int τ2.1)], [.int (τ2.2.1 32 24)], τ2.2)) (G := True) (f_X11_candour_32_blk6 σ what τ1 τ2) trivial ?_
        refine bz_wpr bT_X11_candour rfl rfl trivial ?_
        have e9 : f_X11_candour_32 σ what = ((τ2.2.1 32 24), τ2.2) := by rw [f_X11_candour_32, if_pos (h1), hτ1, f_X11_candour_32_a, hτ2, f_X11_candour_32_b, if_pos (h2), if_neg (h3)]
        exact ⟨by rw [e9], by rw [e9]⟩
      · skip
        refine bz_wpn bT_X11_candour 3 (b := (47, [some (.ref 32), some (.int what), some (.int τ2.1)], [.int (τ2.2.1 32 29)], τ2.2)) (G := True) (f_X11_candour_32_blk7 σ what τ1 τ2) trivial ?_
        refine bz_wpr bT_X11_candour rfl rfl trivial ?_
        have e9 : f_X11_candour_32 σ what = ((τ2.2.1 32 29), τ2.2) := by rw [f_X11_candour_32, if_pos (h1), hτ1, f_X11_candour_32_a, hτ2, f_X11_candour_32_b, if_pos (h2), if_pos ((Decidable.not_not.mp h3))]
        exact ⟨by rw [e9], by rw [e9]⟩
    · skip
      refine bz_wpn bT_X11_candour 2 (b := (47, [some (.ref 32), some (.int what), some (.int τ2.1)], [.int τ2.1], τ2.2)) (G := True) (f_X11_candour_32_blk8 σ what τ1 τ2) trivial ?_
      refine bz_wpr bT_X11_candour rfl rfl trivial ?_
      have e9 : f_X11_candour_32 σ what = (τ2.1, τ2.2) := by rw [f_X11_candour_32, if_pos (h1), hτ1, f_X11_candour_32_a, hτ2, f_X11_candour_32_b, if_neg (h2)]
      exact ⟨by rw [e9], by rw [e9]⟩
  · skip
    have h1 := bz_b0 (Decidable.not_not.mp h1)
    refine bz_wpn bT_X11_candour 1 (b := (12, [some (.ref 32), some (.int what), none], [.int (-2)], σ)) (G := True) (f_X11_candour_32_blk9 σ what) trivial ?_
    refine bz_wpr bT_X11_candour rfl rfl trivial ?_
    have e9 : f_X11_candour_32 σ what = ((-2), σ) := by rw [f_X11_candour_32, if_neg (bz_ff h1)]
    exact ⟨by rw [e9], by rw [e9]⟩
theorem rf_X11_candour_32_b (σ : bz_S) (what : Int32) (τ1 : Int32 × bz_S) (τ2 : Int32 × bz_S) (fτ1 : bz_fr [32, 33, 37, 38, 39, 40, 41, 42] σ τ1.2) (fτ2 : bz_fr [32, 33, 37, 38, 39, 40, 41, 42] σ τ2.2) : bz_fr [32, 33, 37, 38, 39, 40, 41, 42] σ (f_X11_candour_32_b σ what τ1 τ2).2 := by
  unfold f_X11_candour_32_b
  exact (bz_ite2 (bz_ite2 fτ2 fτ2) fτ2)
theorem rf_X11_candour_32_a (σ : bz_S) (what : Int32) (τ1 : Int32 × bz_S) (fτ1 : bz_fr [32, 33, 37, 38, 39, 40, 41, 42] σ τ1.2) : bz_fr [32, 33, 37, 38, 39, 40, 41, 42] σ (f_X11_candour_32_a σ what τ1).2 := by
  unfold f_X11_candour_32_a
  exact (rf_X11_candour_32_b σ what τ1 (f_X11_back_32 τ1.2 τ1.1) fτ1 (bz_fr_tr (τ := τ1.2) fτ1 (bz_fr_mo (rf_X11_back_32 τ1.2 τ1.1) (by decide))))
theorem rf_X11_candour_32 (σ : bz_S) (what : Int32) : bz_fr [32, 33, 37, 38, 39, 40, 41, 42] σ (f_X11_candour_32 σ what).2 := by
  unfold f_X11_candour_32
  exact (bz_ite2 (rf_X11_candour_32_a σ what (f_X11_refusal_32 σ) (bz_fr_mo (rf_X11_refusal_32 σ) (by decide))) bz_fr_rf)
theorem qf_X11_candour_32_b (σ : bz_S) (what : Int32) (τ1 : Int32 × bz_S) (τ2 : Int32 × bz_S) (fτ1 : bz_fo [1, 2, 3, 13, 14, 15, 16, 17, 18, 19, 20, 21, 22, 23, 24, 27, 28, 29] σ τ1.2) (fτ2 : bz_fo [1, 2, 3, 13, 14, 15, 16, 17, 18, 19, 20, 21, 22, 23, 24, 27, 28, 29] σ τ2.2) : bz_fo [1, 2, 3, 13, 14, 15, 16, 17, 18, 19, 20, 21, 22, 23, 24, 27, 28, 29] σ (f_X11_candour_32_b σ what τ1 τ2).2 := by
  unfold f_X11_candour_32_b
  exact (bz_ite2 (bz_ite2 fτ2 fτ2) fτ2)
theorem qf_X11_candour_32_a (σ : bz_S) (what : Int32) (τ1 : Int32 × bz_S) (fτ1 : bz_fo [1, 2, 3, 13, 14, 15, 16, 17, 18, 19, 20, 21, 22, 23, 24, 27, 28, 29] σ τ1.2) : bz_fo [1, 2, 3, 13, 14, 15, 16, 17, 18, 19, 20, 21, 22, 23, 24, 27, 28, 29] σ (f_X11_candour_32_a σ what τ1).2 := by
  unfold f_X11_candour_32_a
  exact (qf_X11_candour_32_b σ what τ1 (f_X11_back_32 τ1.2 τ1.1) fτ1 (bz_fo_tr (τ := τ1.2) fτ1 (bz_fo_mo (qf_X11_back_32 τ1.2 τ1.1) (by decide))))
theorem qf_X11_candour_32 (σ : bz_S) (what : Int32) : bz_fo [1, 2, 3, 13, 14, 15, 16, 17, 18, 19, 20, 21, 22, 23, 24, 27, 28, 29] σ (f_X11_candour_32 σ what).2 := by
  unfold f_X11_candour_32
  exact (bz_ite2 (qf_X11_candour_32_a σ what (f_X11_refusal_32 σ) (bz_fo_mo (qf_X11_refusal_32 σ) (by decide))) bz_fo_rf)

def f_X11_behind_32_c (σ : bz_S) (b : Int32) (τ1 : Int32 × bz_S) (τ3 : Int32 × bz_S) : Int32 × bz_S := (τ3.1, τ3.2)
def f_X11_behind_32_b (σ : bz_S) (b : Int32) (τ1 : Int32 × bz_S) (τ2 : Int32 × bz_S) : Int32 × bz_S := (τ2.1, τ2.2)
def f_X11_behind_32_a (σ : bz_S) (b : Int32) (τ1 : Int32 × bz_S) : Int32 × bz_S := if τ1.1 = (-6) then (f_X11_behind_32_b σ b τ1 (f_X11_back_32 τ1.2 (τ1.2.1 33 b.toNatClampNeg))) else (f_X11_behind_32_c σ b τ1 (f_X11_back_32 τ1.2 τ1.1))
def f_X11_behind_32 (σ : bz_S) (b : Int32) : Int32 × bz_S := if f_X11_isBall b = true then (f_X11_behind_32_a σ b (f_X11_refusal_32 σ)) else ((-1), σ)
set_option maxRecDepth 100000 in
theorem f_X11_behind_32_blk1 {X : bz_X} (σ : bz_S) (b : Int32) : bz_run X bt_X11_behind 1 (0, [some (.ref 32), some (.int b), none], [], σ) = some (True, (1, [some (.ref 32), some (.int b), none], [.int b], σ)) := rfl
set_option maxRecDepth 100000 in
theorem f_X11_behind_32_blk2 {X : bz_X} (σ : bz_S) (b : Int32) : bz_run X bt_X11_behind 1 (4, [some (.ref 32), some (.int b), none], [.int (bz_b (f_X11_isBall b))], σ) = some (True, if ¬ bz_b (f_X11_isBall b) = 0 then (9, [some (.ref 32), some (.int b), none], [], σ) else (7, [some (.ref 32), some (.int b), none], [], σ)) := rfl
set_option maxRecDepth 100000 in
theorem f_X11_behind_32_blk3 {X : bz_X} (σ : bz_S) (b : Int32) : bz_run X bt_X11_behind 1 (9, [some (.ref 32), some (.int b), none], [], σ) = some (True, (10, [some (.ref 32), some (.int b), none], [.ref 32], σ)) := rfl
set_option maxRecDepth 100000 in
theorem f_X11_behind_32_blk4 {X : bz_X} (σ : bz_S) (b : Int32) (τ1 : Int32 × bz_S) : bz_run X bt_X11_behind 5 (13, [some (.ref 32), some (.int b), none], [.int τ1.1], τ1.2) = some (True, if τ1.1 = (-6) then (25, [some (.ref 32), some (.int b), some (.int τ1.1)], [.ref 32], τ1.2) else (21, [some (.ref 32), some (.int b), some (.int τ1.1)], [.ref 32], τ1.2)) := rfl
set_option maxRecDepth 100000 in
theorem f_X11_behind_32_blk5 {X : bz_X} (σ : bz_S) (b : Int32) (τ1 : Int32 × bz_S) : bz_run X bt_X11_behind 4 (25, [some (.ref 32), some (.int b), some (.int τ1.1)], [.ref 32], τ1.2) = some (vp_in b 3 ∧ True, (31, [some (.ref 32), some (.int b), some (.int τ1.1)], [.int (τ1.2.1 33 b.toNatClampNeg), .ref 32], τ1.2)) := rfl
set_option maxRecDepth 100000 in
theorem f_X11_behind_32_blk6 {X : bz_X} (σ : bz_S) (b : Int32) (τ1 : Int32 × bz_S) : bz_run X bt_X11_behind 2 (21, [some (.ref 32), some (.int b), some (.int τ1.1)], [.ref 32], τ1.2) = some (True, (31, [some (.ref 32), some (.int b), some (.int τ1.1)], [.int τ1.1, .ref 32], τ1.2)) := rfl
set_option maxRecDepth 100000 in
theorem f_X11_behind_32_blk7 {X : bz_X} (σ : bz_S) (b : Int32) : bz_run X bt_X11_behind 1 (7, [some (.ref 32), some (.int b), none], [], σ) = some (True, (8, [some (.ref 32), some (.int b), none], [.int (-1)], σ)) := rfl
set_option maxRecDepth 100000 in
theorem s_X11_behind_32 {X : bz_X} (σ : bz_S) (b : Int32) (hp : bz_padM σ) : bz_C bz_P X mX11_behind [.ref 32, .int b] σ (bz_pi (f_X11_behind_32 σ b).1 (f_X11_behind_32 σ b).2) := by
  show bz_wp bz_P X mX11_behind (bz_pi (f_X11_behind_32 σ b).1 (f_X11_behind_32 σ b).2) (0, [some (.ref 32), some (.int b), none], [], σ)
  refine bz_wpn bT_X11_behind 1 (b := (1, [some (.ref 32), some (.int b), none], [.int b], σ)) (G := True) (f_X11_behind_32_blk1 σ b) trivial ?_
  refine bz_wci bT_X11_behind [.int b] (pc' := 4) (rest := []) rfl rfl (Nat.le_of_ble_eq_true rfl) rfl (Nat.le_of_ble_eq_true rfl) rfl (s_X11_isBall σ b) rfl ?_
  refine bz_wpb bT_X11_behind 1 (b1 := (9, [some (.ref 32), some (.int b), none], [], σ)) (b2 := (7, [some (.ref 32), some (.int b), none], [], σ)) (C := ¬ bz_b (f_X11_isBall b) = 0) (G := True) (f_X11_behind_32_blk2 σ b) trivial (fun h1 => ?_) (fun h1 => ?_)
  · skip
    have h1 := bz_b1 h1
    refine bz_wpn bT_X11_behind 1 (b := (10, [some (.ref 32), some (.int b), none], [.ref 32], σ)) (G := True) (f_X11_behind_32_blk3 σ b) trivial ?_
    refine bz_wci bT_X11_behind [.ref 32] (pc' := 13) (rest := []) rfl rfl (Nat.le_of_ble_eq_true rfl) rfl (Nat.le_of_ble_eq_true rfl) rfl (s_X11_refusal_32 σ hp) rfl ?_
    generalize hτ1 : f_X11_refusal_32 σ = τ1
    refine bz_wpb bT_X11_behind 5 (b1 := (25, [some (.ref 32), some (.int b), some (.int τ1.1)], [.ref 32], τ1.2)) (b2 := (21, [some (.ref 32), some (.int b), some (.int τ1.1)], [.ref 32], τ1.2)) (C := τ1.1 = (-6)) (G := True) (f_X11_behind_32_blk4 σ b τ1) trivial (fun h2 => ?_) (fun h2 => ?_)
    · skip
      refine bz_wpn bT_X11_behind 4 (b := (31, [some (.ref 32), some (.int b), some (.int τ1.1)], [.int (τ1.2.1 33 b.toNatClampNeg), .ref 32], τ1.2)) (G := vp_in b 3 ∧ True) (f_X11_behind_32_blk5 σ b τ1) ⟨(bz_mball (by assumption)), trivial⟩ ?_
      refine bz_wci bT_X11_behind [.ref 32, .int (τ1.2.1 33 b.toNatClampNeg)] (pc' := 34) (rest := []) rfl rfl (Nat.le_of_ble_eq_true rfl) rfl (Nat.le_of_ble_eq_true rfl) rfl (s_X11_back_32 τ1.2 (τ1.2.1 33 b.toNatClampNeg)) rfl ?_
      generalize hτ2 : f_X11_back_32 τ1.2 (τ1.2.1 33 b.toNatClampNeg) = τ2
      refine bz_wpr bT_X11_behind rfl rfl trivial ?_
      have e9 : f_X11_behind_32 σ b = (τ2.1, τ2.2) := by rw [f_X11_behind_32, if_pos (h1), hτ1, f_X11_behind_32_a, if_pos (h2), hτ2, f_X11_behind_32_b]
      exact ⟨by rw [e9], by rw [e9]⟩
    · skip
      refine bz_wpn bT_X11_behind 2 (b := (31, [some (.ref 32), some (.int b), some (.int τ1.1)], [.int τ1.1, .ref 32], τ1.2)) (G := True) (f_X11_behind_32_blk6 σ b τ1) trivial ?_
      refine bz_wci bT_X11_behind [.ref 32, .int τ1.1] (pc' := 34) (rest := []) rfl rfl (Nat.le_of_ble_eq_true rfl) rfl (Nat.le_of_ble_eq_true rfl) rfl (s_X11_back_32 τ1.2 τ1.1) rfl ?_
      generalize hτ3 : f_X11_back_32 τ1.2 τ1.1 = τ3
      refine bz_wpr bT_X11_behind rfl rfl trivial ?_
      have e9 : f_X11_behind_32 σ b = (τ3.1, τ3.2) := by rw [f_X11_behind_32, if_pos (h1), hτ1, f_X11_behind_32_a, if_neg (h2), hτ3, f_X11_behind_32_c]
      exact ⟨by rw [e9], by rw [e9]⟩
  · skip
    have h1 := bz_b0 (Decidable.not_not.mp h1)
    refine bz_wpn bT_X11_behind 1 (b := (8, [some (.ref 32), some (.int b), none], [.int (-1)], σ)) (G := True) (f_X11_behind_32_blk7 σ b) trivial ?_
    refine bz_wpr bT_X11_behind rfl rfl trivial ?_
    have e9 : f_X11_behind_32 σ b = ((-1), σ) := by rw [f_X11_behind_32, if_neg (bz_ff h1)]
    exact ⟨by rw [e9], by rw [e9]⟩
theorem rf_X11_behind_32_b (σ : bz_S) (b : Int32) (τ1 : Int32 × bz_S) (τ2 : Int32 × bz_S) (fτ1 : bz_fr [32, 33, 37, 38, 39, 40, 41, 42] σ τ1.2) (fτ2 : bz_fr [32, 33, 37, 38, 39, 40, 41, 42] σ τ2.2) : bz_fr [32, 33, 37, 38, 39, 40, 41, 42] σ (f_X11_behind_32_b σ b τ1 τ2).2 := by
  unfold f_X11_behind_32_b
  exact fτ2
theorem rf_X11_behind_32_c (σ : bz_S) (b : Int32) (τ1 : Int32 × bz_S) (τ3 : Int32 × bz_S) (fτ1 : bz_fr [32, 33, 37, 38, 39, 40, 41, 42] σ τ1.2) (fτ3 : bz_fr [32, 33, 37, 38, 39, 40, 41, 42] σ τ3.2) : bz_fr [32, 33, 37, 38, 39, 40, 41, 42] σ (f_X11_behind_32_c σ b τ1 τ3).2 := by
  unfold f_X11_behind_32_c
  exact fτ3
theorem rf_X11_behind_32_a (σ : bz_S) (b : Int32) (τ1 : Int32 × bz_S) (fτ1 : bz_fr [32, 33, 37, 38, 39, 40, 41, 42] σ τ1.2) : bz_fr [32, 33, 37, 38, 39, 40, 41, 42] σ (f_X11_behind_32_a σ b τ1).2 := by
  unfold f_X11_behind_32_a
  exact (bz_ite2 (rf_X11_behind_32_b σ b τ1 (f_X11_back_32 τ1.2 (τ1.2.1 33 b.toNatClampNeg)) fτ1 (bz_fr_tr (τ := τ1.2) fτ1 (bz_fr_mo (rf_X11_back_32 τ1.2 (τ1.2.1 33 b.toNatClampNeg)) (by decide)))) (rf_X11_behind_32_c σ b τ1 (f_X11_back_32 τ1.2 τ1.1) fτ1 (bz_fr_tr (τ := τ1.2) fτ1 (bz_fr_mo (rf_X11_back_32 τ1.2 τ1.1) (by decide)))))
theorem rf_X11_behind_32 (σ : bz_S) (b : Int32) : bz_fr [32, 33, 37, 38, 39, 40, 41, 42] σ (f_X11_behind_32 σ b).2 := by
  unfold f_X11_behind_32
  exact (bz_ite2 (rf_X11_behind_32_a σ b (f_X11_refusal_32 σ) (bz_fr_mo (rf_X11_refusal_32 σ) (by decide))) bz_fr_rf)
theorem qf_X11_behind_32_b (σ : bz_S) (b : Int32) (τ1 : Int32 × bz_S) (τ2 : Int32 × bz_S) (fτ1 : bz_fo [1, 2, 3, 13, 14, 15, 16, 17, 18, 19, 20, 21, 22, 23, 24, 27, 28, 29] σ τ1.2) (fτ2 : bz_fo [1, 2, 3, 13, 14, 15, 16, 17, 18, 19, 20, 21, 22, 23, 24, 27, 28, 29] σ τ2.2) : bz_fo [1, 2, 3, 13, 14, 15, 16, 17, 18, 19, 20, 21, 22, 23, 24, 27, 28, 29] σ (f_X11_behind_32_b σ b τ1 τ2).2 := by
  unfold f_X11_behind_32_b
  exact fτ2
theorem qf_X11_behind_32_c (σ : bz_S) (b : Int32) (τ1 : Int32 × bz_S) (τ3 : Int32 × bz_S) (fτ1 : bz_fo [1, 2, 3, 13, 14, 15, 16, 17, 18, 19, 20, 21, 22, 23, 24, 27, 28, 29] σ τ1.2) (fτ3 : bz_fo [1, 2, 3, 13, 14, 15, 16, 17, 18, 19, 20, 21, 22, 23, 24, 27, 28, 29] σ τ3.2) : bz_fo [1, 2, 3, 13, 14, 15, 16, 17, 18, 19, 20, 21, 22, 23, 24, 27, 28, 29] σ (f_X11_behind_32_c σ b τ1 τ3).2 := by
  unfold f_X11_behind_32_c
  exact fτ3
theorem qf_X11_behind_32_a (σ : bz_S) (b : Int32) (τ1 : Int32 × bz_S) (fτ1 : bz_fo [1, 2, 3, 13, 14, 15, 16, 17, 18, 19, 20, 21, 22, 23, 24, 27, 28, 29] σ τ1.2) : bz_fo [1, 2, 3, 13, 14, 15, 16, 17, 18, 19, 20, 21, 22, 23, 24, 27, 28, 29] σ (f_X11_behind_32_a σ b τ1).2 := by
  unfold f_X11_behind_32_a
  exact (bz_ite2 (qf_X11_behind_32_b σ b τ1 (f_X11_back_32 τ1.2 (τ1.2.1 33 b.toNatClampNeg)) fτ1 (bz_fo_tr (τ := τ1.2) fτ1 (bz_fo_mo (qf_X11_back_32 τ1.2 (τ1.2.1 33 b.toNatClampNeg)) (by decide)))) (qf_X11_behind_32_c σ b τ1 (f_X11_back_32 τ1.2 τ1.1) fτ1 (bz_fo_tr (τ := τ1.2) fτ1 (bz_fo_mo (qf_X11_back_32 τ1.2 τ1.1) (by decide)))))
theorem qf_X11_behind_32 (σ : bz_S) (b : Int32) : bz_fo [1, 2, 3, 13, 14, 15, 16, 17, 18, 19, 20, 21, 22, 23, 24, 27, 28, 29] σ (f_X11_behind_32 σ b).2 := by
  unfold f_X11_behind_32
  exact (bz_ite2 (qf_X11_behind_32_a σ b (f_X11_refusal_32 σ) (bz_fo_mo (qf_X11_refusal_32 σ) (by decide))) bz_fo_rf)

def f_X11_done_32_b (σ : bz_S) (τ1 : Int32 × bz_S) (τ2 : Int32 × bz_S) : Int32 × bz_S := (τ2.1, τ2.2)
def f_X11_done_32_a (σ : bz_S) (τ1 : Int32 × bz_S) : Int32 × bz_S := if τ1.1 = (-6) then ((τ1.2.1 32 13), ((bz_up τ1.2.1 32 8 0), τ1.2.2)) else (f_X11_done_32_b σ τ1 (f_X11_back_32 τ1.2 τ1.1))
def f_X11_done_32 (σ : bz_S)  : Int32 × bz_S := (f_X11_done_32_a σ (f_X11_refusal_32 σ))
set_option maxRecDepth 100000 in
theorem f_X11_done_32_blk1 {X : bz_X} (σ : bz_S) : bz_run X bt_X11_done 1 (0, [some (.ref 32), none], [], σ) = some (True, (1, [some (.ref 32), none], [.ref 32], σ)) := rfl
set_option maxRecDepth 100000 in
theorem f_X11_done_32_blk2 {X : bz_X} (σ : bz_S) (τ1 : Int32 × bz_S) : bz_run X bt_X11_done 4 (4, [some (.ref 32), none], [.int τ1.1], τ1.2) = some (True, if τ1.1 = (-6) then (17, [some (.ref 32), some (.int τ1.1)], [], τ1.2) else (11, [some (.ref 32), some (.int τ1.1)], [], τ1.2)) := rfl
set_option maxRecDepth 100000 in
theorem f_X11_done_32_blk3 {X : bz_X} (σ : bz_S) (τ1 : Int32 × bz_S) : bz_run X bt_X11_done 5 (17, [some (.ref 32), some (.int τ1.1)], [], τ1.2) = some (True, (26, [some (.ref 32), some (.int τ1.1)], [.int (τ1.2.1 32 13)], ((bz_up τ1.2.1 32 8 0), τ1.2.2))) := rfl
set_option maxRecDepth 100000 in
theorem f_X11_done_32_blk4 {X : bz_X} (σ : bz_S) (τ1 : Int32 × bz_S) : bz_run X bt_X11_done 2 (11, [some (.ref 32), some (.int τ1.1)], [], τ1.2) = some (True, (13, [some (.ref 32), some (.int τ1.1)], [.int τ1.1, .ref 32], τ1.2)) := rfl
set_option maxRecDepth 100000 in
theorem s_X11_done_32 {X : bz_X} (σ : bz_S) (hp : bz_padM σ) : bz_C bz_P X mX11_done [.ref 32] σ (bz_pi (f_X11_done_32 σ).1 (f_X11_done_32 σ).2) := by
  show bz_wp bz_P X mX11_done (bz_pi (f_X11_done_32 σ).1 (f_X11_done_32 σ).2) (0, [some (.ref 32), none], [], σ)
  refine bz_wpn bT_X11_done 1 (b := (1, [some (.ref 32), none], [.ref 32], σ)) (G := True) (f_X11_done_32_blk1 σ) trivial ?_
  refine bz_wci bT_X11_done [.ref 32] (pc' := 4) (rest := []) rfl rfl (Nat.le_of_ble_eq_true rfl) rfl (Nat.le_of_ble_eq_true rfl) rfl (s_X11_refusal_32 σ hp) rfl ?_
  generalize hτ1 : f_X11_refusal_32 σ = τ1
  refine bz_wpb bT_X11_done 4 (b1 := (17, [some (.ref 32), some (.int τ1.1)], [], τ1.2)) (b2 := (11, [some (.ref 32), some (.int τ1.1)], [], τ1.2)) (C := τ1.1 = (-6)) (G := True) (f_X11_done_32_blk2 σ τ1) trivial (fun h1 => ?_) (fun h1 => ?_)
  · skip
    refine bz_wpn bT_X11_done 5 (b := (26, [some (.ref 32), some (.int τ1.1)], [.int (τ1.2.1 32 13)], ((bz_up τ1.2.1 32 8 0), τ1.2.2))) (G := True) (f_X11_done_32_blk3 σ τ1) trivial ?_
    refine bz_wpr bT_X11_done rfl rfl trivial ?_
    have e9 : f_X11_done_32 σ = ((τ1.2.1 32 13), ((bz_up τ1.2.1 32 8 0), τ1.2.2)) := by rw [f_X11_done_32, hτ1, f_X11_done_32_a, if_pos (h1)]
    exact ⟨by rw [e9], by rw [e9]⟩
  · skip
    refine bz_wpn bT_X11_done 2 (b := (13, [some (.ref 32), some (.int τ1.1)], [.int τ1.1, .ref 32], τ1.2)) (G := True) (f_X11_done_32_blk4 σ τ1) trivial ?_
    refine bz_wci bT_X11_done [.ref 32, .int τ1.1] (pc' := 16) (rest := []) rfl rfl (Nat.le_of_ble_eq_true rfl) rfl (Nat.le_of_ble_eq_true rfl) rfl (s_X11_back_32 τ1.2 τ1.1) rfl ?_
    generalize hτ2 : f_X11_back_32 τ1.2 τ1.1 = τ2
    refine bz_wpr bT_X11_done rfl rfl trivial ?_
    have e9 : f_X11_done_32 σ = (τ2.1, τ2.2) := by rw [f_X11_done_32, hτ1, f_X11_done_32_a, if_neg (h1), hτ2, f_X11_done_32_b]
    exact ⟨by rw [e9], by rw [e9]⟩
theorem rf_X11_done_32_b (σ : bz_S) (τ1 : Int32 × bz_S) (τ2 : Int32 × bz_S) (fτ1 : bz_fr [32, 33, 37, 38, 39, 40, 41, 42] σ τ1.2) (fτ2 : bz_fr [32, 33, 37, 38, 39, 40, 41, 42] σ τ2.2) : bz_fr [32, 33, 37, 38, 39, 40, 41, 42] σ (f_X11_done_32_b σ τ1 τ2).2 := by
  unfold f_X11_done_32_b
  exact fτ2
theorem rf_X11_done_32_a (σ : bz_S) (τ1 : Int32 × bz_S) (fτ1 : bz_fr [32, 33, 37, 38, 39, 40, 41, 42] σ τ1.2) : bz_fr [32, 33, 37, 38, 39, 40, 41, 42] σ (f_X11_done_32_a σ τ1).2 := by
  unfold f_X11_done_32_a
  exact (bz_ite2 ⟨(bz_f1_up (fτ1).1 (by decide)), (fτ1).2⟩ (rf_X11_done_32_b σ τ1 (f_X11_back_32 τ1.2 τ1.1) fτ1 (bz_fr_tr (τ := τ1.2) fτ1 (bz_fr_mo (rf_X11_back_32 τ1.2 τ1.1) (by decide)))))
theorem rf_X11_done_32 (σ : bz_S)  : bz_fr [32, 33, 37, 38, 39, 40, 41, 42] σ (f_X11_done_32 σ).2 := by
  unfold f_X11_done_32
  exact (rf_X11_done_32_a σ (f_X11_refusal_32 σ) (bz_fr_mo (rf_X11_refusal_32 σ) (by decide)))
theorem qf_X11_done_32_b (σ : bz_S) (τ1 : Int32 × bz_S) (τ2 : Int32 × bz_S) (fτ1 : bz_fo [1, 2, 3, 8, 13, 14, 15, 16, 17, 18, 19, 20, 21, 22, 23, 24, 27, 28, 29] σ τ1.2) (fτ2 : bz_fo [1, 2, 3, 8, 13, 14, 15, 16, 17, 18, 19, 20, 21, 22, 23, 24, 27, 28, 29] σ τ2.2) : bz_fo [1, 2, 3, 8, 13, 14, 15, 16, 17, 18, 19, 20, 21, 22, 23, 24, 27, 28, 29] σ (f_X11_done_32_b σ τ1 τ2).2 := by
  unfold f_X11_done_32_b
  exact fτ2
theorem qf_X11_done_32_a (σ : bz_S) (τ1 : Int32 × bz_S) (fτ1 : bz_fo [1, 2, 3, 8, 13, 14, 15, 16, 17, 18, 19, 20, 21, 22, 23, 24, 27, 28, 29] σ τ1.2) : bz_fo [1, 2, 3, 8, 13, 14, 15, 16, 17, 18, 19, 20, 21, 22, 23, 24, 27, 28, 29] σ (f_X11_done_32_a σ τ1).2 := by
  unfold f_X11_done_32_a
  exact (bz_ite2 (bz_fo_up (f := _) fτ1 (by decide)) (qf_X11_done_32_b σ τ1 (f_X11_back_32 τ1.2 τ1.1) fτ1 (bz_fo_tr (τ := τ1.2) fτ1 (bz_fo_mo (qf_X11_back_32 τ1.2 τ1.1) (by decide)))))
theorem qf_X11_done_32 (σ : bz_S)  : bz_fo [1, 2, 3, 8, 13, 14, 15, 16, 17, 18, 19, 20, 21, 22, 23, 24, 27, 28, 29] σ (f_X11_done_32 σ).2 := by
  unfold f_X11_done_32
  exact (qf_X11_done_32_a σ (f_X11_refusal_32 σ) (bz_fo_mo (qf_X11_refusal_32 σ) (by decide)))

def f_X11_stepsBy_32_c (σ : bz_S) (b : Int32) (ot : Int32) (c : Int32) (w : Int32) (τ1 : bz_S) (τ2 : bz_S) (τ3 : Int32 × bz_S) : Int32 × bz_S := (τ3.1, τ3.2)
def f_X11_stepsBy_32_d (σ : bz_S) (b : Int32) (ot : Int32) (c : Int32) (w : Int32) (τ1 : bz_S) (τ2 : bz_S) (τ4 : Int32 × bz_S) : Int32 × bz_S := (τ4.1, τ4.2)
def f_X11_stepsBy_32_e (σ : bz_S) (b : Int32) (ot : Int32) (c : Int32) (w : Int32) (τ1 : bz_S) (τ2 : bz_S) (τ5 : Int32 × bz_S) : Int32 × bz_S := (τ5.1, τ5.2)
def f_X11_stepsBy_32_b (σ : bz_S) (b : Int32) (ot : Int32) (c : Int32) (w : Int32) (τ1 : bz_S) (τ2 : bz_S) : Int32 × bz_S := if (τ2.1 32 20) = ot then if (τ2.1 32 19) = c then (f_X11_stepsBy_32_e σ b ot c w τ1 τ2 (f_X11_back_32 τ2 (τ2.1 32 21))) else (f_X11_stepsBy_32_d σ b ot c w τ1 τ2 (f_X11_back_32 τ2 (-6))) else (f_X11_stepsBy_32_c σ b ot c w τ1 τ2 (f_X11_back_32 τ2 (-6)))
def f_X11_stepsBy_32_a (σ : bz_S) (b : Int32) (ot : Int32) (c : Int32) (w : Int32) (τ1 : bz_S) : Int32 × bz_S := (f_X11_stepsBy_32_b σ b ot c w τ1 (f_X11_send_32 τ1 b w 9))
def f_X11_stepsBy_32 (σ : bz_S) (b : Int32) (ot : Int32) (c : Int32) (w : Int32) : Int32 × bz_S := (f_X11_stepsBy_32_a σ b ot c w (f_X11_keepNow_32 σ))
set_option maxRecDepth 100000 in
theorem f_X11_stepsBy_32_blk1 {X : bz_X} (σ : bz_S) (b : Int32) (ot : Int32) (c : Int32) (w : Int32) : bz_run X bt_X11_stepsBy 1 (0, [some (.ref 32), some (.int b), some (.int ot), some (.int c), some (.int w), none], [], σ) = some (True, (1, [some (.ref 32), some (.int b), some (.int ot), some (.int c), some (.int w), none], [.ref 32], σ)) := rfl
set_option maxRecDepth 100000 in
theorem f_X11_stepsBy_32_blk2 {X : bz_X} (σ : bz_S) (b : Int32) (ot : Int32) (c : Int32) (w : Int32) (τ1 : bz_S) : bz_run X bt_X11_stepsBy 4 (4, [some (.ref 32), some (.int b), some (.int ot), some (.int c), some (.int w), none], [], τ1) = some (True, (10, [some (.ref 32), some (.int b), some (.int ot), some (.int c), some (.int w), none], [.int 9, .int w, .int b, .ref 32], τ1)) := rfl
set_option maxRecDepth 100000 in
theorem f_X11_stepsBy_32_blk3 {X : bz_X} (σ : bz_S) (b : Int32) (ot : Int32) (c : Int32) (w : Int32) (τ1 : bz_S) (τ2 : bz_S) : bz_run X bt_X11_stepsBy 4 (13, [some (.ref 32), some (.int b), some (.int ot), some (.int c), some (.int w), none], [], τ2) = some (True, if ¬ (τ2.1 32 20) = ot then (33, [some (.ref 32), some (.int b), some (.int ot), some (.int c), some (.int w), none], [], τ2) else (21, [some (.ref 32), some (.int b), some (.int ot), some (.int c), some (.int w), none], [], τ2)) := rfl
set_option maxRecDepth 100000 in
theorem f_X11_stepsBy_32_blk4 {X : bz_X} (σ : bz_S) (b : Int32) (ot : Int32) (c : Int32) (w : Int32) (τ1 : bz_S) (τ2 : bz_S) : bz_run X bt_X11_stepsBy 5 (33, [some (.ref 32), some (.int b), some (.int ot), some (.int c), some (.int w), none], [], τ2) = some (True, if (0 : Int32) = 0 then (49, [some (.ref 32), some (.int b), some (.int ot), some (.int c), some (.int w), some (.int 0)], [.ref 32], τ2) else (42, [some (.ref 32), some (.int b), some (.int ot), some (.int c), some (.int w), some (.int 0)], [.ref 32], τ2)) := rfl
set_option maxRecDepth 100000 in
theorem f_X11_stepsBy_32_blk5 {X : bz_X} (σ : bz_S) (b : Int32) (ot : Int32) (c : Int32) (w : Int32) (τ1 : bz_S) (τ2 : bz_S) : bz_run X bt_X11_stepsBy 1 (49, [some (.ref 32), some (.int b), some (.int ot), some (.int c), some (.int w), some (.int 0)], [.ref 32], τ2) = some (True, (51, [some (.ref 32), some (.int b), some (.int ot), some (.int c), some (.int w), some (.int 0)], [.int (-6), .ref 32], τ2)) := rfl
set_option maxRecDepth 100000 in
theorem f_X11_stepsBy_32_blk6 {X : bz_X} (σ : bz_S) (b : Int32) (ot : Int32) (c : Int32) (w : Int32) (τ1 : bz_S) (τ2 : bz_S) : bz_run X bt_X11_stepsBy 4 (21, [some (.ref 32), some (.int b), some (.int ot), some (.int c), some (.int w), none], [], τ2) = some (True, if ¬ (τ2.1 32 19) = c then (33, [some (.ref 32), some (.int b), some (.int ot), some (.int c), some (.int w), none], [], τ2) else (29, [some (.ref 32), some (.int b), some (.int ot), some (.int c), some (.int w), none], [], τ2)) := rfl
set_option maxRecDepth 100000 in
theorem f_X11_stepsBy_32_blk7 {X : bz_X} (σ : bz_S) (b : Int32) (ot : Int32) (c : Int32) (w : Int32) (τ1 : bz_S) (τ2 : bz_S) : bz_run X bt_X11_stepsBy 5 (33, [some (.ref 32), some (.int b), some (.int ot), some (.int c), some (.int w), none], [], τ2) = some (True, if (0 : Int32) = 0 then (49, [some (.ref 32), some (.int b), some (.int ot), some (.int c), some (.int w), some (.int 0)], [.ref 32], τ2) else (42, [some (.ref 32), some (.int b), some (.int ot), some (.int c), some (.int w), some (.int 0)], [.ref 32], τ2)) := rfl
set_option maxRecDepth 100000 in
theorem f_X11_stepsBy_32_blk8 {X : bz_X} (σ : bz_S) (b : Int32) (ot : Int32) (c : Int32) (w : Int32) (τ1 : bz_S) (τ2 : bz_S) : bz_run X bt_X11_stepsBy 1 (49, [some (.ref 32), some (.int b), some (.int ot), some (.int c), some (.int w), some (.int 0)], [.ref 32], τ2) = some (True, (51, [some (.ref 32), some (.int b), some (.int ot), some (.int c), some (.int w), some (.int 0)], [.int (-6), .ref 32], τ2)) := rfl
set_option maxRecDepth 100000 in
theorem f_X11_stepsBy_32_blk9 {X : bz_X} (σ : bz_S) (b : Int32) (ot : Int32) (c : Int32) (w : Int32) (τ1 : bz_S) (τ2 : bz_S) : bz_run X bt_X11_stepsBy 6 (29, [some (.ref 32), some (.int b), some (.int ot), some (.int c), some (.int w), none], [], τ2) = some (True, if (1 : Int32) = 0 then (49, [some (.ref 32), some (.int b), some (.int ot), some (.int c), some (.int w), some (.int 1)], [.ref 32], τ2) else (42, [some (.ref 32), some (.int b), some (.int ot), some (.int c), some (.int w), some (.int 1)], [.ref 32], τ2)) := rfl
set_option maxRecDepth 100000 in
theorem f_X11_stepsBy_32_blk10 {X : bz_X} (σ : bz_S) (b : Int32) (ot : Int32) (c : Int32) (w : Int32) (τ1 : bz_S) (τ2 : bz_S) : bz_run X bt_X11_stepsBy 3 (42, [some (.ref 32), some (.int b), some (.int ot), some (.int c), some (.int w), some (.int 1)], [.ref 32], τ2) = some (True, (51, [some (.ref 32), some (.int b), some (.int ot), some (.int c), some (.int w), some (.int 1)], [.int (τ2.1 32 21), .ref 32], τ2)) := rfl
set_option maxRecDepth 100000 in
theorem s_X11_stepsBy_32 {X : bz_X} (σ : bz_S) (b : Int32) (ot : Int32) (c : Int32) (w : Int32) (hb : vp_in b 3) : bz_C bz_P X mX11_stepsBy [.ref 32, .int b, .int ot, .int c, .int w] σ (bz_pi (f_X11_stepsBy_32 σ b ot c w).1 (f_X11_stepsBy_32 σ b ot c w).2) := by
  show bz_wp bz_P X mX11_stepsBy (bz_pi (f_X11_stepsBy_32 σ b ot c w).1 (f_X11_stepsBy_32 σ b ot c w).2) (0, [some (.ref 32), some (.int b), some (.int ot), some (.int c), some (.int w), none], [], σ)
  refine bz_wpn bT_X11_stepsBy 1 (b := (1, [some (.ref 32), some (.int b), some (.int ot), some (.int c), some (.int w), none], [.ref 32], σ)) (G := True) (f_X11_stepsBy_32_blk1 σ b ot c w) trivial ?_
  refine bz_wcv bT_X11_stepsBy [.ref 32] (pc' := 4) (rest := []) rfl rfl (Nat.le_of_ble_eq_true rfl) rfl (Nat.le_of_ble_eq_true rfl) rfl (s_X11_keepNow_32 σ) rfl ?_
  generalize hτ1 : f_X11_keepNow_32 σ = τ1
  refine bz_wpn bT_X11_stepsBy 4 (b := (10, [some (.ref 32), some (.int b), some (.int ot), some (.int c), some (.int w), none], [.int 9, .int w, .int b, .ref 32], τ1)) (G := True) (f_X11_stepsBy_32_blk2 σ b ot c w τ1) trivial ?_
  refine bz_wcv bT_X11_stepsBy [.ref 32, .int b, .int w, .int 9] (pc' := 13) (rest := []) rfl rfl (Nat.le_of_ble_eq_true rfl) rfl (Nat.le_of_ble_eq_true rfl) rfl (s_X11_send_32 τ1 b w 9 hb ⟨9, by decide, by decide⟩) rfl ?_
  generalize hτ2 : f_X11_send_32 τ1 b w 9 = τ2
  refine bz_wpb bT_X11_stepsBy 4 (b1 := (33, [some (.ref 32), some (.int b), some (.int ot), some (.int c), some (.int w), none], [], τ2)) (b2 := (21, [some (.ref 32), some (.int b), some (.int ot), some (.int c), some (.int w), none], [], τ2)) (C := ¬ (τ2.1 32 20) = ot) (G := True) (f_X11_stepsBy_32_blk3 σ b ot c w τ1 τ2) trivial (fun h1 => ?_) (fun h1 => ?_)
  · skip
    refine bz_wpb bT_X11_stepsBy 5 (b1 := (49, [some (.ref 32), some (.int b), some (.int ot), some (.int c), some (.int w), some (.int 0)], [.ref 32], τ2)) (b2 := (42, [some (.ref 32), some (.int b), some (.int ot), some (.int c), some (.int w), some (.int 0)], [.ref 32], τ2)) (C := (0 : Int32) = 0) (G := True) (f_X11_stepsBy_32_blk4 σ b ot c w τ1 τ2) trivial (fun _ => ?_) (fun z => absurd (by decide) z)
    refine bz_wpn bT_X11_stepsBy 1 (b := (51, [some (.ref 32), some (.int b), some (.int ot), some (.int c), some (.int w), some (.int 0)], [.int (-6), .ref 32], τ2)) (G := True) (f_X11_stepsBy_32_blk5 σ b ot c w τ1 τ2) trivial ?_
    refine bz_wci bT_X11_stepsBy [.ref 32, .int (-6)] (pc' := 54) (rest := []) rfl rfl (Nat.le_of_ble_eq_true rfl) rfl (Nat.le_of_ble_eq_true rfl) rfl (s_X11_back_32 τ2 (-6)) rfl ?_
    generalize hτ3 : f_X11_back_32 τ2 (-6) = τ3
    refine bz_wpr bT_X11_stepsBy rfl rfl trivial ?_
    have e9 : f_X11_stepsBy_32 σ b ot c w = (τ3.1, τ3.2) := by rw [f_X11_stepsBy_32, hτ1, f_X11_stepsBy_32_a, hτ2, f_X11_stepsBy_32_b, if_neg (h1), hτ3, f_X11_stepsBy_32_c]
    exact ⟨by rw [e9], by rw [e9]⟩
  · skip
    refine bz_wpb bT_X11_stepsBy 4 (b1 := (33, [some (.ref 32), some (.int b), some (.int ot), some (.int c), some (.int w), none], [], τ2)) (b2 := (29, [some (.ref 32), some (.int b), some (.int ot), some (.int c), some (.int w), none], [], τ2)) (C := ¬ (τ2.1 32 19) = c) (G := True) (f_X11_stepsBy_32_blk6 σ b ot c w τ1 τ2) trivial (fun h2 => ?_) (fun h2 => ?_)
    · skip
      refine bz_wpb bT_X11_stepsBy 5 (b1 := (49, [some (.ref 32), some (.int b), some (.int ot), some (.int c), some (.int w), some (.int 0)], [.ref 32], τ2)) (b2 := (42, [some (.ref 32), some (.int b), some (.int ot), some (.int c), some (.int w), some (.int 0)], [.ref 32], τ2)) (C := (0 : Int32) = 0) (G := True) (f_X11_stepsBy_32_blk7 σ b ot c w τ1 τ2) trivial (fun _ => ?_) (fun z => absurd (by decide) z)
      refine bz_wpn bT_X11_stepsBy 1 (b := (51, [some (.ref 32), some (.int b), some (.int ot), some (.int c), some (.int w), some (.int 0)], [.int (-6), .ref 32], τ2)) (G := True) (f_X11_stepsBy_32_blk8 σ b ot c w τ1 τ2) trivial ?_
      refine bz_wci bT_X11_stepsBy [.ref 32, .int (-6)] (pc' := 54) (rest := []) rfl rfl (Nat.le_of_ble_eq_true rfl) rfl (Nat.le_of_ble_eq_true rfl) rfl (s_X11_back_32 τ2 (-6)) rfl ?_
      generalize hτ4 : f_X11_back_32 τ2 (-6) = τ4
      refine bz_wpr bT_X11_stepsBy rfl rfl trivial ?_
      have e9 : f_X11_stepsBy_32 σ b ot c w = (τ4.1, τ4.2) := by rw [f_X11_stepsBy_32, hτ1, f_X11_stepsBy_32_a, hτ2, f_X11_stepsBy_32_b, if_pos ((Decidable.not_not.mp h1)), if_neg (h2), hτ4, f_X11_stepsBy_32_d]
      exact ⟨by rw [e9], by rw [e9]⟩
    · skip
      refine bz_wpb bT_X11_stepsBy 6 (b1 := (49, [some (.ref 32), some (.int b), some (.int ot), some (.int c), some (.int w), some (.int 1)], [.ref 32], τ2)) (b2 := (42, [some (.ref 32), some (.int b), some (.int ot), some (.int c), some (.int w), some (.int 1)], [.ref 32], τ2)) (C := (1 : Int32) = 0) (G := True) (f_X11_stepsBy_32_blk9 σ b ot c w τ1 τ2) trivial (fun z => absurd z (by decide)) (fun _ => ?_)
      refine bz_wpn bT_X11_stepsBy 3 (b := (51, [some (.ref 32), some (.int b), some (.int ot), some (.int c), some (.int w), some (.int 1)], [.int (τ2.1 32 21), .ref 32], τ2)) (G := True) (f_X11_stepsBy_32_blk10 σ b ot c w τ1 τ2) trivial ?_
      refine bz_wci bT_X11_stepsBy [.ref 32, .int (τ2.1 32 21)] (pc' := 54) (rest := []) rfl rfl (Nat.le_of_ble_eq_true rfl) rfl (Nat.le_of_ble_eq_true rfl) rfl (s_X11_back_32 τ2 (τ2.1 32 21)) rfl ?_
      generalize hτ5 : f_X11_back_32 τ2 (τ2.1 32 21) = τ5
      refine bz_wpr bT_X11_stepsBy rfl rfl trivial ?_
      have e9 : f_X11_stepsBy_32 σ b ot c w = (τ5.1, τ5.2) := by rw [f_X11_stepsBy_32, hτ1, f_X11_stepsBy_32_a, hτ2, f_X11_stepsBy_32_b, if_pos ((Decidable.not_not.mp h1)), if_pos ((Decidable.not_not.mp h2)), hτ5, f_X11_stepsBy_32_e]
      exact ⟨by rw [e9], by rw [e9]⟩
theorem rf_X11_stepsBy_32_e (σ : bz_S) (b : Int32) (ot : Int32) (c : Int32) (w : Int32) (τ1 : bz_S) (τ2 : bz_S) (τ5 : Int32 × bz_S) (fτ1 : bz_fr [32, 33, 42] σ τ1) (fτ2 : bz_fr [32, 33, 42] σ τ2) (fτ5 : bz_fr [32, 33, 42] σ τ5.2) : bz_fr [32, 33, 42] σ (f_X11_stepsBy_32_e σ b ot c w τ1 τ2 τ5).2 := by
  unfold f_X11_stepsBy_32_e
  exact fτ5
theorem rf_X11_stepsBy_32_d (σ : bz_S) (b : Int32) (ot : Int32) (c : Int32) (w : Int32) (τ1 : bz_S) (τ2 : bz_S) (τ4 : Int32 × bz_S) (fτ1 : bz_fr [32, 33, 42] σ τ1) (fτ2 : bz_fr [32, 33, 42] σ τ2) (fτ4 : bz_fr [32, 33, 42] σ τ4.2) : bz_fr [32, 33, 42] σ (f_X11_stepsBy_32_d σ b ot c w τ1 τ2 τ4).2 := by
  unfold f_X11_stepsBy_32_d
  exact fτ4
theorem rf_X11_stepsBy_32_c (σ : bz_S) (b : Int32) (ot : Int32) (c : Int32) (w : Int32) (τ1 : bz_S) (τ2 : bz_S) (τ3 : Int32 × bz_S) (fτ1 : bz_fr [32, 33, 42] σ τ1) (fτ2 : bz_fr [32, 33, 42] σ τ2) (fτ3 : bz_fr [32, 33, 42] σ τ3.2) : bz_fr [32, 33, 42] σ (f_X11_stepsBy_32_c σ b ot c w τ1 τ2 τ3).2 := by
  unfold f_X11_stepsBy_32_c
  exact fτ3
theorem rf_X11_stepsBy_32_b (σ : bz_S) (b : Int32) (ot : Int32) (c : Int32) (w : Int32) (τ1 : bz_S) (τ2 : bz_S) (fτ1 : bz_fr [32, 33, 42] σ τ1) (fτ2 : bz_fr [32, 33, 42] σ τ2) : bz_fr [32, 33, 42] σ (f_X11_stepsBy_32_b σ b ot c w τ1 τ2).2 := by
  unfold f_X11_stepsBy_32_b
  exact (bz_ite2 (bz_ite2 (rf_X11_stepsBy_32_e σ b ot c w τ1 τ2 (f_X11_back_32 τ2 (τ2.1 32 21)) fτ1 fτ2 (bz_fr_tr (τ := τ2) fτ2 (bz_fr_mo (rf_X11_back_32 τ2 (τ2.1 32 21)) (by decide)))) (rf_X11_stepsBy_32_d σ b ot c w τ1 τ2 (f_X11_back_32 τ2 (-6)) fτ1 fτ2 (bz_fr_tr (τ := τ2) fτ2 (bz_fr_mo (rf_X11_back_32 τ2 (-6)) (by decide))))) (rf_X11_stepsBy_32_c σ b ot c w τ1 τ2 (f_X11_back_32 τ2 (-6)) fτ1 fτ2 (bz_fr_tr (τ := τ2) fτ2 (bz_fr_mo (rf_X11_back_32 τ2 (-6)) (by decide)))))
theorem rf_X11_stepsBy_32_a (σ : bz_S) (b : Int32) (ot : Int32) (c : Int32) (w : Int32) (τ1 : bz_S) (fτ1 : bz_fr [32, 33, 42] σ τ1) : bz_fr [32, 33, 42] σ (f_X11_stepsBy_32_a σ b ot c w τ1).2 := by
  unfold f_X11_stepsBy_32_a
  exact (rf_X11_stepsBy_32_b σ b ot c w τ1 (f_X11_send_32 τ1 b w 9) fτ1 (bz_fr_tr (τ := τ1) fτ1 (bz_fr_mo (rf_X11_send_32 τ1 b w 9) (by decide))))
theorem rf_X11_stepsBy_32 (σ : bz_S) (b : Int32) (ot : Int32) (c : Int32) (w : Int32) : bz_fr [32, 33, 42] σ (f_X11_stepsBy_32 σ b ot c w).2 := by
  unfold f_X11_stepsBy_32
  exact (rf_X11_stepsBy_32_a σ b ot c w (f_X11_keepNow_32 σ) (bz_fr_mo (rf_X11_keepNow_32 σ) (by decide)))
theorem qf_X11_stepsBy_32_e (σ : bz_S) (b : Int32) (ot : Int32) (c : Int32) (w : Int32) (τ1 : bz_S) (τ2 : bz_S) (τ5 : Int32 × bz_S) (fτ1 : bz_fo [1, 2, 3, 14, 15, 16, 17, 18, 19, 20, 21, 22] σ τ1) (fτ2 : bz_fo [1, 2, 3, 14, 15, 16, 17, 18, 19, 20, 21, 22] σ τ2) (fτ5 : bz_fo [1, 2, 3, 14, 15, 16, 17, 18, 19, 20, 21, 22] σ τ5.2) : bz_fo [1, 2, 3, 14, 15, 16, 17, 18, 19, 20, 21, 22] σ (f_X11_stepsBy_32_e σ b ot c w τ1 τ2 τ5).2 := by
  unfold f_X11_stepsBy_32_e
  exact fτ5
theorem qf_X11_stepsBy_32_d (σ : bz_S) (b : Int32) (ot : Int32) (c : Int32) (w : Int32) (τ1 : bz_S) (τ2 : bz_S) (τ4 : Int32 × bz_S) (fτ1 : bz_fo [1, 2, 3, 14, 15, 16, 17, 18, 19, 20, 21, 22] σ τ1) (fτ2 : bz_fo [1, 2, 3, 14, 15, 16, 17, 18, 19, 20, 21, 22] σ τ2) (fτ4 : bz_fo [1, 2, 3, 14, 15, 16, 17, 18, 19, 20, 21, 22] σ τ4.2) : bz_fo [1, 2, 3, 14, 15, 16, 17, 18, 19, 20, 21, 22] σ (f_X11_stepsBy_32_d σ b ot c w τ1 τ2 τ4).2 := by
  unfold f_X11_stepsBy_32_d
  exact fτ4
theorem qf_X11_stepsBy_32_c (σ : bz_S) (b : Int32) (ot : Int32) (c : Int32) (w : Int32) (τ1 : bz_S) (τ2 : bz_S) (τ3 : Int32 × bz_S) (fτ1 : bz_fo [1, 2, 3, 14, 15, 16, 17, 18, 19, 20, 21, 22] σ τ1) (fτ2 : bz_fo [1, 2, 3, 14, 15, 16, 17, 18, 19, 20, 21, 22] σ τ2) (fτ3 : bz_fo [1, 2, 3, 14, 15, 16, 17, 18, 19, 20, 21, 22] σ τ3.2) : bz_fo [1, 2, 3, 14, 15, 16, 17, 18, 19, 20, 21, 22] σ (f_X11_stepsBy_32_c σ b ot c w τ1 τ2 τ3).2 := by
  unfold f_X11_stepsBy_32_c
  exact fτ3
theorem qf_X11_stepsBy_32_b (σ : bz_S) (b : Int32) (ot : Int32) (c : Int32) (w : Int32) (τ1 : bz_S) (τ2 : bz_S) (fτ1 : bz_fo [1, 2, 3, 14, 15, 16, 17, 18, 19, 20, 21, 22] σ τ1) (fτ2 : bz_fo [1, 2, 3, 14, 15, 16, 17, 18, 19, 20, 21, 22] σ τ2) : bz_fo [1, 2, 3, 14, 15, 16, 17, 18, 19, 20, 21, 22] σ (f_X11_stepsBy_32_b σ b ot c w τ1 τ2).2 := by
  unfold f_X11_stepsBy_32_b
  exact (bz_ite2 (bz_ite2 (qf_X11_stepsBy_32_e σ b ot c w τ1 τ2 (f_X11_back_32 τ2 (τ2.1 32 21)) fτ1 fτ2 (bz_fo_tr (τ := τ2) fτ2 (bz_fo_mo (qf_X11_back_32 τ2 (τ2.1 32 21)) (by decide)))) (qf_X11_stepsBy_32_d σ b ot c w τ1 τ2 (f_X11_back_32 τ2 (-6)) fτ1 fτ2 (bz_fo_tr (τ := τ2) fτ2 (bz_fo_mo (qf_X11_back_32 τ2 (-6)) (by decide))))) (qf_X11_stepsBy_32_c σ b ot c w τ1 τ2 (f_X11_back_32 τ2 (-6)) fτ1 fτ2 (bz_fo_tr (τ := τ2) fτ2 (bz_fo_mo (qf_X11_back_32 τ2 (-6)) (by decide)))))
theorem qf_X11_stepsBy_32_a (σ : bz_S) (b : Int32) (ot : Int32) (c : Int32) (w : Int32) (τ1 : bz_S) (fτ1 : bz_fo [1, 2, 3, 14, 15, 16, 17, 18, 19, 20, 21, 22] σ τ1) : bz_fo [1, 2, 3, 14, 15, 16, 17, 18, 19, 20, 21, 22] σ (f_X11_stepsBy_32_a σ b ot c w τ1).2 := by
  unfold f_X11_stepsBy_32_a
  exact (qf_X11_stepsBy_32_b σ b ot c w τ1 (f_X11_send_32 τ1 b w 9) fτ1 (bz_fo_tr (τ := τ1) fτ1 (bz_fo_mo (qf_X11_send_32 τ1 b w 9) (by decide))))
theorem qf_X11_stepsBy_32 (σ : bz_S) (b : Int32) (ot : Int32) (c : Int32) (w : Int32) : bz_fo [1, 2, 3, 14, 15, 16, 17, 18, 19, 20, 21, 22] σ (f_X11_stepsBy_32 σ b ot c w).2 := by
  unfold f_X11_stepsBy_32
  exact (qf_X11_stepsBy_32_a σ b ot c w (f_X11_keepNow_32 σ) (bz_fo_mo (qf_X11_keepNow_32 σ) (by decide)))

def lp_mhint_a (rc : bz_S → Int32 → Int32 → Int32 → (Int32 × bz_S)) (b : Int32) (ot : Int32) (c : Int32) (what : Int32) (σ : bz_S) (best : Int32) (by_ : Int32) (way : Int32) (τ1 : Int32 × bz_S) : Int32 × bz_S := if τ1.1 < 0 then (rc τ1.2 best by_ (way + (-1))) else (if best < 0 then (rc τ1.2 τ1.1 way (way + (-1))) else (if best < τ1.1 then (rc τ1.2 best by_ (way + (-1))) else (rc τ1.2 τ1.1 way (way + (-1)))))
def lp_mhint (b : Int32) (ot : Int32) (c : Int32) (what : Int32) : Nat → bz_S → Int32 → Int32 → Int32 → Int32 × bz_S
  | 0, σ, best, by_, way => if what = 0 then (best, σ) else (by_, σ)
  | n + 1, σ, best, by_, way => if (σ.1 33 b.toNatClampNeg) < 0 then if what = 0 then (best, σ) else (by_, σ) else (lp_mhint_a (lp_mhint b ot c what n) b ot c what σ best by_ way (f_X11_stepsBy_32 σ b ot c way))
set_option maxRecDepth 100000 in
theorem lp_mhint0_blk1 {X : bz_X} (b : Int32) (ot : Int32) (c : Int32) (what : Int32) (σ : bz_S) (best : Int32) (by_ : Int32) (way : Int32) : bz_run X bt_X11_hint 2 (59, [some (.ref 32), some (.int b), some (.int ot), some (.int c), some (.int what), some (.int best), some (.int by_), some (.int way), none, none], [], σ) = some (True, if way < 0 then (142, [some (.ref 32), some (.int b), some (.int ot), some (.int c), some (.int what), some (.int best), some (.int by_), some (.int way), none, none], [], σ) else (64, [some (.ref 32), some (.int b), some (.int ot), some (.int c), some (.int what), some (.int best), some (.int by_), some (.int way), none, none], [], σ)) := rfl
set_option maxRecDepth 100000 in
theorem lp_mhint0_blk2 {X : bz_X} (b : Int32) (ot : Int32) (c : Int32) (what : Int32) (σ : bz_S) (best : Int32) (by_ : Int32) (way : Int32) : bz_run X bt_X11_hint 2 (142, [some (.ref 32), some (.int b), some (.int ot), some (.int c), some (.int what), some (.int best), some (.int by_), some (.int way), none, none], [], σ) = some (True, if ¬ what = 0 then (152, [some (.ref 32), some (.int b), some (.int ot), some (.int c), some (.int what), some (.int best), some (.int by_), some (.int way), none, none], [], σ) else (147, [some (.ref 32), some (.int b), some (.int ot), some (.int c), some (.int what), some (.int best), some (.int by_), some (.int way), none, none], [], σ)) := rfl
set_option maxRecDepth 100000 in
theorem lp_mhint0_blk3 {X : bz_X} (b : Int32) (ot : Int32) (c : Int32) (what : Int32) (σ : bz_S) (best : Int32) (by_ : Int32) (way : Int32) : bz_run X bt_X11_hint 1 (152, [some (.ref 32), some (.int b), some (.int ot), some (.int c), some (.int what), some (.int best), some (.int by_), some (.int way), none, none], [], σ) = some (True, (154, [some (.ref 32), some (.int b), some (.int ot), some (.int c), some (.int what), some (.int best), some (.int by_), some (.int way), none, none], [.int by_], σ)) := rfl
set_option maxRecDepth 100000 in
theorem lp_mhint0_blk4 {X : bz_X} (b : Int32) (ot : Int32) (c : Int32) (what : Int32) (σ : bz_S) (best : Int32) (by_ : Int32) (way : Int32) : bz_run X bt_X11_hint 2 (147, [some (.ref 32), some (.int b), some (.int ot), some (.int c), some (.int what), some (.int best), some (.int by_), some (.int way), none, none], [], σ) = some (True, (154, [some (.ref 32), some (.int b), some (.int ot), some (.int c), some (.int what), some (.int best), some (.int by_), some (.int way), none, none], [.int best], σ)) := rfl
set_option maxRecDepth 100000 in
theorem lp_mhint_blk1 {X : bz_X} (b : Int32) (ot : Int32) (c : Int32) (what : Int32) (σ : bz_S) (best : Int32) (by_ : Int32) (way : Int32) : bz_run X bt_X11_hint 2 (59, [some (.ref 32), some (.int b), some (.int ot), some (.int c), some (.int what), some (.int best), some (.int by_), some (.int way), none, none], [], σ) = some (True, if way < 0 then (142, [some (.ref 32), some (.int b), some (.int ot), some (.int c), some (.int what), some (.int best), some (.int by_), some (.int way), none, none], [], σ) else (64, [some (.ref 32), some (.int b), some (.int ot), some (.int c), some (.int what), some (.int best), some (.int by_), some (.int way), none, none], [], σ)) := rfl
set_option maxRecDepth 100000 in
theorem lp_mhint_blk2 {X : bz_X} (b : Int32) (ot : Int32) (c : Int32) (what : Int32) (σ : bz_S) (best : Int32) (by_ : Int32) (way : Int32) : bz_run X bt_X11_hint 5 (64, [some (.ref 32), some (.int b), some (.int ot), some (.int c), some (.int what), some (.int best), some (.int by_), some (.int way), none, none], [], σ) = some (vp_in b 3 ∧ True, if (σ.1 33 b.toNatClampNeg) < 0 then (142, [some (.ref 32), some (.int b), some (.int ot), some (.int c), some (.int what), some (.int best), some (.int by_), some (.int way), none, none], [], σ) else (73, [some (.ref 32), some (.int b), some (.int ot), some (.int c), some (.int what), some (.int best), some (.int by_), some (.int way), none, none], [], σ)) := rfl
set_option maxRecDepth 100000 in
theorem lp_mhint_blk3 {X : bz_X} (b : Int32) (ot : Int32) (c : Int32) (what : Int32) (σ : bz_S) (best : Int32) (by_ : Int32) (way : Int32) : bz_run X bt_X11_hint 2 (142, [some (.ref 32), some (.int b), some (.int ot), some (.int c), some (.int what), some (.int best), some (.int by_), some (.int way), none, none], [], σ) = some (True, if ¬ what = 0 then (152, [some (.ref 32), some (.int b), some (.int ot), some (.int c), some (.int what), some (.int best), some (.int by_), some (.int way), none, none], [], σ) else (147, [some (.ref 32), some (.int b), some (.int ot), some (.int c), some (.int what), some (.int best), some (.int by_), some (.int way), none, none], [], σ)) := rfl
set_option maxRecDepth 100000 in
theorem lp_mhint_blk4 {X : bz_X} (b : Int32) (ot : Int32) (c : Int32) (what : Int32) (σ : bz_S) (best : Int32) (by_ : Int32) (way : Int32) : bz_run X bt_X11_hint 1 (152, [some (.ref 32), some (.int b), some (.int ot), some (.int c), some (.int what), some (.int best), some (.int by_), some (.int way), none, none], [], σ) = some (True, (154, [some (.ref 32), some (.int b), some (.int ot), some (.int c), some (.int what), some (.int best), some (.int by_), some (.int way), none, none], [.int by_], σ)) := rfl
set_option maxRecDepth 100000 in
theorem lp_mhint_blk5 {X : bz_X} (b : Int32) (ot : Int32) (c : Int32) (what : Int32) (σ : bz_S) (best : Int32) (by_ : Int32) (way : Int32) : bz_run X bt_X11_hint 2 (147, [some (.ref 32), some (.int b), some (.int ot), some (.int c), some (.int what), some (.int best), some (.int by_), some (.int way), none, none], [], σ) = some (True, (154, [some (.ref 32), some (.int b), some (.int ot), some (.int c), some (.int what), some (.int best), some (.int by_), some (.int way), none, none], [.int best], σ)) := rfl
set_option maxRecDepth 100000 in
theorem lp_mhint_blk6 {X : bz_X} (b : Int32) (ot : Int32) (c : Int32) (what : Int32) (σ : bz_S) (best : Int32) (by_ : Int32) (way : Int32) : bz_run X bt_X11_hint 5 (73, [some (.ref 32), some (.int b), some (.int ot), some (.int c), some (.int what), some (.int best), some (.int by_), some (.int way), none, none], [], σ) = some (True, (79, [some (.ref 32), some (.int b), some (.int ot), some (.int c), some (.int what), some (.int best), some (.int by_), some (.int way), none, none], [.int way, .int c, .int ot, .int b, .ref 32], σ)) := rfl
set_option maxRecDepth 100000 in
theorem lp_mhint_blk7 {X : bz_X} (b : Int32) (ot : Int32) (c : Int32) (what : Int32) (σ : bz_S) (best : Int32) (by_ : Int32) (way : Int32) (τ1 : Int32 × bz_S) : bz_run X bt_X11_hint 3 (82, [some (.ref 32), some (.int b), some (.int ot), some (.int c), some (.int what), some (.int best), some (.int by_), some (.int way), none, none], [.int τ1.1], τ1.2) = some (True, if τ1.1 < 0 then (105, [some (.ref 32), some (.int b), some (.int ot), some (.int c), some (.int what), some (.int best), some (.int by_), some (.int way), some (.int τ1.1), none], [], τ1.2) else (89, [some (.ref 32), some (.int b), some (.int ot), some (.int c), some (.int what), some (.int best), some (.int by_), some (.int way), some (.int τ1.1), none], [], τ1.2)) := rfl
set_option maxRecDepth 100000 in
theorem lp_mhint_blk8 {X : bz_X} (b : Int32) (ot : Int32) (c : Int32) (what : Int32) (σ : bz_S) (best : Int32) (by_ : Int32) (way : Int32) (τ1 : Int32 × bz_S) : bz_run X bt_X11_hint 4 (105, [some (.ref 32), some (.int b), some (.int ot), some (.int c), some (.int what), some (.int best), some (.int by_), some (.int way), some (.int τ1.1), none], [], τ1.2) = some (True, if (0 : Int32) = 0 then (118, [some (.ref 32), some (.int b), some (.int ot), some (.int c), some (.int what), some (.int best), some (.int by_), some (.int way), some (.int τ1.1), some (.int 0)], [], τ1.2) else (113, [some (.ref 32), some (.int b), some (.int ot), some (.int c), some (.int what), some (.int best), some (.int by_), some (.int way), some (.int τ1.1), some (.int 0)], [], τ1.2)) := rfl
set_option maxRecDepth 100000 in
theorem lp_mhint_blk9 {X : bz_X} (b : Int32) (ot : Int32) (c : Int32) (what : Int32) (σ : bz_S) (best : Int32) (by_ : Int32) (way : Int32) (τ1 : Int32 × bz_S) : bz_run X bt_X11_hint 4 (118, [some (.ref 32), some (.int b), some (.int ot), some (.int c), some (.int what), some (.int best), some (.int by_), some (.int way), some (.int τ1.1), some (.int 0)], [], τ1.2) = some (True, if (0 : Int32) = 0 then (132, [some (.ref 32), some (.int b), some (.int ot), some (.int c), some (.int what), some (.int best), some (.int by_), some (.int way), some (.int τ1.1), some (.int 0)], [], τ1.2) else (127, [some (.ref 32), some (.int b), some (.int ot), some (.int c), some (.int what), some (.int best), some (.int by_), some (.int way), some (.int τ1.1), some (.int 0)], [], τ1.2)) := rfl
set_option maxRecDepth 100000 in
theorem lp_mhint_blk10 {X : bz_X} (b : Int32) (ot : Int32) (c : Int32) (what : Int32) (σ : bz_S) (best : Int32) (by_ : Int32) (way : Int32) (τ1 : Int32 × bz_S) : bz_run X bt_X11_hint 4 (132, [some (.ref 32), some (.int b), some (.int ot), some (.int c), some (.int what), some (.int best), some (.int by_), some (.int way), some (.int τ1.1), some (.int 0)], [], τ1.2) = some (True, (59, [some (.ref 32), some (.int b), some (.int ot), some (.int c), some (.int what), some (.int best), some (.int by_), some (.int (way + (-1))), some (.int τ1.1), some (.int 0)], [], τ1.2)) := rfl
set_option maxRecDepth 100000 in
theorem lp_mhint_blk11 {X : bz_X} (b : Int32) (ot : Int32) (c : Int32) (what : Int32) (σ : bz_S) (best : Int32) (by_ : Int32) (way : Int32) (τ1 : Int32 × bz_S) : bz_run X bt_X11_hint 2 (89, [some (.ref 32), some (.int b), some (.int ot), some (.int c), some (.int what), some (.int best), some (.int by_), some (.int way), some (.int τ1.1), none], [], τ1.2) = some (True, if best < 0 then (101, [some (.ref 32), some (.int b), some (.int ot), some (.int c), some (.int what), some (.int best), some (.int by_), some (.int way), some (.int τ1.1), none], [], τ1.2) else (94, [some (.ref 32), some (.int b), some (.int ot), some (.int c), some (.int what), some (.int best), some (.int by_), some (.int way), some (.int τ1.1), none], [], τ1.2)) := rfl
set_option maxRecDepth 100000 in
theorem lp_mhint_blk12 {X : bz_X} (b : Int32) (ot : Int32) (c : Int32) (what : Int32) (σ : bz_S) (best : Int32) (by_ : Int32) (way : Int32) (τ1 : Int32 × bz_S) : bz_run X bt_X11_hint 5 (101, [some (.ref 32), some (.int b), some (.int ot), some (.int c), some (.int what), some (.int best), some (.int by_), some (.int way), some (.int τ1.1), none], [], τ1.2) = some (True, if (1 : Int32) = 0 then (118, [some (.ref 32), some (.int b), some (.int ot), some (.int c), some (.int what), some (.int best), some (.int by_), some (.int way), some (.int τ1.1), some (.int 1)], [], τ1.2) else (113, [some (.ref 32), some (.int b), some (.int ot), some (.int c), some (.int what), some (.int best), some (.int by_), some (.int way), some (.int τ1.1), some (.int 1)], [], τ1.2)) := rfl
set_option maxRecDepth 100000 in
theorem lp_mhint_blk13 {X : bz_X} (b : Int32) (ot : Int32) (c : Int32) (what : Int32) (σ : bz_S) (best : Int32) (by_ : Int32) (way : Int32) (τ1 : Int32 × bz_S) : bz_run X bt_X11_hint 5 (113, [some (.ref 32), some (.int b), some (.int ot), some (.int c), some (.int what), some (.int best), some (.int by_), some (.int way), some (.int τ1.1), some (.int 1)], [], τ1.2) = some (True, if (1 : Int32) = 0 then (132, [some (.ref 32), some (.int b), some (.int ot), some (.int c), some (.int what), some (.int best), some (.int way), some (.int way), some (.int τ1.1), some (.int 1)], [], τ1.2) else (127, [some (.ref 32), some (.int b), some (.int ot), some (.int c), some (.int what), some (.int best), some (.int way), some (.int way), some (.int τ1.1), some (.int 1)], [], τ1.2)) := rfl
set_option maxRecDepth 100000 in
theorem lp_mhint_blk14 {X : bz_X} (b : Int32) (ot : Int32) (c : Int32) (what : Int32) (σ : bz_S) (best : Int32) (by_ : Int32) (way : Int32) (τ1 : Int32 × bz_S) : bz_run X bt_X11_hint 5 (127, [some (.ref 32), some (.int b), some (.int ot), some (.int c), some (.int what), some (.int best), some (.int way), some (.int way), some (.int τ1.1), some (.int 1)], [], τ1.2) = some (True, (59, [some (.ref 32), some (.int b), some (.int ot), some (.int c), some (.int what), some (.int τ1.1), some (.int way), some (.int (way + (-1))), some (.int τ1.1), some (.int 1)], [], τ1.2)) := rfl
set_option maxRecDepth 100000 in
theorem lp_mhint_blk15 {X : bz_X} (b : Int32) (ot : Int32) (c : Int32) (what : Int32) (σ : bz_S) (best : Int32) (by_ : Int32) (way : Int32) (τ1 : Int32 × bz_S) : bz_run X bt_X11_hint 3 (94, [some (.ref 32), some (.int b), some (.int ot), some (.int c), some (.int what), some (.int best), some (.int by_), some (.int way), some (.int τ1.1), none], [], τ1.2) = some (True, if best < τ1.1 then (105, [some (.ref 32), some (.int b), some (.int ot), some (.int c), some (.int what), some (.int best), some (.int by_), some (.int way), some (.int τ1.1), none], [], τ1.2) else (101, [some (.ref 32), some (.int b), some (.int ot), some (.int c), some (.int what), some (.int best), some (.int by_), some (.int way), some (.int τ1.1), none], [], τ1.2)) := rfl
set_option maxRecDepth 100000 in
theorem lp_mhint_blk16 {X : bz_X} (b : Int32) (ot : Int32) (c : Int32) (what : Int32) (σ : bz_S) (best : Int32) (by_ : Int32) (way : Int32) (τ1 : Int32 × bz_S) : bz_run X bt_X11_hint 4 (105, [some (.ref 32), some (.int b), some (.int ot), some (.int c), some (.int what), some (.int best), some (.int by_), some (.int way), some (.int τ1.1), none], [], τ1.2) = some (True, if (0 : Int32) = 0 then (118, [some (.ref 32), some (.int b), some (.int ot), some (.int c), some (.int what), some (.int best), some (.int by_), some (.int way), some (.int τ1.1), some (.int 0)], [], τ1.2) else (113, [some (.ref 32), some (.int b), some (.int ot), some (.int c), some (.int what), some (.int best), some (.int by_), some (.int way), some (.int τ1.1), some (.int 0)], [], τ1.2)) := rfl
set_option maxRecDepth 100000 in
theorem lp_mhint_blk17 {X : bz_X} (b : Int32) (ot : Int32) (c : Int32) (what : Int32) (σ : bz_S) (best : Int32) (by_ : Int32) (way : Int32) (τ1 : Int32 × bz_S) : bz_run X bt_X11_hint 4 (118, [some (.ref 32), some (.int b), some (.int ot), some (.int c), some (.int what), some (.int best), some (.int by_), some (.int way), some (.int τ1.1), some (.int 0)], [], τ1.2) = some (True, if (0 : Int32) = 0 then (132, [some (.ref 32), some (.int b), some (.int ot), some (.int c), some (.int what), some (.int best), some (.int by_), some (.int way), some (.int τ1.1), some (.int 0)], [], τ1.2) else (127, [some (.ref 32), some (.int b), some (.int ot), some (.int c), some (.int what), some (.int best), some (.int by_), some (.int way), some (.int τ1.1), some (.int 0)], [], τ1.2)) := rfl
set_option maxRecDepth 100000 in
theorem lp_mhint_blk18 {X : bz_X} (b : Int32) (ot : Int32) (c : Int32) (what : Int32) (σ : bz_S) (best : Int32) (by_ : Int32) (way : Int32) (τ1 : Int32 × bz_S) : bz_run X bt_X11_hint 4 (132, [some (.ref 32), some (.int b), some (.int ot), some (.int c), some (.int what), some (.int best), some (.int by_), some (.int way), some (.int τ1.1), some (.int 0)], [], τ1.2) = some (True, (59, [some (.ref 32), some (.int b), some (.int ot), some (.int c), some (.int what), some (.int best), some (.int by_), some (.int (way + (-1))), some (.int τ1.1), some (.int 0)], [], τ1.2)) := rfl
set_option maxRecDepth 100000 in
theorem lp_mhint_blk19 {X : bz_X} (b : Int32) (ot : Int32) (c : Int32) (what : Int32) (σ : bz_S) (best : Int32) (by_ : Int32) (way : Int32) (τ1 : Int32 × bz_S) : bz_run X bt_X11_hint 5 (101, [some (.ref 32), some (.int b), some (.int ot), some (.int c), some (.int what), some (.int best), some (.int by_), some (.int way), some (.int τ1.1), none], [], τ1.2) = some (True, if (1 : Int32) = 0 then (118, [some (.ref 32), some (.int b), some (.int ot), some (.int c), some (.int what), some (.int best), some (.int by_), some (.int way), some (.int τ1.1), some (.int 1)], [], τ1.2) else (113, [some (.ref 32), some (.int b), some (.int ot), some (.int c), some (.int what), some (.int best), some (.int by_), some (.int way), some (.int τ1.1), some (.int 1)], [], τ1.2)) := rfl
set_option maxRecDepth 100000 in
theorem lp_mhint_blk20 {X : bz_X} (b : Int32) (ot : Int32) (c : Int32) (what : Int32) (σ : bz_S) (best : Int32) (by_ : Int32) (way : Int32) (τ1 : Int32 × bz_S) : bz_run X bt_X11_hint 5 (113, [some (.ref 32), some (.int b), some (.int ot), some (.int c), some (.int what), some (.int best), some (.int by_), some (.int way), some (.int τ1.1), some (.int 1)], [], τ1.2) = some (True, if (1 : Int32) = 0 then (132, [some (.ref 32), some (.int b), some (.int ot), some (.int c), some (.int what), some (.int best), some (.int way), some (.int way), some (.int τ1.1), some (.int 1)], [], τ1.2) else (127, [some (.ref 32), some (.int b), some (.int ot), some (.int c), some (.int what), some (.int best), some (.int way), some (.int way), some (.int τ1.1), some (.int 1)], [], τ1.2)) := rfl
set_option maxRecDepth 100000 in
theorem lp_mhint_blk21 {X : bz_X} (b : Int32) (ot : Int32) (c : Int32) (what : Int32) (σ : bz_S) (best : Int32) (by_ : Int32) (way : Int32) (τ1 : Int32 × bz_S) : bz_run X bt_X11_hint 5 (127, [some (.ref 32), some (.int b), some (.int ot), some (.int c), some (.int what), some (.int best), some (.int way), some (.int way), some (.int τ1.1), some (.int 1)], [], τ1.2) = some (True, (59, [some (.ref 32), some (.int b), some (.int ot), some (.int c), some (.int what), some (.int τ1.1), some (.int way), some (.int (way + (-1))), some (.int τ1.1), some (.int 1)], [], τ1.2)) := rfl
set_option maxRecDepth 100000 in
theorem s_lp_mhint {X : bz_X} (b : Int32) (ot : Int32) (c : Int32) (what : Int32) (hb : vp_in b 3) : ∀ (n : Nat) (σ : bz_S) (best : Int32) (by_ : Int32) (way : Int32) (hi : way + 1 = nI n) (hn : n ≤ 8), bz_wp bz_P X mX11_hint (bz_pi (lp_mhint b ot c what n σ best by_ way).1 (lp_mhint b ot c what n σ best by_ way).2) (59, [some (.ref 32), some (.int b), some (.int ot), some (.int c), some (.int what), some (.int best), some (.int by_), some (.int way), none, none], [], σ) := by
  intro n
  induction n with
  | zero =>
    intro σ best by_ way hi hn
    refine bz_wpb bT_X11_hint 2 (b1 := (142, [some (.ref 32), some (.int b), some (.int ot), some (.int c), some (.int what), some (.int best), some (.int by_), some (.int way), none, none], [], σ)) (b2 := (64, [some (.ref 32), some (.int b), some (.int ot), some (.int c), some (.int what), some (.int best), some (.int by_), some (.int way), none, none], [], σ)) (C := way < 0) (G := True) (lp_mhint0_blk1 b ot c what σ best by_ way) trivial (fun _ => ?_) (fun z => absurd (show way < 0 from by rw [show way = -1 from by have := hi; rw [show nI 0 = (-1 : Int32) + 1 from by decide] at this; exact (Int32.add_left_inj 1).mp this]; decide) z)
    refine bz_wpb bT_X11_hint 2 (b1 := (152, [some (.ref 32), some (.int b), some (.int ot), some (.int c), some (.int what), some (.int best), some (.int by_), some (.int way), none, none], [], σ)) (b2 := (147, [some (.ref 32), some (.int b), some (.int ot), some (.int c), some (.int what), some (.int best), some (.int by_), some (.int way), none, none], [], σ)) (C := ¬ what = 0) (G := True) (lp_mhint0_blk2 b ot c what σ best by_ way) trivial (fun h1 => ?_) (fun h1 => ?_)
    · skip
      refine bz_wpn bT_X11_hint 1 (b := (154, [some (.ref 32), some (.int b), some (.int ot), some (.int c), some (.int what), some (.int best), some (.int by_), some (.int way), none, none], [.int by_], σ)) (G := True) (lp_mhint0_blk3 b ot c what σ best by_ way) trivial ?_
      refine bz_wpr bT_X11_hint rfl rfl trivial ?_
      have e9 : lp_mhint b ot c what 0 σ best by_ way = (by_, σ) := by rw [lp_mhint, if_neg (h1)]
      exact ⟨by rw [e9], by rw [e9]⟩
    · skip
      refine bz_wpn bT_X11_hint 2 (b := (154, [some (.ref 32), some (.int b), some (.int ot), some (.int c), some (.int what), some (.int best), some (.int by_), some (.int way), none, none], [.int best], σ)) (G := True) (lp_mhint0_blk4 b ot c what σ best by_ way) trivial ?_
      refine bz_wpr bT_X11_hint rfl rfl trivial ?_
      have e9 : lp_mhint b ot c what 0 σ best by_ way = (best, σ) := by rw [lp_mhint, if_pos ((Decidable.not_not.mp h1))]
      exact ⟨by rw [e9], by rw [e9]⟩
  | succ n ih =>
    intro σ best by_ way hi hn
    refine bz_wpb bT_X11_hint 2 (b1 := (142, [some (.ref 32), some (.int b), some (.int ot), some (.int c), some (.int what), some (.int best), some (.int by_), some (.int way), none, none], [], σ)) (b2 := (64, [some (.ref 32), some (.int b), some (.int ot), some (.int c), some (.int what), some (.int best), some (.int by_), some (.int way), none, none], [], σ)) (C := way < 0) (G := True) (lp_mhint_blk1 b ot c what σ best by_ way) trivial (fun z => absurd z (show ¬ way < 0 from by rw [bz_dn hi]; exact nI_pos (by omega))) (fun _ => ?_)
    refine bz_wpb bT_X11_hint 5 (b1 := (142, [some (.ref 32), some (.int b), some (.int ot), some (.int c), some (.int what), some (.int best), some (.int by_), some (.int way), none, none], [], σ)) (b2 := (73, [some (.ref 32), some (.int b), some (.int ot), some (.int c), some (.int what), some (.int best), some (.int by_), some (.int way), none, none], [], σ)) (C := (σ.1 33 b.toNatClampNeg) < 0) (G := vp_in b 3 ∧ True) (lp_mhint_blk2 b ot c what σ best by_ way) ⟨hb, trivial⟩ (fun h1 => ?_) (fun h1 => ?_)
    · skip
      refine bz_wpb bT_X11_hint 2 (b1 := (152, [some (.ref 32), some (.int b), some (.int ot), some (.int c), some (.int what), some (.int best), some (.int by_), some (.int way), none, none], [], σ)) (b2 := (147, [some (.ref 32), some (.int b), some (.int ot), some (.int c), some (.int what), some (.int best), some (.int by_), some (.int way), none, none], [], σ)) (C := ¬ what = 0) (G := True) (lp_mhint_blk3 b ot c what σ best by_ way) trivial (fun h2 => ?_) (fun h2 => ?_)
      · skip
        refine bz_wpn bT_X11_hint 1 (b := (154, [some (.ref 32), some (.int b), some (.int ot), some (.int c), some (.int what), some (.int best), some (.int by_), some (.int way), none, none], [.int by_], σ)) (G := True) (lp_mhint_blk4 b ot c what σ best by_ way) trivial ?_
        refine bz_wpr bT_X11_hint rfl rfl trivial ?_
        have e9 : lp_mhint b ot c what (n + 1) σ best by_ way = (by_, σ) := by rw [lp_mhint, if_pos (h1), if_neg (h2)]
        exact ⟨by rw [e9], by rw [e9]⟩
      · skip
        refine bz_wpn bT_X11_hint 2 (b := (154, [some (.ref 32), some (.int b), some (.int ot), some (.int c), some (.int what), some (.int best), some (.int by_), some (.int way), none, none], [.int best], σ)) (G := True) (lp_mhint_blk5 b ot c what σ best by_ way) trivial ?_
        refine bz_wpr bT_X11_hint rfl rfl trivial ?_
        have e9 : lp_mhint b ot c what (n + 1) σ best by_ way = (best, σ) := by rw [lp_mhint, if_pos (h1), if_pos ((Decidable.not_not.mp h2))]
        exact ⟨by rw [e9], by rw [e9]⟩
    · skip
      refine bz_wpn bT_X11_hint 5 (b := (79, [some (.ref 32), some (.int b), some (.int ot), some (.int c), some (.int what), some (.int best), some (.int by_), some (.int way), none, none], [.int way, .int c, .int ot, .int b, .ref 32], σ)) (G := True) (lp_mhint_blk6 b ot c what σ best by_ way) trivial ?_
      refine bz_wci bT_X11_hint [.ref 32, .int b, .int ot, .int c, .int way] (pc' := 82) (rest := []) rfl rfl (Nat.le_of_ble_eq_true rfl) rfl (Nat.le_of_ble_eq_true rfl) rfl (s_X11_stepsBy_32 σ b ot c way hb) rfl ?_
      generalize hτ1 : f_X11_stepsBy_32 σ b ot c way = τ1
      refine bz_wpb bT_X11_hint 3 (b1 := (105, [some (.ref 32), some (.int b), some (.int ot), some (.int c), some (.int what), some (.int best), some (.int by_), some (.int way), some (.int τ1.1), none], [], τ1.2)) (b2 := (89, [some (.ref 32), some (.int b), some (.int ot), some (.int c), some (.int what), some (.int best), some (.int by_), some (.int way), some (.int τ1.1), none], [], τ1.2)) (C := τ1.1 < 0) (G := True) (lp_mhint_blk7 b ot c what σ best by_ way τ1) trivial (fun h3 => ?_) (fun h3 => ?_)
      · skip
        refine bz_wpb bT_X11_hint 4 (b1 := (118, [some (.ref 32), some (.int b), some (.int ot), some (.int c), some (.int what), some (.int best), some (.int by_), some (.int way), some (.int τ1.1), some (.int 0)], [], τ1.2)) (b2 := (113, [some (.ref 32), some (.int b), some (.int ot), some (.int c), some (.int what), some (.int best), some (.int by_), some (.int way), some (.int τ1.1), some (.int 0)], [], τ1.2)) (C := (0 : Int32) = 0) (G := True) (lp_mhint_blk8 b ot c what σ best by_ way τ1) trivial (fun _ => ?_) (fun z => absurd (by decide) z)
        refine bz_wpb bT_X11_hint 4 (b1 := (132, [some (.ref 32), some (.int b), some (.int ot), some (.int c), some (.int what), some (.int best), some (.int by_), some (.int way), some (.int τ1.1), some (.int 0)], [], τ1.2)) (b2 := (127, [some (.ref 32), some (.int b), some (.int ot), some (.int c), some (.int what), some (.int best), some (.int by_), some (.int way), some (.int τ1.1), some (.int 0)], [], τ1.2)) (C := (0 : Int32) = 0) (G := True) (lp_mhint_blk9 b ot c what σ best by_ way τ1) trivial (fun _ => ?_) (fun z => absurd (by decide) z)
        refine bz_wpn bT_X11_hint 4 (b := (59, [some (.ref 32), some (.int b), some (.int ot), some (.int c), some (.int what), some (.int best), some (.int by_), some (.int (way + (-1))), some (.int τ1.1), some (.int 0)], [], τ1.2)) (G := True) (lp_mhint_blk10 b ot c what σ best by_ way τ1) trivial ?_
        have e9 : lp_mhint b ot c what (n + 1) σ best by_ way = (lp_mhint b ot c what n τ1.2 best by_ (way + (-1))) := by rw [lp_mhint, if_neg (h1), hτ1, lp_mhint_a, if_pos (h3)]
        rw [e9]
        refine bz_wpw (L' := [some (.ref 32), some (.int b), some (.int ot), some (.int c), some (.int what), some (.int best), some (.int by_), some (.int (way + (-1))), none, none]) (by exact ⟨rfl, rfl, rfl, rfl, rfl, rfl, rfl, rfl, trivial⟩) ?_
        exact ih τ1.2 best by_ (way + (-1)) (bz_dn' hi) (by omega)
      · skip
        refine bz_wpb bT_X11_hint 2 (b1 := (101, [some (.ref 32), some (.int b), some (.int ot), some (.int c), some (.int what), some (.int best), some (.int by_), some (.int way), some (.int τ1.1), none], [], τ1.2)) (b2 := (94, [some (.ref 32), some (.int b), some (.int ot), some (.int c), some (.int what), some (.int best), some (.int by_), some (.int way), some (.int τ1.1), none], [], τ1.2)) (C := best < 0) (G := True) (lp_mhint_blk11 b ot c what σ best by_ way τ1) trivial (fun h4 => ?_) (fun h4 => ?_)
        · skip
          refine bz_wpb bT_X11_hint 5 (b1 := (118, [some (.ref 32), some (.int b), some (.int ot), some (.int c), some (.int what), some (.int best), some (.int by_), some (.int way), some (.int τ1.1), some (.int 1)], [], τ1.2)) (b2 := (113, [some (.ref 32), some (.int b), some (.int ot), some (.int c), some (.int what), some (.int best), some (.int by_), some (.int way), some (.int τ1.1), some (.int 1)], [], τ1.2)) (C := (1 : Int32) = 0) (G := True) (lp_mhint_blk12 b ot c what σ best by_ way τ1) trivial (fun z => absurd z (by decide)) (fun _ => ?_)
          refine bz_wpb bT_X11_hint 5 (b1 := (132, [some (.ref 32), some (.int b), some (.int ot), some (.int c), some (.int what), some (.int best), some (.int way), some (.int way), some (.int τ1.1), some (.int 1)], [], τ1.2)) (b2 := (127, [some (.ref 32), some (.int b), some (.int ot), some (.int c), some (.int what), some (.int best), some (.int way), some (.int way), some (.int τ1.1), some (.int 1)], [], τ1.2)) (C := (1 : Int32) = 0) (G := True) (lp_mhint_blk13 b ot c what σ best by_ way τ1) trivial (fun z => absurd z (by decide)) (fun _ => ?_)
          refine bz_wpn bT_X11_hint 5 (b := (59, [some (.ref 32), some (.int b), some (.int ot), some (.int c), some (.int what), some (.int τ1.1), some (.int way), some (.int (way + (-1))), some (.int τ1.1), some (.int 1)], [], τ1.2)) (G := True) (lp_mhint_blk14 b ot c what σ best by_ way τ1) trivial ?_
          have e9 : lp_mhint b ot c what (n + 1) σ best by_ way = (lp_mhint b ot c what n τ1.2 τ1.1 way (way + (-1))) := by rw [lp_mhint, if_neg (h1), hτ1, lp_mhint_a, if_neg (h3), if_pos (h4)]
          rw [e9]
          refine bz_wpw (L' := [some (.ref 32), some (.int b), some (.int ot), some (.int c), some (.int what), some (.int τ1.1), some (.int way), some (.int (way + (-1))), none, none]) (by exact ⟨rfl, rfl, rfl, rfl, rfl, rfl, rfl, rfl, trivial⟩) ?_
          exact ih τ1.2 τ1.1 way (way + (-1)) (bz_dn' hi) (by omega)
        · skip
          refine bz_wpb bT_X11_hint 3 (b1 := (105, [some (.ref 32), some (.int b), some (.int ot), some (.int c), some (.int what), some (.int best), some (.int by_), some (.int way), some (.int τ1.1), none], [], τ1.2)) (b2 := (101, [some (.ref 32), some (.int b), some (.int ot), some (.int c), some (.int what), some (.int best), some (.int by_), some (.int way), some (.int τ1.1), none], [], τ1.2)) (C := best < τ1.1) (G := True) (lp_mhint_blk15 b ot c what σ best by_ way τ1) trivial (fun h5 => ?_) (fun h5 => ?_)
          · skip
            refine bz_wpb bT_X11_hint 4 (b1 := (118, [some (.ref 32), some (.int b), some (.int ot), some (.int c), some (.int what), some (.int best), some (.int by_), some (.int way), some (.int τ1.1), some (.int 0)], [], τ1.2)) (b2 := (113, [some (.ref 32), some (.int b), some (.int ot), some (.int c), some (.int what), some (.int best), some (.int by_), some (.int way), some (.int τ1.1), some (.int 0)], [], τ1.2)) (C := (0 : Int32) = 0) (G := True) (lp_mhint_blk16 b ot c what σ best by_ way τ1) trivial (fun _ => ?_) (fun z => absurd (by decide) z)
            refine bz_wpb bT_X11_hint 4 (b1 := (132, [some (.ref 32), some (.int b), some (.int ot), some (.int c), some (.int what), some (.int best), some (.int by_), some (.int way), some (.int τ1.1), some (.int 0)], [], τ1.2)) (b2 := (127, [some (.ref 32), some (.int b), some (.int ot), some (.int c), some (.int what), some (.int best), some (.int by_), some (.int way), some (.int τ1.1), some (.int 0)], [], τ1.2)) (C := (0 : Int32) = 0) (G := True) (lp_mhint_blk17 b ot c what σ best by_ way τ1) trivial (fun _ => ?_) (fun z => absurd (by decide) z)
            refine bz_wpn bT_X11_hint 4 (b := (59, [some (.ref 32), some (.int b), some (.int ot), some (.int c), some (.int what), some (.int best), some (.int by_), some (.int (way + (-1))), some (.int τ1.1), some (.int 0)], [], τ1.2)) (G := True) (lp_mhint_blk18 b ot c what σ best by_ way τ1) trivial ?_
            have e9 : lp_mhint b ot c what (n + 1) σ best by_ way = (lp_mhint b ot c what n τ1.2 best by_ (way + (-1))) := by rw [lp_mhint, if_neg (h1), hτ1, lp_mhint_a, if_neg (h3), if_neg (h4), if_pos (h5)]
            rw [e9]
            refine bz_wpw (L' := [some (.ref 32), some (.int b), some (.int ot), some (.int c), some (.int what), some (.int best), some (.int by_), some (.int (way + (-1))), none, none]) (by exact ⟨rfl, rfl, rfl, rfl, rfl, rfl, rfl, rfl, trivial⟩) ?_
            exact ih τ1.2 best by_ (way + (-1)) (bz_dn' hi) (by omega)
          · skip
            refine bz_wpb bT_X11_hint 5 (b1 := (118, [some (.ref 32), some (.int b), some (.int ot), some (.int c), some (.int what), some (.int best), some (.int by_), some (.int way), some (.int τ1.1), some (.int 1)], [], τ1.2)) (b2 := (113, [some (.ref 32), some (.int b), some (.int ot), some (.int c), some (.int what), some (.int best), some (.int by_), some (.int way), some (.int τ1.1), some (.int 1)], [], τ1.2)) (C := (1 : Int32) = 0) (G := True) (lp_mhint_blk19 b ot c what σ best by_ way τ1) trivial (fun z => absurd z (by decide)) (fun _ => ?_)
            refine bz_wpb bT_X11_hint 5 (b1 := (132, [some (.ref 32), some (.int b), some (.int ot), some (.int c), some (.int what), some (.int best), some (.int way), some (.int way), some (.int τ1.1), some (.int 1)], [], τ1.2)) (b2 := (127, [some (.ref 32), some (.int b), some (.int ot), some (.int c), some (.int what), some (.int best), some (.int way), some (.int way), some (.int τ1.1), some (.int 1)], [], τ1.2)) (C := (1 : Int32) = 0) (G := True) (lp_mhint_blk20 b ot c what σ best by_ way τ1) trivial (fun z => absurd z (by decide)) (fun _ => ?_)
            refine bz_wpn bT_X11_hint 5 (b := (59, [some (.ref 32), some (.int b), some (.int ot), some (.int c), some (.int what), some (.int τ1.1), some (.int way), some (.int (way + (-1))), some (.int τ1.1), some (.int 1)], [], τ1.2)) (G := True) (lp_mhint_blk21 b ot c what σ best by_ way τ1) trivial ?_
            have e9 : lp_mhint b ot c what (n + 1) σ best by_ way = (lp_mhint b ot c what n τ1.2 τ1.1 way (way + (-1))) := by rw [lp_mhint, if_neg (h1), hτ1, lp_mhint_a, if_neg (h3), if_neg (h4), if_neg (h5)]
            rw [e9]
            refine bz_wpw (L' := [some (.ref 32), some (.int b), some (.int ot), some (.int c), some (.int what), some (.int τ1.1), some (.int way), some (.int (way + (-1))), none, none]) (by exact ⟨rfl, rfl, rfl, rfl, rfl, rfl, rfl, rfl, trivial⟩) ?_
            exact ih τ1.2 τ1.1 way (way + (-1)) (bz_dn' hi) (by omega)
theorem rlp_mhint_a (rc : bz_S → Int32 → Int32 → Int32 → (Int32 × bz_S)) (b : Int32) (ot : Int32) (c : Int32) (what : Int32) (σ : bz_S) (best : Int32) (by_ : Int32) (way : Int32) (τ1 : Int32 × bz_S) (ihc : ∀ (σ : bz_S) (best : Int32) (by_ : Int32) (way : Int32), bz_fr [32, 33, 42] σ (rc σ best by_ way).2) (fτ1 : bz_fr [32, 33, 42] σ τ1.2) : bz_fr [32, 33, 42] σ (lp_mhint_a rc b ot c what σ best by_ way τ1).2 := by
  unfold lp_mhint_a
  exact (bz_ite2 (bz_fr_tr (τ := τ1.2) fτ1 (ihc τ1.2 best by_ (way + (-1)))) (bz_ite2 (bz_fr_tr (τ := τ1.2) fτ1 (ihc τ1.2 τ1.1 way (way + (-1)))) (bz_ite2 (bz_fr_tr (τ := τ1.2) fτ1 (ihc τ1.2 best by_ (way + (-1)))) (bz_fr_tr (τ := τ1.2) fτ1 (ihc τ1.2 τ1.1 way (way + (-1)))))))
theorem rlp_mhint (b : Int32) (ot : Int32) (c : Int32) (what : Int32) : ∀ (n : Nat) (σ : bz_S) (best : Int32) (by_ : Int32) (way : Int32), bz_fr [32, 33, 42] σ (lp_mhint b ot c what n σ best by_ way).2 := by
  intro n
  induction n with
  | zero =>
    intro σ best by_ way
    rw [lp_mhint]
    exact (bz_ite2 bz_fr_rf bz_fr_rf)
  | succ n ihc =>
    intro σ best by_ way
    rw [lp_mhint]
    exact (bz_ite2 (bz_ite2 bz_fr_rf bz_fr_rf) (rlp_mhint_a (lp_mhint b ot c what n) b ot c what σ best by_ way (f_X11_stepsBy_32 σ b ot c way) ihc (bz_fr_mo (rf_X11_stepsBy_32 σ b ot c way) (by decide))))
theorem qlp_mhint_a (rc : bz_S → Int32 → Int32 → Int32 → (Int32 × bz_S)) (b : Int32) (ot : Int32) (c : Int32) (what : Int32) (σ : bz_S) (best : Int32) (by_ : Int32) (way : Int32) (τ1 : Int32 × bz_S) (ihc : ∀ (σ : bz_S) (best : Int32) (by_ : Int32) (way : Int32), bz_fo [1, 2, 3, 14, 15, 16, 17, 18, 19, 20, 21, 22] σ (rc σ best by_ way).2) (fτ1 : bz_fo [1, 2, 3, 14, 15, 16, 17, 18, 19, 20, 21, 22] σ τ1.2) : bz_fo [1, 2, 3, 14, 15, 16, 17, 18, 19, 20, 21, 22] σ (lp_mhint_a rc b ot c what σ best by_ way τ1).2 := by
  unfold lp_mhint_a
  exact (bz_ite2 (bz_fo_tr (τ := τ1.2) fτ1 (ihc τ1.2 best by_ (way + (-1)))) (bz_ite2 (bz_fo_tr (τ := τ1.2) fτ1 (ihc τ1.2 τ1.1 way (way + (-1)))) (bz_ite2 (bz_fo_tr (τ := τ1.2) fτ1 (ihc τ1.2 best by_ (way + (-1)))) (bz_fo_tr (τ := τ1.2) fτ1 (ihc τ1.2 τ1.1 way (way + (-1)))))))
theorem qlp_mhint (b : Int32) (ot : Int32) (c : Int32) (what : Int32) : ∀ (n : Nat) (σ : bz_S) (best : Int32) (by_ : Int32) (way : Int32), bz_fo [1, 2, 3, 14, 15, 16, 17, 18, 19, 20, 21, 22] σ (lp_mhint b ot c what n σ best by_ way).2 := by
  intro n
  induction n with
  | zero =>
    intro σ best by_ way
    rw [lp_mhint]
    exact (bz_ite2 bz_fo_rf bz_fo_rf)
  | succ n ihc =>
    intro σ best by_ way
    rw [lp_mhint]
    exact (bz_ite2 (bz_ite2 bz_fo_rf bz_fo_rf) (qlp_mhint_a (lp_mhint b ot c what n) b ot c what σ best by_ way (f_X11_stepsBy_32 σ b ot c way) ihc (bz_fo_mo (qf_X11_stepsBy_32 σ b ot c way) (by decide))))

def f_X11_hint_32 (σ : bz_S) (b : Int32) (ot : Int32) (c : Int32) (what : Int32) : Int32 × bz_S := if f_X11_isBall b = true then if f_X11_isBall ot = true then if b = ot then ((-1), σ) else (if f_X11_in (Int32.toInt64 c) 0 4 = true then if f_X11_in (Int32.toInt64 what) 0 1 = true then lp_mhint b ot c what (bz_k 8) σ (-6) (-6) 7 else ((-2), σ) else ((-2), σ)) else ((-1), σ) else ((-1), σ)
set_option maxRecDepth 100000 in
theorem f_X11_hint_32_blk1 {X : bz_X} (σ : bz_S) (b : Int32) (ot : Int32) (c : Int32) (what : Int32) : bz_run X bt_X11_hint 1 (0, [some (.ref 32), some (.int b), some (.int ot), some (.int c), some (.int what), none, none, none, none, none], [], σ) = some (True, (1, [some (.ref 32), some (.int b), some (.int ot), some (.int c), some (.int what), none, none, none, none, none], [.int b], σ)) := rfl
set_option maxRecDepth 100000 in
theorem f_X11_hint_32_blk2 {X : bz_X} (σ : bz_S) (b : Int32) (ot : Int32) (c : Int32) (what : Int32) : bz_run X bt_X11_hint 1 (4, [some (.ref 32), some (.int b), some (.int ot), some (.int c), some (.int what), none, none, none, none, none], [.int (bz_b (f_X11_isBall b))], σ) = some (True, if bz_b (f_X11_isBall b) = 0 then (19, [some (.ref 32), some (.int b), some (.int ot), some (.int c), some (.int what), none, none, none, none, none], [], σ) else (7, [some (.ref 32), some (.int b), some (.int ot), some (.int c), some (.int what), none, none, none, none, none], [], σ)) := rfl
set_option maxRecDepth 100000 in
theorem f_X11_hint_32_blk3 {X : bz_X} (σ : bz_S) (b : Int32) (ot : Int32) (c : Int32) (what : Int32) : bz_run X bt_X11_hint 1 (19, [some (.ref 32), some (.int b), some (.int ot), some (.int c), some (.int what), none, none, none, none, none], [], σ) = some (True, (20, [some (.ref 32), some (.int b), some (.int ot), some (.int c), some (.int what), none, none, none, none, none], [.int (-1)], σ)) := rfl
set_option maxRecDepth 100000 in
theorem f_X11_hint_32_blk4 {X : bz_X} (σ : bz_S) (b : Int32) (ot : Int32) (c : Int32) (what : Int32) : bz_run X bt_X11_hint 1 (7, [some (.ref 32), some (.int b), some (.int ot), some (.int c), some (.int what), none, none, none, none, none], [], σ) = some (True, (8, [some (.ref 32), some (.int b), some (.int ot), some (.int c), some (.int what), none, none, none, none, none], [.int ot], σ)) := rfl
set_option maxRecDepth 100000 in
theorem f_X11_hint_32_blk5 {X : bz_X} (σ : bz_S) (b : Int32) (ot : Int32) (c : Int32) (what : Int32) : bz_run X bt_X11_hint 1 (11, [some (.ref 32), some (.int b), some (.int ot), some (.int c), some (.int what), none, none, none, none, none], [.int (bz_b (f_X11_isBall ot))], σ) = some (True, if bz_b (f_X11_isBall ot) = 0 then (19, [some (.ref 32), some (.int b), some (.int ot), some (.int c), some (.int what), none, none, none, none, none], [], σ) else (14, [some (.ref 32), some (.int b), some (.int ot), some (.int c), some (.int what), none, none, none, none, none], [], σ)) := rfl
set_option maxRecDepth 100000 in
theorem f_X11_hint_32_blk6 {X : bz_X} (σ : bz_S) (b : Int32) (ot : Int32) (c : Int32) (what : Int32) : bz_run X bt_X11_hint 1 (19, [some (.ref 32), some (.int b), some (.int ot), some (.int c), some (.int what), none, none, none, none, none], [], σ) = some (True, (20, [some (.ref 32), some (.int b), some (.int ot), some (.int c), some (.int what), none, none, none, none, none], [.int (-1)], σ)) := rfl
set_option maxRecDepth 100000 in
theorem f_X11_hint_32_blk7 {X : bz_X} (σ : bz_S) (b : Int32) (ot : Int32) (c : Int32) (what : Int32) : bz_run X bt_X11_hint 3 (14, [some (.ref 32), some (.int b), some (.int ot), some (.int c), some (.int what), none, none, none, none, none], [], σ) = some (True, if ¬ b = ot then (21, [some (.ref 32), some (.int b), some (.int ot), some (.int c), some (.int what), none, none, none, none, none], [], σ) else (19, [some (.ref 32), some (.int b), some (.int ot), some (.int c), some (.int what), none, none, none, none, none], [], σ)) := rfl
set_option maxRecDepth 100000 in
theorem f_X11_hint_32_blk8 {X : bz_X} (σ : bz_S) (b : Int32) (ot : Int32) (c : Int32) (what : Int32) : bz_run X bt_X11_hint 4 (21, [some (.ref 32), some (.int b), some (.int ot), some (.int c), some (.int what), none, none, none, none, none], [], σ) = some (True, (27, [some (.ref 32), some (.int b), some (.int ot), some (.int c), some (.int what), none, none, none, none, none], [.long 4, .long 0, .long (Int32.toInt64 c)], σ)) := rfl
set_option maxRecDepth 100000 in
theorem f_X11_hint_32_blk9 {X : bz_X} (σ : bz_S) (b : Int32) (ot : Int32) (c : Int32) (what : Int32) : bz_run X bt_X11_hint 1 (30, [some (.ref 32), some (.int b), some (.int ot), some (.int c), some (.int what), none, none, none, none, none], [.int (bz_b (f_X11_in (Int32.toInt64 c) 0 4))], σ) = some (True, if bz_b (f_X11_in (Int32.toInt64 c) 0 4) = 0 then (44, [some (.ref 32), some (.int b), some (.int ot), some (.int c), some (.int what), none, none, none, none, none], [], σ) else (33, [some (.ref 32), some (.int b), some (.int ot), some (.int c), some (.int what), none, none, none, none, none], [], σ)) := rfl
set_option maxRecDepth 100000 in
theorem f_X11_hint_32_blk10 {X : bz_X} (σ : bz_S) (b : Int32) (ot : Int32) (c : Int32) (what : Int32) : bz_run X bt_X11_hint 1 (44, [some (.ref 32), some (.int b), some (.int ot), some (.int c), some (.int what), none, none, none, none, none], [], σ) = some (True, (46, [some (.ref 32), some (.int b), some (.int ot), some (.int c), some (.int what), none, none, none, none, none], [.int (-2)], σ)) := rfl
set_option maxRecDepth 100000 in
theorem f_X11_hint_32_blk11 {X : bz_X} (σ : bz_S) (b : Int32) (ot : Int32) (c : Int32) (what : Int32) : bz_run X bt_X11_hint 4 (33, [some (.ref 32), some (.int b), some (.int ot), some (.int c), some (.int what), none, none, none, none, none], [], σ) = some (True, (38, [some (.ref 32), some (.int b), some (.int ot), some (.int c), some (.int what), none, none, none, none, none], [.long 1, .long 0, .long (Int32.toInt64 what)], σ)) := rfl
set_option maxRecDepth 100000 in
theorem f_X11_hint_32_blk12 {X : bz_X} (σ : bz_S) (b : Int32) (ot : Int32) (c : Int32) (what : Int32) : bz_run X bt_X11_hint 1 (41, [some (.ref 32), some (.int b), some (.int ot), some (.int c), some (.int what), none, none, none, none, none], [.int (bz_b (f_X11_in (Int32.toInt64 what) 0 1))], σ) = some (True, if ¬ bz_b (f_X11_in (Int32.toInt64 what) 0 1) = 0 then (47, [some (.ref 32), some (.int b), some (.int ot), some (.int c), some (.int what), none, none, none, none, none], [], σ) else (44, [some (.ref 32), some (.int b), some (.int ot), some (.int c), some (.int what), none, none, none, none, none], [], σ)) := rfl
set_option maxRecDepth 100000 in
theorem f_X11_hint_32_blk13 {X : bz_X} (σ : bz_S) (b : Int32) (ot : Int32) (c : Int32) (what : Int32) : bz_run X bt_X11_hint 6 (47, [some (.ref 32), some (.int b), some (.int ot), some (.int c), some (.int what), none, none, none, none, none], [], σ) = some (True, (59, [some (.ref 32), some (.int b), some (.int ot), some (.int c), some (.int what), some (.int (-6)), some (.int (-6)), some (.int 7), none, none], [], σ)) := rfl
set_option maxRecDepth 100000 in
theorem f_X11_hint_32_blk14 {X : bz_X} (σ : bz_S) (b : Int32) (ot : Int32) (c : Int32) (what : Int32) : bz_run X bt_X11_hint 1 (44, [some (.ref 32), some (.int b), some (.int ot), some (.int c), some (.int what), none, none, none, none, none], [], σ) = some (True, (46, [some (.ref 32), some (.int b), some (.int ot), some (.int c), some (.int what), none, none, none, none, none], [.int (-2)], σ)) := rfl
set_option maxRecDepth 100000 in
theorem f_X11_hint_32_blk15 {X : bz_X} (σ : bz_S) (b : Int32) (ot : Int32) (c : Int32) (what : Int32) : bz_run X bt_X11_hint 1 (19, [some (.ref 32), some (.int b), some (.int ot), some (.int c), some (.int what), none, none, none, none, none], [], σ) = some (True, (20, [some (.ref 32), some (.int b), some (.int ot), some (.int c), some (.int what), none, none, none, none, none], [.int (-1)], σ)) := rfl
set_option maxRecDepth 100000 in
theorem s_X11_hint_32 {X : bz_X} (σ : bz_S) (b : Int32) (ot : Int32) (c : Int32) (what : Int32) : bz_C bz_P X mX11_hint [.ref 32, .int b, .int ot, .int c, .int what] σ (bz_pi (f_X11_hint_32 σ b ot c what).1 (f_X11_hint_32 σ b ot c what).2) := by
  show bz_wp bz_P X mX11_hint (bz_pi (f_X11_hint_32 σ b ot c what).1 (f_X11_hint_32 σ b ot c what).2) (0, [some (.ref 32), some (.int b), some (.int ot), some (.int c), some (.int what), none, none, none, none, none], [], σ)
  refine bz_wpn bT_X11_hint 1 (b := (1, [some (.ref 32), some (.int b), some (.int ot), some (.int c), some (.int what), none, none, none, none, none], [.int b], σ)) (G := True) (f_X11_hint_32_blk1 σ b ot c what) trivial ?_
  refine bz_wci bT_X11_hint [.int b] (pc' := 4) (rest := []) rfl rfl (Nat.le_of_ble_eq_true rfl) rfl (Nat.le_of_ble_eq_true rfl) rfl (s_X11_isBall σ b) rfl ?_
  refine bz_wpb bT_X11_hint 1 (b1 := (19, [some (.ref 32), some (.int b), some (.int ot), some (.int c), some (.int what), none, none, none, none, none], [], σ)) (b2 := (7, [some (.ref 32), some (.int b), some (.int ot), some (.int c), some (.int what), none, none, none, none, none], [], σ)) (C := bz_b (f_X11_isBall b) = 0) (G := True) (f_X11_hint_32_blk2 σ b ot c what) trivial (fun h1 => ?_) (fun h1 => ?_)
  · skip
    have h1 := bz_b0 h1
    refine bz_wpn bT_X11_hint 1 (b := (20, [some (.ref 32), some (.int b), some (.int ot), some (.int c), some (.int what), none, none, none, none, none], [.int (-1)], σ)) (G := True) (f_X11_hint_32_blk3 σ b ot c what) trivial ?_
    refine bz_wpr bT_X11_hint rfl rfl trivial ?_
    have e9 : f_X11_hint_32 σ b ot c what = ((-1), σ) := by rw [f_X11_hint_32, if_neg (bz_ff h1)]
    exact ⟨by rw [e9], by rw [e9]⟩
  · skip
    have h1 := bz_b1 h1
    refine bz_wpn bT_X11_hint 1 (b := (8, [some (.ref 32), some (.int b), some (.int ot), some (.int c), some (.int what), none, none, none, none, none], [.int ot], σ)) (G := True) (f_X11_hint_32_blk4 σ b ot c what) trivial ?_
    refine bz_wci bT_X11_hint [.int ot] (pc' := 11) (rest := []) rfl rfl (Nat.le_of_ble_eq_true rfl) rfl (Nat.le_of_ble_eq_true rfl) rfl (s_X11_isBall σ ot) rfl ?_
    refine bz_wpb bT_X11_hint 1 (b1 := (19, [some (.ref 32), some (.int b), some (.int ot), some (.int c), some (.int what), none, none, none, none, none], [], σ)) (b2 := (14, [some (.ref 32), some (.int b), some (.int ot), some (.int c), some (.int what), none, none, none, none, none], [], σ)) (C := bz_b (f_X11_isBall ot) = 0) (G := True) (f_X11_hint_32_blk5 σ b ot c what) trivial (fun h2 => ?_) (fun h2 => ?_)
    · skip
      have h2 := bz_b0 h2
      refine bz_wpn bT_X11_hint 1 (b := (20, [some (.ref 32), some (.int b), some (.int ot), some (.int c), some (.int what), none, none, none, none, none], [.int (-1)], σ)) (G := True) (f_X11_hint_32_blk6 σ b ot c what) trivial ?_
      refine bz_wpr bT_X11_hint rfl rfl trivial ?_
      have e9 : f_X11_hint_32 σ b ot c what = ((-1), σ) := by rw [f_X11_hint_32, if_pos (h1), if_neg (bz_ff h2)]
      exact ⟨by rw [e9], by rw [e9]⟩
    · skip
      have h2 := bz_b1 h2
      refine bz_wpb bT_X11_hint 3 (b1 := (21, [some (.ref 32), some (.int b), some (.int ot), some (.int c), some (.int what), none, none, none, none, none], [], σ)) (b2 := (19, [some (.ref 32), some (.int b), some (.int ot), some (.int c), some (.int what), none, none, none, none, none], [], σ)) (C := ¬ b = ot) (G := True) (f_X11_hint_32_blk7 σ b ot c what) trivial (fun h3 => ?_) (fun h3 => ?_)
      · skip
        refine bz_wpn bT_X11_hint 4 (b := (27, [some (.ref 32), some (.int b), some (.int ot), some (.int c), some (.int what), none, none, none, none, none], [.long 4, .long 0, .long (Int32.toInt64 c)], σ)) (G := True) (f_X11_hint_32_blk8 σ b ot c what) trivial ?_
        refine bz_wci bT_X11_hint [.long (Int32.toInt64 c), .long 0, .long 4] (pc' := 30) (rest := []) rfl rfl (Nat.le_of_ble_eq_true rfl) rfl (Nat.le_of_ble_eq_true rfl) rfl (s_X11_in σ (Int32.toInt64 c) 0 4) rfl ?_
        refine bz_wpb bT_X11_hint 1 (b1 := (44, [some (.ref 32), some (.int b), some (.int ot), some (.int c), some (.int what), none, none, none, none, none], [], σ)) (b2 := (33, [some (.ref 32), some (.int b), some (.int ot), some (.int c), some (.int what), none, none, none, none, none], [], σ)) (C := bz_b (f_X11_in (Int32.toInt64 c) 0 4) = 0) (G := True) (f_X11_hint_32_blk9 σ b ot c what) trivial (fun h4 => ?_) (fun h4 => ?_)
        · skip
          have h4 := bz_b0 h4
          refine bz_wpn bT_X11_hint 1 (b := (46, [some (.ref 32), some (.int b), some (.int ot), some (.int c), some (.int what), none, none, none, none, none], [.int (-2)], σ)) (G := True) (f_X11_hint_32_blk10 σ b ot c what) trivial ?_
          refine bz_wpr bT_X11_hint rfl rfl trivial ?_
          have e9 : f_X11_hint_32 σ b ot c what = ((-2), σ) := by rw [f_X11_hint_32, if_pos (h1), if_pos (h2), if_neg (h3), if_neg (bz_ff h4)]
          exact ⟨by rw [e9], by rw [e9]⟩
        · skip
          have h4 := bz_b1 h4
          refine bz_wpn bT_X11_hint 4 (b := (38, [some (.ref 32), some (.int b), some (.int ot), some (.int c), some (.int what), none, none, none, none, none], [.long 1, .long 0, .long (Int32.toInt64 what)], σ)) (G := True) (f_X11_hint_32_blk11 σ b ot c what) trivial ?_
          refine bz_wci bT_X11_hint [.long (Int32.toInt64 what), .long 0, .long 1] (pc' := 41) (rest := []) rfl rfl (Nat.le_of_ble_eq_true rfl) rfl (Nat.le_of_ble_eq_true rfl) rfl (s_X11_in σ (Int32.toInt64 what) 0 1) rfl ?_
          refine bz_wpb bT_X11_hint 1 (b1 := (47, [some (.ref 32), some (.int b), some (.int ot), some (.int c), some (.int what), none, none, none, none, none], [], σ)) (b2 := (44, [some (.ref 32), some (.int b), some (.int ot), some (.int c), some (.int what), none, none, none, none, none], [], σ)) (C := ¬ bz_b (f_X11_in (Int32.toInt64 what) 0 1) = 0) (G := True) (f_X11_hint_32_blk12 σ b ot c what) trivial (fun h5 => ?_) (fun h5 => ?_)
          · skip
            have h5 := bz_b1 h5
            refine bz_wpn bT_X11_hint 6 (b := (59, [some (.ref 32), some (.int b), some (.int ot), some (.int c), some (.int what), some (.int (-6)), some (.int (-6)), some (.int 7), none, none], [], σ)) (G := True) (f_X11_hint_32_blk13 σ b ot c what) trivial ?_
            have e9 : f_X11_hint_32 σ b ot c what = lp_mhint b ot c what (bz_k 8) σ (-6) (-6) 7 := by rw [f_X11_hint_32, if_pos (h1), if_pos (h2), if_neg (h3), if_pos (h4), if_pos (h5)]
            rw [e9]
            exact s_lp_mhint b ot c what (bz_mball (by assumption)) (bz_k 8) σ (-6) (-6) 7 (by rw [bz_k_eq]; decide) (by rw [bz_k_eq]; omega)
          · skip
            have h5 := bz_b0 (Decidable.not_not.mp h5)
            refine bz_wpn bT_X11_hint 1 (b := (46, [some (.ref 32), some (.int b), some (.int ot), some (.int c), some (.int what), none, none, none, none, none], [.int (-2)], σ)) (G := True) (f_X11_hint_32_blk14 σ b ot c what) trivial ?_
            refine bz_wpr bT_X11_hint rfl rfl trivial ?_
            have e9 : f_X11_hint_32 σ b ot c what = ((-2), σ) := by rw [f_X11_hint_32, if_pos (h1), if_pos (h2), if_neg (h3), if_pos (h4), if_neg (bz_ff h5)]
            exact ⟨by rw [e9], by rw [e9]⟩
      · skip
        refine bz_wpn bT_X11_hint 1 (b := (20, [some (.ref 32), some (.int b), some (.int ot), some (.int c), some (.int what), none, none, none, none, none], [.int (-1)], σ)) (G := True) (f_X11_hint_32_blk15 σ b ot c what) trivial ?_
        refine bz_wpr bT_X11_hint rfl rfl trivial ?_
        have e9 : f_X11_hint_32 σ b ot c what = ((-1), σ) := by rw [f_X11_hint_32, if_pos (h1), if_pos (h2), if_pos ((Decidable.not_not.mp h3))]
        exact ⟨by rw [e9], by rw [e9]⟩
theorem rf_X11_hint_32 (σ : bz_S) (b : Int32) (ot : Int32) (c : Int32) (what : Int32) : bz_fr [32, 33, 42] σ (f_X11_hint_32 σ b ot c what).2 := by
  unfold f_X11_hint_32
  exact (bz_ite2 (bz_ite2 (bz_ite2 bz_fr_rf (bz_ite2 (bz_ite2 (bz_fr_tr (τ := σ) bz_fr_rf (bz_fr_mo (rlp_mhint b ot c what (bz_k 8) σ (-6) (-6) 7) (by decide))) bz_fr_rf) bz_fr_rf)) bz_fr_rf) bz_fr_rf)
theorem qf_X11_hint_32 (σ : bz_S) (b : Int32) (ot : Int32) (c : Int32) (what : Int32) : bz_fo [1, 2, 3, 14, 15, 16, 17, 18, 19, 20, 21, 22] σ (f_X11_hint_32 σ b ot c what).2 := by
  unfold f_X11_hint_32
  exact (bz_ite2 (bz_ite2 (bz_ite2 bz_fo_rf (bz_ite2 (bz_ite2 (bz_fo_tr (τ := σ) bz_fo_rf (bz_fo_mo (qlp_mhint b ot c what (bz_k 8) σ (-6) (-6) 7) (by decide))) bz_fo_rf) bz_fo_rf)) bz_fo_rf) bz_fo_rf)

theorem bz_lmod {a b : Nat} (ha : a < 2 ^ 63) (h0 : 0 < b) (hb : b < 2 ^ 63) : lN a % lN b = lN (a % b) := by
  rw [← bz_lrem_eq]
  exact pk_lRem ha h0 hb
theorem bz_lcgM {x : Int32} {k : Nat} (h : x = nI k) (hk : k < 65537) : Int64.toInt32 (((75 * (Int32.toInt64 x)) + 74) % 65537) = nI ((75 * k + 74) % 65537) := by
  rw [h, nI_l (by omega)]
  have e : ((75 * lN k) + 74) % 65537 = lN ((75 * k + 74) % 65537) := by
    show (lN 75 * lN k + lN 74) % lN 65537 = _
    rw [lN_mul, lN_add, bz_lmod (by omega) (by decide) (by decide)]
  rw [e, lN_i]
theorem bz_lcgE {x : Int32} (h : ∃ j, j < 65537 ∧ x = nI j) : ∃ j, j < 65537 ∧ Int64.toInt32 (((75 * (Int32.toInt64 x)) + 74) % 65537) = nI j := by
  obtain ⟨k, hk, e⟩ := h
  exact ⟨_, Nat.mod_lt _ (by decide), bz_lcgM e hk⟩
theorem bz_f9M {x : Int32} (h : ∃ j, j < 65537 ∧ x = nI j) : ∃ N, N < 100 ∧ (1 + (((x / 24) / 8) % 9)) = nI N := by
  obtain ⟨j, hj, rfl⟩ := h
  refine ⟨1 + j / 24 / 8 % 9, ?_, ?_⟩
  · have : j / 24 / 8 % 9 < 9 := Nat.mod_lt _ (by decide)
    omega
  · show nI 1 + ((nI j / nI 24) / nI 8) % nI 9 = _
    rw [bz_divN (by omega) (by decide) (by decide), bz_divN (by omega) (by decide) (by decide), bz_modN (by omega) (by decide) (by decide), nI_add]
theorem bz_mseed {x : Int32} (h : f_X11_in (Int32.toInt64 x) 0 9999 = true) : ∃ j, j < 65537 ∧ x = nI j := bz_seed ((bz_inW (lo := 0) (hi := 9999) (by decide) (by decide)).symm.trans h)
theorem bz_mm99 {x : Int32} (h : f_X11_in (Int32.toInt64 x) 1 99 = true) : ∃ j, j < 1000 ∧ x = nI j := bz_m99 ((bz_inW (lo := 1) (hi := 99) (by decide) (by decide)).symm.trans h)

def lp_mseason_a (rc : bz_S → Int32 → Int32 → bz_S) (m : Int32) (σ : bz_S) (x : Int32) (e : Int32) (τ1 : bz_S) : bz_S := (rc τ1 (Int64.toInt32 (((75 * (Int32.toInt64 x)) + 74) % 65537)) (e + 1))
def lp_mseason (m : Int32) : Nat → bz_S → Int32 → Int32 → bz_S
  | 0, σ, x, e => σ
  | n + 1, σ, x, e => if (f_X11_whyNot_32 σ (f_X11_actBy (((Int64.toInt32 (((75 * (Int32.toInt64 x)) + 74) % 65537)) / 3) % 8)) ((Int64.toInt32 (((75 * (Int32.toInt64 x)) + 74) % 65537)) % 3)) = 0 then (lp_mseason_a (lp_mseason m n) m σ x e (f_X11_happen_32 σ (f_X11_actBy (((Int64.toInt32 (((75 * (Int32.toInt64 x)) + 74) % 65537)) / 3) % 8)) ((Int64.toInt32 (((75 * (Int32.toInt64 x)) + 74) % 65537)) % 3) (((Int64.toInt32 (((75 * (Int32.toInt64 x)) + 74) % 65537)) / 24) % 8) (1 + ((((Int64.toInt32 (((75 * (Int32.toInt64 x)) + 74) % 65537)) / 24) / 8) % 9)))) else (lp_mseason m n σ (Int64.toInt32 (((75 * (Int32.toInt64 x)) + 74) % 65537)) (e + 1))
set_option maxRecDepth 100000 in
theorem lp_mseason0_blk1 {X : bz_X} (m : Int32) (seed : Int32) (what : Int32) (σ : bz_S) (x : Int32) (e : Int32) : bz_run X bt_X11_season 3 (49, [some (.ref 32), some (.int seed), some (.int m), some (.int what), some (.int x), some (.int e), none, none], [], σ) = some (True, if m ≤ e then (136, [some (.ref 32), some (.int seed), some (.int m), some (.int what), some (.int x), some (.int e), none, none], [], σ) else (55, [some (.ref 32), some (.int seed), some (.int m), some (.int what), some (.int x), some (.int e), none, none], [], σ)) := rfl
set_option maxRecDepth 100000 in
theorem lp_mseason_blk1 {X : bz_X} (m : Int32) (seed : Int32) (what : Int32) (σ : bz_S) (x : Int32) (e : Int32) : bz_run X bt_X11_season 3 (49, [some (.ref 32), some (.int seed), some (.int m), some (.int what), some (.int x), some (.int e), none, none], [], σ) = some (True, if m ≤ e then (136, [some (.ref 32), some (.int seed), some (.int m), some (.int what), some (.int x), some (.int e), none, none], [], σ) else (55, [some (.ref 32), some (.int seed), some (.int m), some (.int what), some (.int x), some (.int e), none, none], [], σ)) := rfl
set_option maxRecDepth 100000 in
theorem lp_mseason_blk2 {X : bz_X} (m : Int32) (seed : Int32) (what : Int32) (σ : bz_S) (x : Int32) (e : Int32) : bz_run X bt_X11_season 15 (55, [some (.ref 32), some (.int seed), some (.int m), some (.int what), some (.int x), some (.int e), none, none], [], σ) = some (¬ (65537 : Int64) = 0 ∧ ¬ (3 : Int32) = 0 ∧ ¬ (8 : Int32) = 0 ∧ True, (80, [some (.ref 32), some (.int seed), some (.int m), some (.int what), some (.int (Int64.toInt32 (((75 * (Int32.toInt64 x)) + 74) % 65537))), some (.int e), none, none], [.int (((Int64.toInt32 (((75 * (Int32.toInt64 x)) + 74) % 65537)) / 3) % 8)], σ)) := rfl
set_option maxRecDepth 100000 in
theorem lp_mseason_blk3 {X : bz_X} (m : Int32) (seed : Int32) (what : Int32) (σ : bz_S) (x : Int32) (e : Int32) : bz_run X bt_X11_season 10 (83, [some (.ref 32), some (.int seed), some (.int m), some (.int what), some (.int (Int64.toInt32 (((75 * (Int32.toInt64 x)) + 74) % 65537))), some (.int e), none, none], [.int (f_X11_actBy (((Int64.toInt32 (((75 * (Int32.toInt64 x)) + 74) % 65537)) / 3) % 8))], σ) = some (¬ (24 : Int32) = 0 ∧ ¬ (3 : Int32) = 0 ∧ True, (99, [some (.ref 32), some (.int seed), some (.int m), some (.int what), some (.int (Int64.toInt32 (((75 * (Int32.toInt64 x)) + 74) % 65537))), some (.int e), some (.int (f_X11_actBy (((Int64.toInt32 (((75 * (Int32.toInt64 x)) + 74) % 65537)) / 3) % 8))), some (.int ((Int64.toInt32 (((75 * (Int32.toInt64 x)) + 74) % 65537)) / 24))], [.int ((Int64.toInt32 (((75 * (Int32.toInt64 x)) + 74) % 65537)) % 3), .int (f_X11_actBy (((Int64.toInt32 (((75 * (Int32.toInt64 x)) + 74) % 65537)) / 3) % 8)), .ref 32], σ)) := rfl
set_option maxRecDepth 100000 in
theorem lp_mseason_blk4 {X : bz_X} (m : Int32) (seed : Int32) (what : Int32) (σ : bz_S) (x : Int32) (e : Int32) : bz_run X bt_X11_season 1 (102, [some (.ref 32), some (.int seed), some (.int m), some (.int what), some (.int (Int64.toInt32 (((75 * (Int32.toInt64 x)) + 74) % 65537))), some (.int e), some (.int (f_X11_actBy (((Int64.toInt32 (((75 * (Int32.toInt64 x)) + 74) % 65537)) / 3) % 8))), some (.int ((Int64.toInt32 (((75 * (Int32.toInt64 x)) + 74) % 65537)) / 24))], [.int (f_X11_whyNot_32 σ (f_X11_actBy (((Int64.toInt32 (((75 * (Int32.toInt64 x)) + 74) % 65537)) / 3) % 8)) ((Int64.toInt32 (((75 * (Int32.toInt64 x)) + 74) % 65537)) % 3))], σ) = some (True, if ¬ (f_X11_whyNot_32 σ (f_X11_actBy (((Int64.toInt32 (((75 * (Int32.toInt64 x)) + 74) % 65537)) / 3) % 8)) ((Int64.toInt32 (((75 * (Int32.toInt64 x)) + 74) % 65537)) % 3)) = 0 then (130, [some (.ref 32), some (.int seed), some (.int m), some (.int what), some (.int (Int64.toInt32 (((75 * (Int32.toInt64 x)) + 74) % 65537))), some (.int e), some (.int (f_X11_actBy (((Int64.toInt32 (((75 * (Int32.toInt64 x)) + 74) % 65537)) / 3) % 8))), some (.int ((Int64.toInt32 (((75 * (Int32.toInt64 x)) + 74) % 65537)) / 24))], [], σ) else (105, [some (.ref 32), some (.int seed), some (.int m), some (.int what), some (.int (Int64.toInt32 (((75 * (Int32.toInt64 x)) + 74) % 65537))), some (.int e), some (.int (f_X11_actBy (((Int64.toInt32 (((75 * (Int32.toInt64 x)) + 74) % 65537)) / 3) % 8))), some (.int ((Int64.toInt32 (((75 * (Int32.toInt64 x)) + 74) % 65537)) / 24))], [], σ)) := rfl
set_option maxRecDepth 100000 in
theorem lp_mseason_blk5 {X : bz_X} (m : Int32) (seed : Int32) (what : Int32) (σ : bz_S) (x : Int32) (e : Int32) : bz_run X bt_X11_season 2 (130, [some (.ref 32), some (.int seed), some (.int m), some (.int what), some (.int (Int64.toInt32 (((75 * (Int32.toInt64 x)) + 74) % 65537))), some (.int e), some (.int (f_X11_actBy (((Int64.toInt32 (((75 * (Int32.toInt64 x)) + 74) % 65537)) / 3) % 8))), some (.int ((Int64.toInt32 (((75 * (Int32.toInt64 x)) + 74) % 65537)) / 24))], [], σ) = some (True, (49, [some (.ref 32), some (.int seed), some (.int m), some (.int what), some (.int (Int64.toInt32 (((75 * (Int32.toInt64 x)) + 74) % 65537))), some (.int (e + 1)), some (.int (f_X11_actBy (((Int64.toInt32 (((75 * (Int32.toInt64 x)) + 74) % 65537)) / 3) % 8))), some (.int ((Int64.toInt32 (((75 * (Int32.toInt64 x)) + 74) % 65537)) / 24))], [], σ)) := rfl
set_option maxRecDepth 100000 in
theorem lp_mseason_blk6 {X : bz_X} (m : Int32) (seed : Int32) (what : Int32) (σ : bz_S) (x : Int32) (e : Int32) : bz_run X bt_X11_season 15 (105, [some (.ref 32), some (.int seed), some (.int m), some (.int what), some (.int (Int64.toInt32 (((75 * (Int32.toInt64 x)) + 74) % 65537))), some (.int e), some (.int (f_X11_actBy (((Int64.toInt32 (((75 * (Int32.toInt64 x)) + 74) % 65537)) / 3) % 8))), some (.int ((Int64.toInt32 (((75 * (Int32.toInt64 x)) + 74) % 65537)) / 24))], [], σ) = some (¬ (3 : Int32) = 0 ∧ ¬ (8 : Int32) = 0 ∧ ¬ (8 : Int32) = 0 ∧ ¬ (9 : Int32) = 0 ∧ True, (127, [some (.ref 32), some (.int seed), some (.int m), some (.int what), some (.int (Int64.toInt32 (((75 * (Int32.toInt64 x)) + 74) % 65537))), some (.int e), some (.int (f_X11_actBy (((Int64.toInt32 (((75 * (Int32.toInt64 x)) + 74) % 65537)) / 3) % 8))), some (.int ((Int64.toInt32 (((75 * (Int32.toInt64 x)) + 74) % 65537)) / 24))], [.int (1 + ((((Int64.toInt32 (((75 * (Int32.toInt64 x)) + 74) % 65537)) / 24) / 8) % 9)), .int (((Int64.toInt32 (((75 * (Int32.toInt64 x)) + 74) % 65537)) / 24) % 8), .int ((Int64.toInt32 (((75 * (Int32.toInt64 x)) + 74) % 65537)) % 3), .int (f_X11_actBy (((Int64.toInt32 (((75 * (Int32.toInt64 x)) + 74) % 65537)) / 3) % 8)), .ref 32], σ)) := rfl
set_option maxRecDepth 100000 in
theorem lp_mseason_blk7 {X : bz_X} (m : Int32) (seed : Int32) (what : Int32) (σ : bz_S) (x : Int32) (e : Int32) (τ1 : bz_S) : bz_run X bt_X11_season 2 (130, [some (.ref 32), some (.int seed), some (.int m), some (.int what), some (.int (Int64.toInt32 (((75 * (Int32.toInt64 x)) + 74) % 65537))), some (.int e), some (.int (f_X11_actBy (((Int64.toInt32 (((75 * (Int32.toInt64 x)) + 74) % 65537)) / 3) % 8))), some (.int ((Int64.toInt32 (((75 * (Int32.toInt64 x)) + 74) % 65537)) / 24))], [], τ1) = some (True, (49, [some (.ref 32), some (.int seed), some (.int m), some (.int what), some (.int (Int64.toInt32 (((75 * (Int32.toInt64 x)) + 74) % 65537))), some (.int (e + 1)), some (.int (f_X11_actBy (((Int64.toInt32 (((75 * (Int32.toInt64 x)) + 74) % 65537)) / 3) % 8))), some (.int ((Int64.toInt32 (((75 * (Int32.toInt64 x)) + 74) % 65537)) / 24))], [], τ1)) := rfl
set_option maxRecDepth 100000 in
theorem s_lp_mseason {X : bz_X} (m : Int32) {Q : bz_Q} (seed what : Int32) (MM : Nat) (hM : m = nI MM) (hM2 : MM < 1000) : ∀ (n : Nat) (σ : bz_S) (x : Int32) (e : Int32) (j9 : Nat) (hi : e = nI j9) (hj : j9 + n = MM) (hx : ∃ j, j < 65537 ∧ x = nI j) (kk : bz_wp bz_P X mX11_season Q (136, [some (.ref 32), some (.int seed), some (.int m), some (.int what), none, none, none, none], [], (lp_mseason m n σ x e))), bz_wp bz_P X mX11_season (Q) (49, [some (.ref 32), some (.int seed), some (.int m), some (.int what), some (.int x), some (.int e), none, none], [], σ) := by
  intro n
  induction n with
  | zero =>
    intro σ x e j9 hi hj hx kk
    refine bz_wpb bT_X11_season 3 (b1 := (136, [some (.ref 32), some (.int seed), some (.int m), some (.int what), some (.int x), some (.int e), none, none], [], σ)) (b2 := (55, [some (.ref 32), some (.int seed), some (.int m), some (.int what), some (.int x), some (.int e), none, none], [], σ)) (C := m ≤ e) (G := True) (lp_mseason0_blk1 m seed what σ x e) trivial (fun _ => ?_) (fun z => absurd (show m ≤ e from by rw [hi, hM]; exact nI_le (by omega) (by omega)) z)
    have e9 : lp_mseason m 0 σ x e = σ := by rw [lp_mseason]
    rw [e9] at kk
    refine bz_wpw (by exact ⟨rfl, rfl, rfl, rfl, trivial⟩) kk
  | succ n ih =>
    intro σ x e j9 hi hj hx kk
    refine bz_wpb bT_X11_season 3 (b1 := (136, [some (.ref 32), some (.int seed), some (.int m), some (.int what), some (.int x), some (.int e), none, none], [], σ)) (b2 := (55, [some (.ref 32), some (.int seed), some (.int m), some (.int what), some (.int x), some (.int e), none, none], [], σ)) (C := m ≤ e) (G := True) (lp_mseason_blk1 m seed what σ x e) trivial (fun z => absurd z (show ¬ m ≤ e from by rw [hi, hM]; exact nI_ge (by omega) (by omega))) (fun _ => ?_)
    refine bz_wpn bT_X11_season 15 (b := (80, [some (.ref 32), some (.int seed), some (.int m), some (.int what), some (.int (Int64.toInt32 (((75 * (Int32.toInt64 x)) + 74) % 65537))), some (.int e), none, none], [.int (((Int64.toInt32 (((75 * (Int32.toInt64 x)) + 74) % 65537)) / 3) % 8)], σ)) (G := ¬ (65537 : Int64) = 0 ∧ ¬ (3 : Int32) = 0 ∧ ¬ (8 : Int32) = 0 ∧ True) (lp_mseason_blk2 m seed what σ x e) ⟨(by decide), (by decide), (by decide), trivial⟩ ?_
    refine bz_wci bT_X11_season [.int (((Int64.toInt32 (((75 * (Int32.toInt64 x)) + 74) % 65537)) / 3) % 8)] (pc' := 83) (rest := []) rfl rfl (Nat.le_of_ble_eq_true rfl) rfl (Nat.le_of_ble_eq_true rfl) rfl (s_X11_actBy σ (((Int64.toInt32 (((75 * (Int32.toInt64 x)) + 74) % 65537)) / 3) % 8)) rfl ?_
    refine bz_wpn bT_X11_season 10 (b := (99, [some (.ref 32), some (.int seed), some (.int m), some (.int what), some (.int (Int64.toInt32 (((75 * (Int32.toInt64 x)) + 74) % 65537))), some (.int e), some (.int (f_X11_actBy (((Int64.toInt32 (((75 * (Int32.toInt64 x)) + 74) % 65537)) / 3) % 8))), some (.int ((Int64.toInt32 (((75 * (Int32.toInt64 x)) + 74) % 65537)) / 24))], [.int ((Int64.toInt32 (((75 * (Int32.toInt64 x)) + 74) % 65537)) % 3), .int (f_X11_actBy (((Int64.toInt32 (((75 * (Int32.toInt64 x)) + 74) % 65537)) / 3) % 8)), .ref 32], σ)) (G := ¬ (24 : Int32) = 0 ∧ ¬ (3 : Int32) = 0 ∧ True) (lp_mseason_blk3 m seed what σ x e) ⟨(by decide), (by decide), trivial⟩ ?_
    refine bz_wci bT_X11_season [.ref 32, .int (f_X11_actBy (((Int64.toInt32 (((75 * (Int32.toInt64 x)) + 74) % 65537)) / 3) % 8)), .int ((Int64.toInt32 (((75 * (Int32.toInt64 x)) + 74) % 65537)) % 3)] (pc' := 102) (rest := []) rfl rfl (Nat.le_of_ble_eq_true rfl) rfl (Nat.le_of_ble_eq_true rfl) rfl (s_X11_whyNot_32 σ (f_X11_actBy (((Int64.toInt32 (((75 * (Int32.toInt64 x)) + 74) % 65537)) / 3) % 8)) ((Int64.toInt32 (((75 * (Int32.toInt64 x)) + 74) % 65537)) % 3) (bz_m3 (bz_lcgE hx))) rfl ?_
    refine bz_wpb bT_X11_season 1 (b1 := (130, [some (.ref 32), some (.int seed), some (.int m), some (.int what), some (.int (Int64.toInt32 (((75 * (Int32.toInt64 x)) + 74) % 65537))), some (.int e), some (.int (f_X11_actBy (((Int64.toInt32 (((75 * (Int32.toInt64 x)) + 74) % 65537)) / 3) % 8))), some (.int ((Int64.toInt32 (((75 * (Int32.toInt64 x)) + 74) % 65537)) / 24))], [], σ)) (b2 := (105, [some (.ref 32), some (.int seed), some (.int m), some (.int what), some (.int (Int64.toInt32 (((75 * (Int32.toInt64 x)) + 74) % 65537))), some (.int e), some (.int (f_X11_actBy (((Int64.toInt32 (((75 * (Int32.toInt64 x)) + 74) % 65537)) / 3) % 8))), some (.int ((Int64.toInt32 (((75 * (Int32.toInt64 x)) + 74) % 65537)) / 24))], [], σ)) (C := ¬ (f_X11_whyNot_32 σ (f_X11_actBy (((Int64.toInt32 (((75 * (Int32.toInt64 x)) + 74) % 65537)) / 3) % 8)) ((Int64.toInt32 (((75 * (Int32.toInt64 x)) + 74) % 65537)) % 3)) = 0) (G := True) (lp_mseason_blk4 m seed what σ x e) trivial (fun h1 => ?_) (fun h1 => ?_)
    · skip
      refine bz_wpn bT_X11_season 2 (b := (49, [some (.ref 32), some (.int seed), some (.int m), some (.int what), some (.int (Int64.toInt32 (((75 * (Int32.toInt64 x)) + 74) % 65537))), some (.int (e + 1)), some (.int (f_X11_actBy (((Int64.toInt32 (((75 * (Int32.toInt64 x)) + 74) % 65537)) / 3) % 8))), some (.int ((Int64.toInt32 (((75 * (Int32.toInt64 x)) + 74) % 65537)) / 24))], [], σ)) (G := True) (lp_mseason_blk5 m seed what σ x e) trivial ?_
      have e9 : lp_mseason m (n + 1) σ x e = (lp_mseason m n σ (Int64.toInt32 (((75 * (Int32.toInt64 x)) + 74) % 65537)) (e + 1)) := by rw [lp_mseason, if_neg (h1)]
      rw [e9] at kk
      refine bz_wpw (L' := [some (.ref 32), some (.int seed), some (.int m), some (.int what), some (.int (Int64.toInt32 (((75 * (Int32.toInt64 x)) + 74) % 65537))), some (.int (e + 1)), none, none]) (by exact ⟨rfl, rfl, rfl, rfl, rfl, rfl, trivial⟩) ?_
      exact ih σ (Int64.toInt32 (((75 * (Int32.toInt64 x)) + 74) % 65537)) (e + 1) (j9 + 1) (by rw [hi]; exact nI_1 j9) (by omega) (bz_lcgE hx) kk
    · skip
      refine bz_wpn bT_X11_season 15 (b := (127, [some (.ref 32), some (.int seed), some (.int m), some (.int what), some (.int (Int64.toInt32 (((75 * (Int32.toInt64 x)) + 74) % 65537))), some (.int e), some (.int (f_X11_actBy (((Int64.toInt32 (((75 * (Int32.toInt64 x)) + 74) % 65537)) / 3) % 8))), some (.int ((Int64.toInt32 (((75 * (Int32.toInt64 x)) + 74) % 65537)) / 24))], [.int (1 + ((((Int64.toInt32 (((75 * (Int32.toInt64 x)) + 74) % 65537)) / 24) / 8) % 9)), .int (((Int64.toInt32 (((75 * (Int32.toInt64 x)) + 74) % 65537)) / 24) % 8), .int ((Int64.toInt32 (((75 * (Int32.toInt64 x)) + 74) % 65537)) % 3), .int (f_X11_actBy (((Int64.toInt32 (((75 * (Int32.toInt64 x)) + 74) % 65537)) / 3) % 8)), .ref 32], σ)) (G := ¬ (3 : Int32) = 0 ∧ ¬ (8 : Int32) = 0 ∧ ¬ (8 : Int32) = 0 ∧ ¬ (9 : Int32) = 0 ∧ True) (lp_mseason_blk6 m seed what σ x e) ⟨(by decide), (by decide), (by decide), (by decide), trivial⟩ ?_
      refine bz_wcv bT_X11_season [.ref 32, .int (f_X11_actBy (((Int64.toInt32 (((75 * (Int32.toInt64 x)) + 74) % 65537)) / 3) % 8)), .int ((Int64.toInt32 (((75 * (Int32.toInt64 x)) + 74) % 65537)) % 3), .int (((Int64.toInt32 (((75 * (Int32.toInt64 x)) + 74) % 65537)) / 24) % 8), .int (1 + ((((Int64.toInt32 (((75 * (Int32.toInt64 x)) + 74) % 65537)) / 24) / 8) % 9))] (pc' := 130) (rest := []) rfl rfl (Nat.le_of_ble_eq_true rfl) rfl (Nat.le_of_ble_eq_true rfl) rfl (s_X11_happen_32 σ (f_X11_actBy (((Int64.toInt32 (((75 * (Int32.toInt64 x)) + 74) % 65537)) / 3) % 8)) ((Int64.toInt32 (((75 * (Int32.toInt64 x)) + 74) % 65537)) % 3) (((Int64.toInt32 (((75 * (Int32.toInt64 x)) + 74) % 65537)) / 24) % 8) (1 + ((((Int64.toInt32 (((75 * (Int32.toInt64 x)) + 74) % 65537)) / 24) / 8) % 9)) (bz_m3 (bz_lcgE hx)) (bz_f9M (bz_lcgE hx))) rfl ?_
      generalize hτ1 : f_X11_happen_32 σ (f_X11_actBy (((Int64.toInt32 (((75 * (Int32.toInt64 x)) + 74) % 65537)) / 3) % 8)) ((Int64.toInt32 (((75 * (Int32.toInt64 x)) + 74) % 65537)) % 3) (((Int64.toInt32 (((75 * (Int32.toInt64 x)) + 74) % 65537)) / 24) % 8) (1 + ((((Int64.toInt32 (((75 * (Int32.toInt64 x)) + 74) % 65537)) / 24) / 8) % 9)) = τ1
      refine bz_wpn bT_X11_season 2 (b := (49, [some (.ref 32), some (.int seed), some (.int m), some (.int what), some (.int (Int64.toInt32 (((75 * (Int32.toInt64 x)) + 74) % 65537))), some (.int (e + 1)), some (.int (f_X11_actBy (((Int64.toInt32 (((75 * (Int32.toInt64 x)) + 74) % 65537)) / 3) % 8))), some (.int ((Int64.toInt32 (((75 * (Int32.toInt64 x)) + 74) % 65537)) / 24))], [], τ1)) (G := True) (lp_mseason_blk7 m seed what σ x e τ1) trivial ?_
      have e9 : lp_mseason m (n + 1) σ x e = (lp_mseason m n τ1 (Int64.toInt32 (((75 * (Int32.toInt64 x)) + 74) % 65537)) (e + 1)) := by rw [lp_mseason, if_pos ((Decidable.not_not.mp h1)), hτ1, lp_mseason_a]
      rw [e9] at kk
      refine bz_wpw (L' := [some (.ref 32), some (.int seed), some (.int m), some (.int what), some (.int (Int64.toInt32 (((75 * (Int32.toInt64 x)) + 74) % 65537))), some (.int (e + 1)), none, none]) (by exact ⟨rfl, rfl, rfl, rfl, rfl, rfl, trivial⟩) ?_
      exact ih τ1 (Int64.toInt32 (((75 * (Int32.toInt64 x)) + 74) % 65537)) (e + 1) (j9 + 1) (by rw [hi]; exact nI_1 j9) (by omega) (bz_lcgE hx) kk
theorem rlp_mseason_a (rc : bz_S → Int32 → Int32 → bz_S) (m : Int32) (σ : bz_S) (x : Int32) (e : Int32) (τ1 : bz_S) (ihc : ∀ (σ : bz_S) (x : Int32) (e : Int32), bz_fr [32, 33, 41] σ (rc σ x e)) (fτ1 : bz_fr [32, 33, 41] σ τ1) : bz_fr [32, 33, 41] σ (lp_mseason_a rc m σ x e τ1) := by
  unfold lp_mseason_a
  exact (bz_fr_tr (τ := τ1) fτ1 (ihc τ1 (Int64.toInt32 (((75 * (Int32.toInt64 x)) + 74) % 65537)) (e + 1)))
theorem rlp_mseason (m : Int32) : ∀ (n : Nat) (σ : bz_S) (x : Int32) (e : Int32), bz_fr [32, 33, 41] σ (lp_mseason m n σ x e) := by
  intro n
  induction n with
  | zero =>
    intro σ x e
    rw [lp_mseason]
    exact bz_fr_rf
  | succ n ihc =>
    intro σ x e
    rw [lp_mseason]
    exact (bz_ite (rlp_mseason_a (lp_mseason m n) m σ x e (f_X11_happen_32 σ (f_X11_actBy (((Int64.toInt32 (((75 * (Int32.toInt64 x)) + 74) % 65537)) / 3) % 8)) ((Int64.toInt32 (((75 * (Int32.toInt64 x)) + 74) % 65537)) % 3) (((Int64.toInt32 (((75 * (Int32.toInt64 x)) + 74) % 65537)) / 24) % 8) (1 + ((((Int64.toInt32 (((75 * (Int32.toInt64 x)) + 74) % 65537)) / 24) / 8) % 9))) ihc (bz_fr_mo (rf_X11_happen_32 σ (f_X11_actBy (((Int64.toInt32 (((75 * (Int32.toInt64 x)) + 74) % 65537)) / 3) % 8)) ((Int64.toInt32 (((75 * (Int32.toInt64 x)) + 74) % 65537)) % 3) (((Int64.toInt32 (((75 * (Int32.toInt64 x)) + 74) % 65537)) / 24) % 8) (1 + ((((Int64.toInt32 (((75 * (Int32.toInt64 x)) + 74) % 65537)) / 24) / 8) % 9))) (by decide))) (bz_fr_tr (τ := σ) bz_fr_rf (ihc σ (Int64.toInt32 (((75 * (Int32.toInt64 x)) + 74) % 65537)) (e + 1))))
theorem qlp_mseason_a (rc : bz_S → Int32 → Int32 → bz_S) (m : Int32) (σ : bz_S) (x : Int32) (e : Int32) (τ1 : bz_S) (ihc : ∀ (σ : bz_S) (x : Int32) (e : Int32), bz_fo [1, 2, 3, 14, 15, 16, 17, 18, 19, 20, 21, 22, 23, 24] σ (rc σ x e)) (fτ1 : bz_fo [1, 2, 3, 14, 15, 16, 17, 18, 19, 20, 21, 22, 23, 24] σ τ1) : bz_fo [1, 2, 3, 14, 15, 16, 17, 18, 19, 20, 21, 22, 23, 24] σ (lp_mseason_a rc m σ x e τ1) := by
  unfold lp_mseason_a
  exact (bz_fo_tr (τ := τ1) fτ1 (ihc τ1 (Int64.toInt32 (((75 * (Int32.toInt64 x)) + 74) % 65537)) (e + 1)))
theorem qlp_mseason (m : Int32) : ∀ (n : Nat) (σ : bz_S) (x : Int32) (e : Int32), bz_fo [1, 2, 3, 14, 15, 16, 17, 18, 19, 20, 21, 22, 23, 24] σ (lp_mseason m n σ x e) := by
  intro n
  induction n with
  | zero =>
    intro σ x e
    rw [lp_mseason]
    exact bz_fo_rf
  | succ n ihc =>
    intro σ x e
    rw [lp_mseason]
    exact (bz_ite (qlp_mseason_a (lp_mseason m n) m σ x e (f_X11_happen_32 σ (f_X11_actBy (((Int64.toInt32 (((75 * (Int32.toInt64 x)) + 74) % 65537)) / 3) % 8)) ((Int64.toInt32 (((75 * (Int32.toInt64 x)) + 74) % 65537)) % 3) (((Int64.toInt32 (((75 * (Int32.toInt64 x)) + 74) % 65537)) / 24) % 8) (1 + ((((Int64.toInt32 (((75 * (Int32.toInt64 x)) + 74) % 65537)) / 24) / 8) % 9))) ihc (bz_fo_mo (qf_X11_happen_32 σ (f_X11_actBy (((Int64.toInt32 (((75 * (Int32.toInt64 x)) + 74) % 65537)) / 3) % 8)) ((Int64.toInt32 (((75 * (Int32.toInt64 x)) + 74) % 65537)) % 3) (((Int64.toInt32 (((75 * (Int32.toInt64 x)) + 74) % 65537)) / 24) % 8) (1 + ((((Int64.toInt32 (((75 * (Int32.toInt64 x)) + 74) % 65537)) / 24) / 8) % 9))) (by decide))) (bz_fo_tr (τ := σ) bz_fo_rf (ihc σ (Int64.toInt32 (((75 * (Int32.toInt64 x)) + 74) % 65537)) (e + 1))))

def f_X11_season_32_c (σ : bz_S) (seed : Int32) (m : Int32) (what : Int32) (τ1 : bz_S) (τ2 : bz_S) (τ3 : Int32 × bz_S) : Int32 × bz_S := (τ3.1, τ3.2)
def f_X11_season_32_d (σ : bz_S) (seed : Int32) (m : Int32) (what : Int32) (τ1 : bz_S) (τ2 : bz_S) (τ4 : Int32 × bz_S) : Int32 × bz_S := (τ4.1, τ4.2)
def f_X11_season_32_e (σ : bz_S) (seed : Int32) (m : Int32) (what : Int32) (τ1 : bz_S) (τ2 : bz_S) (τ5 : Int32 × bz_S) : Int32 × bz_S := (τ5.1, τ5.2)
def f_X11_season_32_b (σ : bz_S) (seed : Int32) (m : Int32) (what : Int32) (τ1 : bz_S) (τ2 : bz_S) : Int32 × bz_S := if what = 0 then (f_X11_season_32_e σ seed m what τ1 τ2 (f_X11_back_32 τ2 (τ2.1 32 1))) else (if what = 1 then (f_X11_season_32_d σ seed m what τ1 τ2 (f_X11_back_32 τ2 (τ2.1 32 2))) else (f_X11_season_32_c σ seed m what τ1 τ2 (f_X11_back_32 τ2 (f_X11_downMany_32 τ2))))
def f_X11_season_32_a (σ : bz_S) (seed : Int32) (m : Int32) (what : Int32) (τ1 : bz_S) : Int32 × bz_S := (f_X11_season_32_b σ seed m what τ1 ((lp_mseason m m.toNatClampNeg τ1 seed 0)))
def f_X11_season_32 (σ : bz_S) (seed : Int32) (m : Int32) (what : Int32) : Int32 × bz_S := if f_X11_in (Int32.toInt64 seed) 0 9999 = true then if f_X11_in (Int32.toInt64 m) 1 99 = true then if f_X11_in (Int32.toInt64 what) 0 2 = true then (f_X11_season_32_a σ seed m what (f_X11_keepNow_32 σ)) else ((-2), σ) else ((-2), σ) else ((-2), σ)
set_option maxRecDepth 100000 in
theorem f_X11_season_32_blk1 {X : bz_X} (σ : bz_S) (seed : Int32) (m : Int32) (what : Int32) : bz_run X bt_X11_season 4 (0, [some (.ref 32), some (.int seed), some (.int m), some (.int what), none, none, none, none], [], σ) = some (True, (6, [some (.ref 32), some (.int seed), some (.int m), some (.int what), none, none, none, none], [.long 9999, .long 0, .long (Int32.toInt64 seed)], σ)) := rfl
set_option maxRecDepth 100000 in
theorem f_X11_season_32_blk2 {X : bz_X} (σ : bz_S) (seed : Int32) (m : Int32) (what : Int32) : bz_run X bt_X11_season 1 (9, [some (.ref 32), some (.int seed), some (.int m), some (.int what), none, none, none, none], [.int (bz_b (f_X11_in (Int32.toInt64 seed) 0 9999))], σ) = some (True, if bz_b (f_X11_in (Int32.toInt64 seed) 0 9999) = 0 then (36, [some (.ref 32), some (.int seed), some (.int m), some (.int what), none, none, none, none], [], σ) else (12, [some (.ref 32), some (.int seed), some (.int m), some (.int what), none, none, none, none], [], σ)) := rfl
set_option maxRecDepth 100000 in
theorem f_X11_season_32_blk3 {X : bz_X} (σ : bz_S) (seed : Int32) (m : Int32) (what : Int32) : bz_run X bt_X11_season 1 (36, [some (.ref 32), some (.int seed), some (.int m), some (.int what), none, none, none, none], [], σ) = some (True, (38, [some (.ref 32), some (.int seed), some (.int m), some (.int what), none, none, none, none], [.int (-2)], σ)) := rfl
set_option maxRecDepth 100000 in
theorem f_X11_season_32_blk4 {X : bz_X} (σ : bz_S) (seed : Int32) (m : Int32) (what : Int32) : bz_run X bt_X11_season 4 (12, [some (.ref 32), some (.int seed), some (.int m), some (.int what), none, none, none, none], [], σ) = some (True, (18, [some (.ref 32), some (.int seed), some (.int m), some (.int what), none, none, none, none], [.long 99, .long 1, .long (Int32.toInt64 m)], σ)) := rfl
set_option maxRecDepth 100000 in
theorem f_X11_season_32_blk5 {X : bz_X} (σ : bz_S) (seed : Int32) (m : Int32) (what : Int32) : bz_run X bt_X11_season 1 (21, [some (.ref 32), some (.int seed), some (.int m), some (.int what), none, none, none, none], [.int (bz_b (f_X11_in (Int32.toInt64 m) 1 99))], σ) = some (True, if bz_b (f_X11_in (Int32.toInt64 m) 1 99) = 0 then (36, [some (.ref 32), some (.int seed), some (.int m), some (.int what), none, none, none, none], [], σ) else (24, [some (.ref 32), some (.int seed), some (.int m), some (.int what), none, none, none, none], [], σ)) := rfl
set_option maxRecDepth 100000 in
theorem f_X11_season_32_blk6 {X : bz_X} (σ : bz_S) (seed : Int32) (m : Int32) (what : Int32) : bz_run X bt_X11_season 1 (36, [some (.ref 32), some (.int seed), some (.int m), some (.int what), none, none, none, none], [], σ) = some (True, (38, [some (.ref 32), some (.int seed), some (.int m), some (.int what), none, none, none, none], [.int (-2)], σ)) := rfl
set_option maxRecDepth 100000 in
theorem f_X11_season_32_blk7 {X : bz_X} (σ : bz_S) (seed : Int32) (m : Int32) (what : Int32) : bz_run X bt_X11_season 4 (24, [some (.ref 32), some (.int seed), some (.int m), some (.int what), none, none, none, none], [], σ) = some (True, (30, [some (.ref 32), some (.int seed), some (.int m), some (.int what), none, none, none, none], [.long 2, .long 0, .long (Int32.toInt64 what)], σ)) := rfl
set_option maxRecDepth 100000 in
theorem f_X11_season_32_blk8 {X : bz_X} (σ : bz_S) (seed : Int32) (m : Int32) (what : Int32) : bz_run X bt_X11_season 1 (33, [some (.ref 32), some (.int seed), some (.int m), some (.int what), none, none, none, none], [.int (bz_b (f_X11_in (Int32.toInt64 what) 0 2))], σ) = some (True, if ¬ bz_b (f_X11_in (Int32.toInt64 what) 0 2) = 0 then (39, [some (.ref 32), some (.int seed), some (.int m), some (.int what), none, none, none, none], [], σ) else (36, [some (.ref 32), some (.int seed), some (.int m), some (.int what), none, none, none, none], [], σ)) := rfl
set_option maxRecDepth 100000 in
theorem f_X11_season_32_blk9 {X : bz_X} (σ : bz_S) (seed : Int32) (m : Int32) (what : Int32) : bz_run X bt_X11_season 1 (39, [some (.ref 32), some (.int seed), some (.int m), some (.int what), none, none, none, none], [], σ) = some (True, (40, [some (.ref 32), some (.int seed), some (.int m), some (.int what), none, none, none, none], [.ref 32], σ)) := rfl
set_option maxRecDepth 100000 in
theorem f_X11_season_32_blk10 {X : bz_X} (σ : bz_S) (seed : Int32) (m : Int32) (what : Int32) (τ1 : bz_S) : bz_run X bt_X11_season 4 (43, [some (.ref 32), some (.int seed), some (.int m), some (.int what), none, none, none, none], [], τ1) = some (True, (49, [some (.ref 32), some (.int seed), some (.int m), some (.int what), some (.int seed), some (.int 0), none, none], [], τ1)) := rfl
set_option maxRecDepth 100000 in
theorem f_X11_season_32_blk11 {X : bz_X} (σ : bz_S) (seed : Int32) (m : Int32) (what : Int32) (τ1 : bz_S) (τ2 : bz_S) : bz_run X bt_X11_season 3 (136, [some (.ref 32), some (.int seed), some (.int m), some (.int what), none, none, none, none], [], τ2) = some (True, if ¬ what = 0 then (148, [some (.ref 32), some (.int seed), some (.int m), some (.int what), none, none, none, none], [.ref 32], τ2) else (141, [some (.ref 32), some (.int seed), some (.int m), some (.int what), none, none, none, none], [.ref 32], τ2)) := rfl
set_option maxRecDepth 100000 in
theorem f_X11_season_32_blk12 {X : bz_X} (σ : bz_S) (seed : Int32) (m : Int32) (what : Int32) (τ1 : bz_S) (τ2 : bz_S) : bz_run X bt_X11_season 3 (148, [some (.ref 32), some (.int seed), some (.int m), some (.int what), none, none, none, none], [.ref 32], τ2) = some (True, if ¬ what = 1 then (160, [some (.ref 32), some (.int seed), some (.int m), some (.int what), none, none, none, none], [.ref 32], τ2) else (153, [some (.ref 32), some (.int seed), some (.int m), some (.int what), none, none, none, none], [.ref 32], τ2)) := rfl
set_option maxRecDepth 100000 in
theorem f_X11_season_32_blk13 {X : bz_X} (σ : bz_S) (seed : Int32) (m : Int32) (what : Int32) (τ1 : bz_S) (τ2 : bz_S) : bz_run X bt_X11_season 1 (160, [some (.ref 32), some (.int seed), some (.int m), some (.int what), none, none, none, none], [.ref 32], τ2) = some (True, (161, [some (.ref 32), some (.int seed), some (.int m), some (.int what), none, none, none, none], [.ref 32, .ref 32], τ2)) := rfl
set_option maxRecDepth 100000 in
theorem f_X11_season_32_blk14 {X : bz_X} (σ : bz_S) (seed : Int32) (m : Int32) (what : Int32) (τ1 : bz_S) (τ2 : bz_S) : bz_run X bt_X11_season 3 (153, [some (.ref 32), some (.int seed), some (.int m), some (.int what), none, none, none, none], [.ref 32], τ2) = some (True, (164, [some (.ref 32), some (.int seed), some (.int m), some (.int what), none, none, none, none], [.int (τ2.1 32 2), .ref 32], τ2)) := rfl
set_option maxRecDepth 100000 in
theorem f_X11_season_32_blk15 {X : bz_X} (σ : bz_S) (seed : Int32) (m : Int32) (what : Int32) (τ1 : bz_S) (τ2 : bz_S) : bz_run X bt_X11_season 3 (141, [some (.ref 32), some (.int seed), some (.int m), some (.int what), none, none, none, none], [.ref 32], τ2) = some (True, (164, [some (.ref 32), some (.int seed), some (.int m), some (.int what), none, none, none, none], [.int (τ2.1 32 1), .ref 32], τ2)) := rfl
set_option maxRecDepth 100000 in
theorem f_X11_season_32_blk16 {X : bz_X} (σ : bz_S) (seed : Int32) (m : Int32) (what : Int32) : bz_run X bt_X11_season 1 (36, [some (.ref 32), some (.int seed), some (.int m), some (.int what), none, none, none, none], [], σ) = some (True, (38, [some (.ref 32), some (.int seed), some (.int m), some (.int what), none, none, none, none], [.int (-2)], σ)) := rfl
set_option maxRecDepth 100000 in
theorem s_X11_season_32 {X : bz_X} (σ : bz_S) (seed : Int32) (m : Int32) (what : Int32) : bz_C bz_P X mX11_season [.ref 32, .int seed, .int m, .int what] σ (bz_pi (f_X11_season_32 σ seed m what).1 (f_X11_season_32 σ seed m what).2) := by
  show bz_wp bz_P X mX11_season (bz_pi (f_X11_season_32 σ seed m what).1 (f_X11_season_32 σ seed m what).2) (0, [some (.ref 32), some (.int seed), some (.int m), some (.int what), none, none, none, none], [], σ)
  refine bz_wpn bT_X11_season 4 (b := (6, [some (.ref 32), some (.int seed), some (.int m), some (.int what), none, none, none, none], [.long 9999, .long 0, .long (Int32.toInt64 seed)], σ)) (G := True) (f_X11_season_32_blk1 σ seed m what) trivial ?_
  refine bz_wci bT_X11_season [.long (Int32.toInt64 seed), .long 0, .long 9999] (pc' := 9) (rest := []) rfl rfl (Nat.le_of_ble_eq_true rfl) rfl (Nat.le_of_ble_eq_true rfl) rfl (s_X11_in σ (Int32.toInt64 seed) 0 9999) rfl ?_
  refine bz_wpb bT_X11_season 1 (b1 := (36, [some (.ref 32), some (.int seed), some (.int m), some (.int what), none, none, none, none], [], σ)) (b2 := (12, [some (.ref 32), some (.int seed), some (.int m), some (.int what), none, none, none, none], [], σ)) (C := bz_b (f_X11_in (Int32.toInt64 seed) 0 9999) = 0) (G := True) (f_X11_season_32_blk2 σ seed m what) trivial (fun h1 => ?_) (fun h1 => ?_)
  · skip
    have h1 := bz_b0 h1
    refine bz_wpn bT_X11_season 1 (b := (38, [some (.ref 32), some (.int seed), some (.int m), some (.int what), none, none, none, none], [.int (-2)], σ)) (G := True) (f_X11_season_32_blk3 σ seed m what) trivial ?_
    refine bz_wpr bT_X11_season rfl rfl trivial ?_
    have e9 : f_X11_season_32 σ seed m what = ((-2), σ) := by rw [f_X11_season_32, if_neg (bz_ff h1)]
    exact ⟨by rw [e9], by rw [e9]⟩
  · skip
    have h1 := bz_b1 h1
    refine bz_wpn bT_X11_season 4 (b := (18, [some (.ref 32), some (.int seed), some (.int m), some (.int what), none, none, none, none], [.long 99, .long 1, .long (Int32.toInt64 m)], σ)) (G := True) (f_X11_season_32_blk4 σ seed m what) trivial ?_
    refine bz_wci bT_X11_season [.long (Int32.toInt64 m), .long 1, .long 99] (pc' := 21) (rest := []) rfl rfl (Nat.le_of_ble_eq_true rfl) rfl (Nat.le_of_ble_eq_true rfl) rfl (s_X11_in σ (Int32.toInt64 m) 1 99) rfl ?_
    refine bz_wpb bT_X11_season 1 (b1 := (36, [some (.ref 32), some (.int seed), some (.int m), some (.int what), none, none, none, none], [], σ)) (b2 := (24, [some (.ref 32), some (.int seed), some (.int m), some (.int what), none, none, none, none], [], σ)) (C := bz_b (f_X11_in (Int32.toInt64 m) 1 99) = 0) (G := True) (f_X11_season_32_blk5 σ seed m what) trivial (fun h2 => ?_) (fun h2 => ?_)
    · skip
      have h2 := bz_b0 h2
      refine bz_wpn bT_X11_season 1 (b := (38, [some (.ref 32), some (.int seed), some (.int m), some (.int what), none, none, none, none], [.int (-2)], σ)) (G := True) (f_X11_season_32_blk6 σ seed m what) trivial ?_
      refine bz_wpr bT_X11_season rfl rfl trivial ?_
      have e9 : f_X11_season_32 σ seed m what = ((-2), σ) := by rw [f_X11_season_32, if_pos (h1), if_neg (bz_ff h2)]
      exact ⟨by rw [e9], by rw [e9]⟩
    · skip
      have h2 := bz_b1 h2
      refine bz_wpn bT_X11_season 4 (b := (30, [some (.ref 32), some (.int seed), some (.int m), some (.int what), none, none, none, none], [.long 2, .long 0, .long (Int32.toInt64 what)], σ)) (G := True) (f_X11_season_32_blk7 σ seed m what) trivial ?_
      refine bz_wci bT_X11_season [.long (Int32.toInt64 what), .long 0, .long 2] (pc' := 33) (rest := []) rfl rfl (Nat.le_of_ble_eq_true rfl) rfl (Nat.le_of_ble_eq_true rfl) rfl (s_X11_in σ (Int32.toInt64 what) 0 2) rfl ?_
      refine bz_wpb bT_X11_season 1 (b1 := (39, [some (.ref 32), some (.int seed), some (.int m), some (.int what), none, none, none, none], [], σ)) (b2 := (36, [some (.ref 32), some (.int seed), some (.int m), some (.int what), none, none, none, none], [], σ)) (C := ¬ bz_b (f_X11_in (Int32.toInt64 what) 0 2) = 0) (G := True) (f_X11_season_32_blk8 σ seed m what) trivial (fun h3 => ?_) (fun h3 => ?_)
      · skip
        have h3 := bz_b1 h3
        refine bz_wpn bT_X11_season 1 (b := (40, [some (.ref 32), some (.int seed), some (.int m), some (.int what), none, none, none, none], [.ref 32], σ)) (G := True) (f_X11_season_32_blk9 σ seed m what) trivial ?_
        refine bz_wcv bT_X11_season [.ref 32] (pc' := 43) (rest := []) rfl rfl (Nat.le_of_ble_eq_true rfl) rfl (Nat.le_of_ble_eq_true rfl) rfl (s_X11_keepNow_32 σ) rfl ?_
        generalize hτ1 : f_X11_keepNow_32 σ = τ1
        refine bz_wpn bT_X11_season 4 (b := (49, [some (.ref 32), some (.int seed), some (.int m), some (.int what), some (.int seed), some (.int 0), none, none], [], τ1)) (G := True) (f_X11_season_32_blk10 σ seed m what τ1) trivial ?_
        refine s_lp_mseason m seed what (bz_mm99 (x := m) (by assumption)).choose (bz_mm99 (x := m) (by assumption)).choose_spec.2 (bz_mm99 (x := m) (by assumption)).choose_spec.1 m.toNatClampNeg τ1 seed 0 0 rfl (by rw [congrArg Int32.toNatClampNeg (bz_mm99 (x := m) (by assumption)).choose_spec.2, nI_clamp (by have := (bz_mm99 (x := m) (by assumption)).choose_spec.1; omega)]; omega) (bz_mseed (by assumption)) ?_
        generalize hτ2 : (lp_mseason m m.toNatClampNeg τ1 seed 0) = τ2
        refine bz_wpb bT_X11_season 3 (b1 := (148, [some (.ref 32), some (.int seed), some (.int m), some (.int what), none, none, none, none], [.ref 32], τ2)) (b2 := (141, [some (.ref 32), some (.int seed), some (.int m), some (.int what), none, none, none, none], [.ref 32], τ2)) (C := ¬ what = 0) (G := True) (f_X11_season_32_blk11 σ seed m what τ1 τ2) trivial (fun h4 => ?_) (fun h4 => ?_)
        · skip
          refine bz_wpb bT_X11_season 3 (b1 := (160, [some (.ref 32), some (.int seed), some (.int m), some (.int what), none, none, none, none], [.ref 32], τ2)) (b2 := (153, [some (.ref 32), some (.int seed), some (.int m), some (.int what), none, none, none, none], [.ref 32], τ2)) (C := ¬ what = 1) (G := True) (f_X11_season_32_blk12 σ seed m what τ1 τ2) trivial (fun h5 => ?_) (fun h5 => ?_)
          · skip
            refine bz_wpn bT_X11_season 1 (b := (161, [some (.ref 32), some (.int seed), some (.int m), some (.int what), none, none, none, none], [.ref 32, .ref 32], τ2)) (G := True) (f_X11_season_32_blk13 σ seed m what τ1 τ2) trivial ?_
            refine bz_wci bT_X11_season [.ref 32] (pc' := 164) (rest := [.ref 32]) rfl rfl (Nat.le_of_ble_eq_true rfl) rfl (Nat.le_of_ble_eq_true rfl) rfl (s_X11_downMany_32 τ2) rfl ?_
            refine bz_wci bT_X11_season [.ref 32, .int (f_X11_downMany_32 τ2)] (pc' := 167) (rest := []) rfl rfl (Nat.le_of_ble_eq_true rfl) rfl (Nat.le_of_ble_eq_true rfl) rfl (s_X11_back_32 τ2 (f_X11_downMany_32 τ2)) rfl ?_
            generalize hτ3 : f_X11_back_32 τ2 (f_X11_downMany_32 τ2) = τ3
            refine bz_wpr bT_X11_season rfl rfl trivial ?_
            have e9 : f_X11_season_32 σ seed m what = (τ3.1, τ3.2) := by rw [f_X11_season_32, if_pos (h1), if_pos (h2), if_pos (h3), hτ1, f_X11_season_32_a, hτ2, f_X11_season_32_b, if_neg (h4), if_neg (h5), hτ3, f_X11_season_32_c]
            exact ⟨by rw [e9], by rw [e9]⟩
          · skip
            refine bz_wpn bT_X11_season 3 (b := (164, [some (.ref 32), some (.int seed), some (.int m), some (.int what), none, none, none, none], [.int (τ2.1 32 2), .ref 32], τ2)) (G := True) (f_X11_season_32_blk14 σ seed m what τ1 τ2) trivial ?_
            refine bz_wci bT_X11_season [.ref 32, .int (τ2.1 32 2)] (pc' := 167) (rest := []) rfl rfl (Nat.le_of_ble_eq_true rfl) rfl (Nat.le_of_ble_eq_true rfl) rfl (s_X11_back_32 τ2 (τ2.1 32 2)) rfl ?_
            generalize hτ4 : f_X11_back_32 τ2 (τ2.1 32 2) = τ4
            refine bz_wpr bT_X11_season rfl rfl trivial ?_
            have e9 : f_X11_season_32 σ seed m what = (τ4.1, τ4.2) := by rw [f_X11_season_32, if_pos (h1), if_pos (h2), if_pos (h3), hτ1, f_X11_season_32_a, hτ2, f_X11_season_32_b, if_neg (h4), if_pos ((Decidable.not_not.mp h5)), hτ4, f_X11_season_32_d]
            exact ⟨by rw [e9], by rw [e9]⟩
        · skip
          refine bz_wpn bT_X11_season 3 (b := (164, [some (.ref 32), some (.int seed), some (.int m), some (.int what), none, none, none, none], [.int (τ2.1 32 1), .ref 32], τ2)) (G := True) (f_X11_season_32_blk15 σ seed m what τ1 τ2) trivial ?_
          refine bz_wci bT_X11_season [.ref 32, .int (τ2.1 32 1)] (pc' := 167) (rest := []) rfl rfl (Nat.le_of_ble_eq_true rfl) rfl (Nat.le_of_ble_eq_true rfl) rfl (s_X11_back_32 τ2 (τ2.1 32 1)) rfl ?_
          generalize hτ5 : f_X11_back_32 τ2 (τ2.1 32 1) = τ5
          refine bz_wpr bT_X11_season rfl rfl trivial ?_
          have e9 : f_X11_season_32 σ seed m what = (τ5.1, τ5.2) := by rw [f_X11_season_32, if_pos (h1), if_pos (h2), if_pos (h3), hτ1, f_X11_season_32_a, hτ2, f_X11_season_32_b, if_pos ((Decidable.not_not.mp h4)), hτ5, f_X11_season_32_e]
          exact ⟨by rw [e9], by rw [e9]⟩
      · skip
        have h3 := bz_b0 (Decidable.not_not.mp h3)
        refine bz_wpn bT_X11_season 1 (b := (38, [some (.ref 32), some (.int seed), some (.int m), some (.int what), none, none, none, none], [.int (-2)], σ)) (G := True) (f_X11_season_32_blk16 σ seed m what) trivial ?_
        refine bz_wpr bT_X11_season rfl rfl trivial ?_
        have e9 : f_X11_season_32 σ seed m what = ((-2), σ) := by rw [f_X11_season_32, if_pos (h1), if_pos (h2), if_neg (bz_ff h3)]
        exact ⟨by rw [e9], by rw [e9]⟩
theorem rf_X11_season_32_e (σ : bz_S) (seed : Int32) (m : Int32) (what : Int32) (τ1 : bz_S) (τ2 : bz_S) (τ5 : Int32 × bz_S) (fτ1 : bz_fr [32, 33, 41, 42] σ τ1) (fτ2 : bz_fr [32, 33, 41, 42] σ τ2) (fτ5 : bz_fr [32, 33, 41, 42] σ τ5.2) : bz_fr [32, 33, 41, 42] σ (f_X11_season_32_e σ seed m what τ1 τ2 τ5).2 := by
  unfold f_X11_season_32_e
  exact fτ5
theorem rf_X11_season_32_d (σ : bz_S) (seed : Int32) (m : Int32) (what : Int32) (τ1 : bz_S) (τ2 : bz_S) (τ4 : Int32 × bz_S) (fτ1 : bz_fr [32, 33, 41, 42] σ τ1) (fτ2 : bz_fr [32, 33, 41, 42] σ τ2) (fτ4 : bz_fr [32, 33, 41, 42] σ τ4.2) : bz_fr [32, 33, 41, 42] σ (f_X11_season_32_d σ seed m what τ1 τ2 τ4).2 := by
  unfold f_X11_season_32_d
  exact fτ4
theorem rf_X11_season_32_c (σ : bz_S) (seed : Int32) (m : Int32) (what : Int32) (τ1 : bz_S) (τ2 : bz_S) (τ3 : Int32 × bz_S) (fτ1 : bz_fr [32, 33, 41, 42] σ τ1) (fτ2 : bz_fr [32, 33, 41, 42] σ τ2) (fτ3 : bz_fr [32, 33, 41, 42] σ τ3.2) : bz_fr [32, 33, 41, 42] σ (f_X11_season_32_c σ seed m what τ1 τ2 τ3).2 := by
  unfold f_X11_season_32_c
  exact fτ3
theorem rf_X11_season_32_b (σ : bz_S) (seed : Int32) (m : Int32) (what : Int32) (τ1 : bz_S) (τ2 : bz_S) (fτ1 : bz_fr [32, 33, 41, 42] σ τ1) (fτ2 : bz_fr [32, 33, 41, 42] σ τ2) : bz_fr [32, 33, 41, 42] σ (f_X11_season_32_b σ seed m what τ1 τ2).2 := by
  unfold f_X11_season_32_b
  exact (bz_ite2 (rf_X11_season_32_e σ seed m what τ1 τ2 (f_X11_back_32 τ2 (τ2.1 32 1)) fτ1 fτ2 (bz_fr_tr (τ := τ2) fτ2 (bz_fr_mo (rf_X11_back_32 τ2 (τ2.1 32 1)) (by decide)))) (bz_ite2 (rf_X11_season_32_d σ seed m what τ1 τ2 (f_X11_back_32 τ2 (τ2.1 32 2)) fτ1 fτ2 (bz_fr_tr (τ := τ2) fτ2 (bz_fr_mo (rf_X11_back_32 τ2 (τ2.1 32 2)) (by decide)))) (rf_X11_season_32_c σ seed m what τ1 τ2 (f_X11_back_32 τ2 (f_X11_downMany_32 τ2)) fτ1 fτ2 (bz_fr_tr (τ := τ2) fτ2 (bz_fr_mo (rf_X11_back_32 τ2 (f_X11_downMany_32 τ2)) (by decide))))))
theorem rf_X11_season_32_a (σ : bz_S) (seed : Int32) (m : Int32) (what : Int32) (τ1 : bz_S) (fτ1 : bz_fr [32, 33, 41, 42] σ τ1) : bz_fr [32, 33, 41, 42] σ (f_X11_season_32_a σ seed m what τ1).2 := by
  unfold f_X11_season_32_a
  exact (rf_X11_season_32_b σ seed m what τ1 ((lp_mseason m m.toNatClampNeg τ1 seed 0)) fτ1 (bz_fr_tr (τ := τ1) fτ1 (bz_fr_mo (rlp_mseason m m.toNatClampNeg τ1 seed 0) (by decide))))
theorem rf_X11_season_32 (σ : bz_S) (seed : Int32) (m : Int32) (what : Int32) : bz_fr [32, 33, 41, 42] σ (f_X11_season_32 σ seed m what).2 := by
  unfold f_X11_season_32
  exact (bz_ite2 (bz_ite2 (bz_ite2 (rf_X11_season_32_a σ seed m what (f_X11_keepNow_32 σ) (bz_fr_mo (rf_X11_keepNow_32 σ) (by decide))) bz_fr_rf) bz_fr_rf) bz_fr_rf)
theorem qf_X11_season_32_e (σ : bz_S) (seed : Int32) (m : Int32) (what : Int32) (τ1 : bz_S) (τ2 : bz_S) (τ5 : Int32 × bz_S) (fτ1 : bz_fo [1, 2, 3, 14, 15, 16, 17, 18, 19, 20, 21, 22, 23, 24] σ τ1) (fτ2 : bz_fo [1, 2, 3, 14, 15, 16, 17, 18, 19, 20, 21, 22, 23, 24] σ τ2) (fτ5 : bz_fo [1, 2, 3, 14, 15, 16, 17, 18, 19, 20, 21, 22, 23, 24] σ τ5.2) : bz_fo [1, 2, 3, 14, 15, 16, 17, 18, 19, 20, 21, 22, 23, 24] σ (f_X11_season_32_e σ seed m what τ1 τ2 τ5).2 := by
  unfold f_X11_season_32_e
  exact fτ5
theorem qf_X11_season_32_d (σ : bz_S) (seed : Int32) (m : Int32) (what : Int32) (τ1 : bz_S) (τ2 : bz_S) (τ4 : Int32 × bz_S) (fτ1 : bz_fo [1, 2, 3, 14, 15, 16, 17, 18, 19, 20, 21, 22, 23, 24] σ τ1) (fτ2 : bz_fo [1, 2, 3, 14, 15, 16, 17, 18, 19, 20, 21, 22, 23, 24] σ τ2) (fτ4 : bz_fo [1, 2, 3, 14, 15, 16, 17, 18, 19, 20, 21, 22, 23, 24] σ τ4.2) : bz_fo [1, 2, 3, 14, 15, 16, 17, 18, 19, 20, 21, 22, 23, 24] σ (f_X11_season_32_d σ seed m what τ1 τ2 τ4).2 := by
  unfold f_X11_season_32_d
  exact fτ4
theorem qf_X11_season_32_c (σ : bz_S) (seed : Int32) (m : Int32) (what : Int32) (τ1 : bz_S) (τ2 : bz_S) (τ3 : Int32 × bz_S) (fτ1 : bz_fo [1, 2, 3, 14, 15, 16, 17, 18, 19, 20, 21, 22, 23, 24] σ τ1) (fτ2 : bz_fo [1, 2, 3, 14, 15, 16, 17, 18, 19, 20, 21, 22, 23, 24] σ τ2) (fτ3 : bz_fo [1, 2, 3, 14, 15, 16, 17, 18, 19, 20, 21, 22, 23, 24] σ τ3.2) : bz_fo [1, 2, 3, 14, 15, 16, 17, 18, 19, 20, 21, 22, 23, 24] σ (f_X11_season_32_c σ seed m what τ1 τ2 τ3).2 := by
  unfold f_X11_season_32_c
  exact fτ3
theorem qf_X11_season_32_b (σ : bz_S) (seed : Int32) (m : Int32) (what : Int32) (τ1 : bz_S) (τ2 : bz_S) (fτ1 : bz_fo [1, 2, 3, 14, 15, 16, 17, 18, 19, 20, 21, 22, 23, 24] σ τ1) (fτ2 : bz_fo [1, 2, 3, 14, 15, 16, 17, 18, 19, 20, 21, 22, 23, 24] σ τ2) : bz_fo [1, 2, 3, 14, 15, 16, 17, 18, 19, 20, 21, 22, 23, 24] σ (f_X11_season_32_b σ seed m what τ1 τ2).2 := by
  unfold f_X11_season_32_b
  exact (bz_ite2 (qf_X11_season_32_e σ seed m what τ1 τ2 (f_X11_back_32 τ2 (τ2.1 32 1)) fτ1 fτ2 (bz_fo_tr (τ := τ2) fτ2 (bz_fo_mo (qf_X11_back_32 τ2 (τ2.1 32 1)) (by decide)))) (bz_ite2 (qf_X11_season_32_d σ seed m what τ1 τ2 (f_X11_back_32 τ2 (τ2.1 32 2)) fτ1 fτ2 (bz_fo_tr (τ := τ2) fτ2 (bz_fo_mo (qf_X11_back_32 τ2 (τ2.1 32 2)) (by decide)))) (qf_X11_season_32_c σ seed m what τ1 τ2 (f_X11_back_32 τ2 (f_X11_downMany_32 τ2)) fτ1 fτ2 (bz_fo_tr (τ := τ2) fτ2 (bz_fo_mo (qf_X11_back_32 τ2 (f_X11_downMany_32 τ2)) (by decide))))))
theorem qf_X11_season_32_a (σ : bz_S) (seed : Int32) (m : Int32) (what : Int32) (τ1 : bz_S) (fτ1 : bz_fo [1, 2, 3, 14, 15, 16, 17, 18, 19, 20, 21, 22, 23, 24] σ τ1) : bz_fo [1, 2, 3, 14, 15, 16, 17, 18, 19, 20, 21, 22, 23, 24] σ (f_X11_season_32_a σ seed m what τ1).2 := by
  unfold f_X11_season_32_a
  exact (qf_X11_season_32_b σ seed m what τ1 ((lp_mseason m m.toNatClampNeg τ1 seed 0)) fτ1 (bz_fo_tr (τ := τ1) fτ1 (bz_fo_mo (qlp_mseason m m.toNatClampNeg τ1 seed 0) (by decide))))
theorem qf_X11_season_32 (σ : bz_S) (seed : Int32) (m : Int32) (what : Int32) : bz_fo [1, 2, 3, 14, 15, 16, 17, 18, 19, 20, 21, 22, 23, 24] σ (f_X11_season_32 σ seed m what).2 := by
  unfold f_X11_season_32
  exact (bz_ite2 (bz_ite2 (bz_ite2 (qf_X11_season_32_a σ seed m what (f_X11_keepNow_32 σ) (bz_fo_mo (qf_X11_keepNow_32 σ) (by decide))) bz_fo_rf) bz_fo_rf) bz_fo_rf)
