/-! TOOLS for runs of the small machine -/
def bz_b (p : Bool) : Int32 := bif p then 1 else 0
theorem bz_b0 {p : Bool} (h : bz_b p = 0) : p = false := by cases p with
  | true => exact absurd h (by decide)
  | false => rfl
theorem bz_b1 {p : Bool} (h : ¬ bz_b p = 0) : p = true := by cases p with
  | true => rfl
  | false => exact absurd rfl h
theorem bz_b01 (p : Bool) : bz_b p = 0 ∨ bz_b p = 1 := by cases p <;> simp [bz_b]
/-- answers: an int, a long, none, with a store -/
def bz_pi (r : Int32) (σ : bz_S) : bz_Q := fun v σ' => v = some (.int r) ∧ σ' = σ
def bz_pl (r : Int64) (σ : bz_S) : bz_Q := fun v σ' => v = some (.long r) ∧ σ' = σ
def bz_pv (σ : bz_S) : bz_Q := fun v σ' => v = none ∧ σ' = σ
section TL
variable {X : bz_X} {k : Nat} {Q : bz_Q} {T : List bz_E} {pc pc' : Nat} {L : List (Option Value)} {st rest : List Value} {σ σ1 : bz_S} {j n vk : Nat}
theorem bz_wci (hT : (bz_P k).2.2.2.2.2.2.2 = T) (as : List Value) {r : Int32} (hl : bz_lk T pc = some (.inr (.inl (j, n, vk)))) (hn : as.length = n) (hm : (bz_in0 as).length ≤ (bz_P j).2.2.2.1) (hst : st = as.reverse ++ rest) (hr : bz_cat rest ≤ 8) (hv : bz_rc vk as = true) (hc : bz_C bz_P X j as σ (bz_pi r σ1)) (hp : pc + 3 = pc') (kk : bz_wp bz_P X k Q (pc', L, .int r :: rest, σ1)) : bz_wp bz_P X k Q (pc, L, st, σ) := by
  subst hp
  exact bz_wpc hT as hl hn hm hst hr hv hc (fun v σ' hq => by obtain ⟨rfl, rfl⟩ := hq; exact kk)
theorem bz_wcl (hT : (bz_P k).2.2.2.2.2.2.2 = T) (as : List Value) {r : Int64} (hl : bz_lk T pc = some (.inr (.inl (j, n, vk)))) (hn : as.length = n) (hm : (bz_in0 as).length ≤ (bz_P j).2.2.2.1) (hst : st = as.reverse ++ rest) (hr : bz_cat rest ≤ 8) (hv : bz_rc vk as = true) (hc : bz_C bz_P X j as σ (bz_pl r σ1)) (hp : pc + 3 = pc') (kk : bz_wp bz_P X k Q (pc', L, .long r :: rest, σ1)) : bz_wp bz_P X k Q (pc, L, st, σ) := by
  subst hp
  exact bz_wpc hT as hl hn hm hst hr hv hc (fun v σ' hq => by obtain ⟨rfl, rfl⟩ := hq; exact kk)
theorem bz_wcv (hT : (bz_P k).2.2.2.2.2.2.2 = T) (as : List Value) (hl : bz_lk T pc = some (.inr (.inl (j, n, vk)))) (hn : as.length = n) (hm : (bz_in0 as).length ≤ (bz_P j).2.2.2.1) (hst : st = as.reverse ++ rest) (hr : bz_cat rest ≤ 8) (hv : bz_rc vk as = true) (hc : bz_C bz_P X j as σ (bz_pv σ1)) (hp : pc + 3 = pc') (kk : bz_wp bz_P X k Q (pc', L, rest, σ1)) : bz_wp bz_P X k Q (pc, L, st, σ) := by
  subst hp
  exact bz_wpc hT as hl hn hm hst hr hv hc (fun v σ' hq => by obtain ⟨rfl, rfl⟩ := hq; exact kk)
/-- a call of which the end is only described -/
theorem bz_wcq (hT : (bz_P k).2.2.2.2.2.2.2 = T) (as : List Value) {Qc : bz_Q} (hl : bz_lk T pc = some (.inr (.inl (j, n, vk)))) (hn : as.length = n) (hm : (bz_in0 as).length ≤ (bz_P j).2.2.2.1) (hst : st = as.reverse ++ rest) (hr : bz_cat rest ≤ 8) (hv : bz_rc vk as = true) (hc : bz_C bz_P X j as σ Qc) (hp : pc + 3 = pc') (kk : ∀ v σ', Qc v σ' → bz_wp bz_P X k Q (pc', L, v.toList ++ rest, σ')) : bz_wp bz_P X k Q (pc, L, st, σ) := by
  subst hp
  exact bz_wpc hT as hl hn hm hst hr hv hc kk
end TL
theorem bz_lit {i : Int32} {n : Nat} (h : (!decide (i < 0) && decide (i.toNatClampNeg < n)) = true) : vp_in i n := by
  simp only [Bool.and_eq_true, Bool.not_eq_true', decide_eq_false_iff_not, decide_eq_true_eq] at h
  exact fun z => z.elim h.1 (fun q => absurd h.2 (Nat.not_lt.mpr q))

def bz_lushr_f (x : Int64) (y : Int32) : Int64 := (x.toUInt64 >>> (y.toInt64.toUInt64 &&& Int64.toUInt64 63)).toInt64
def bz_lshl_f (x : Int64) (y : Int32) : Int64 := x <<< (y.toInt64 &&& 63)
/-! frames: what isn't in the list of objects stays -/
def bz_f1 {α : Type} (S : List Nat) (f g : Nat → Nat → α) : Prop := ∀ o, o ∉ S → g o = f o
def bz_fr (S : List Nat) (σ τ : bz_S) : Prop := bz_f1 S σ.1 τ.1 ∧ bz_f1 S σ.2 τ.2
theorem bz_fr_rf {S : List Nat} {σ : bz_S} : bz_fr S σ σ := ⟨fun _ _ => rfl, fun _ _ => rfl⟩
theorem bz_fr_tr {S : List Nat} {σ τ υ : bz_S} (h1 : bz_fr S σ τ) (h2 : bz_fr S τ υ) : bz_fr S σ υ := ⟨fun o ho => (h2.1 o ho).trans (h1.1 o ho), fun o ho => (h2.2 o ho).trans (h1.2 o ho)⟩
theorem bz_fr_mo {S S' : List Nat} {σ τ : bz_S} (h : bz_fr S' σ τ) (hs : ∀ x ∈ S', x ∈ S) : bz_fr S σ τ := ⟨fun o ho => h.1 o (fun z => ho (hs o z)), fun o ho => h.2 o (fun z => ho (hs o z))⟩
theorem bz_f1_up {α : Type} {S : List Nat} {f g : Nat → Nat → α} {o k : Nat} {x : α} (h : bz_f1 S f g) (ho : o ∈ S) : bz_f1 S f (bz_up g o k x) := by
  intro q hq
  rw [← h q hq]
  funext j
  exact bz_up_o (fun z => hq (z ▸ ho))
theorem bz_ite {c : Prop} [Decidable c] {α : Type} {P : α → Prop} {a b : α} (h1 : P a) (h2 : P b) : P (if c then a else b) := by split <;> assumption
theorem bz_ite1 {c : Prop} [Decidable c] {α β : Type} {P : α → Prop} {a b : α × β} (h1 : P a.1) (h2 : P b.1) : P (if c then a else b).1 := by split <;> assumption
theorem bz_ite2 {c : Prop} [Decidable c] {α β : Type} {P : β → Prop} {a b : α × β} (h1 : P a.2) (h2 : P b.2) : P (if c then a else b).2 := by split <;> assumption
/-- a number that doesn't unfold -/
def bz_k (n : Nat) : Nat := if n = 0 then 0 else bz_k (n - 1) + 1
termination_by n
decreasing_by omega
theorem bz_k_eq : ∀ n : Nat, bz_k n = n := by
  intro n
  induction n with
  | zero => rw [bz_k, if_pos rfl]
  | succ n ih => rw [bz_k, if_neg (by omega), Nat.add_sub_cancel, ih]
def bz_X0 : bz_X := (fun _ => 0, 0)
def f_tv0 (k : Nat) : Int32 := bz_tv bz_X0 0 k
def f_tv1 (k : Nat) : Int32 := bz_tv bz_X0 1 k
def f_tv2 (k : Nat) : Int32 := bz_tv bz_X0 2 k
theorem bz_ff {p : Bool} (h : p = false) : ¬ p = true := by rw [h]; decide
theorem bz_and7 (x : Int32) : vp_in (x &&& 7) 8 := by
  have h : (x &&& 7).toBitVec = x.toBitVec &&& 7#32 := rfl
  have h1 : (x.toBitVec &&& 7#32).toNat < 8 := by
    rw [BitVec.toNat_and]
    exact Nat.lt_of_le_of_lt Nat.and_le_right (by decide)
  have h2 : (x &&& 7).toInt = ((x.toBitVec &&& 7#32).toNat : Int) := by
    rw [Int32.toInt, h, BitVec.toInt_eq_toNat_of_lt (by omega)]
  exact vp_in_iff.mpr ⟨by omega, by omega⟩

def f_X10_isWithin (n : Int32) (lo : Int32) (hi : Int32) : Bool := if n < lo then false else (if hi < n then false else true)
set_option maxRecDepth 100000 in
theorem s_X10_isWithin {X : bz_X} (σ : bz_S) (n : Int32) (lo : Int32) (hi : Int32) : bz_C bz_P X mX10_isWithin [.int n, .int lo, .int hi] σ (bz_pi (bz_b (f_X10_isWithin n lo hi)) σ) := by
  show bz_wp bz_P X mX10_isWithin (bz_pi (bz_b (f_X10_isWithin n lo hi)) σ) (0, [some (.int n), some (.int lo), some (.int hi)], [], σ)
  refine bz_wpb bT_X10_isWithin 3 (b1 := (14, [some (.int n), some (.int lo), some (.int hi)], [], σ)) (b2 := (5, [some (.int n), some (.int lo), some (.int hi)], [], σ)) (C := n < lo) (G := True) rfl trivial (fun h1 => ?_) (fun h1 => ?_)
  · skip
    refine bz_wpn bT_X10_isWithin 1 (b := (15, [some (.int n), some (.int lo), some (.int hi)], [.int 0], σ)) (G := True) rfl trivial ?_
    refine bz_wpr bT_X10_isWithin rfl rfl (show (0 : Int32) = 0 ∨ (0 : Int32) = 1 by decide) ?_
    have e9 : f_X10_isWithin n lo hi = false := by rw [f_X10_isWithin, if_pos (h1)]
    exact ⟨by rw [e9]; rfl, rfl⟩
  · skip
    refine bz_wpb bT_X10_isWithin 3 (b1 := (14, [some (.int n), some (.int lo), some (.int hi)], [], σ)) (b2 := (10, [some (.int n), some (.int lo), some (.int hi)], [], σ)) (C := hi < n) (G := True) rfl trivial (fun h2 => ?_) (fun h2 => ?_)
    · skip
      refine bz_wpn bT_X10_isWithin 1 (b := (15, [some (.int n), some (.int lo), some (.int hi)], [.int 0], σ)) (G := True) rfl trivial ?_
      refine bz_wpr bT_X10_isWithin rfl rfl (show (0 : Int32) = 0 ∨ (0 : Int32) = 1 by decide) ?_
      have e9 : f_X10_isWithin n lo hi = false := by rw [f_X10_isWithin, if_neg (h1), if_pos (h2)]
      exact ⟨by rw [e9]; rfl, rfl⟩
    · skip
      refine bz_wpn bT_X10_isWithin 2 (b := (15, [some (.int n), some (.int lo), some (.int hi)], [.int 1], σ)) (G := True) rfl trivial ?_
      refine bz_wpr bT_X10_isWithin rfl rfl (show (1 : Int32) = 0 ∨ (1 : Int32) = 1 by decide) ?_
      have e9 : f_X10_isWithin n lo hi = true := by rw [f_X10_isWithin, if_neg (h1), if_neg (h2)]
      exact ⟨by rw [e9]; rfl, rfl⟩

def f_X10_isBall (b : Int32) : Bool := if b < 0 then false else (if 3 ≤ b then false else true)
set_option maxRecDepth 100000 in
theorem s_X10_isBall {X : bz_X} (σ : bz_S) (b : Int32) : bz_C bz_P X mX10_isBall [.int b] σ (bz_pi (bz_b (f_X10_isBall b)) σ) := by
  show bz_wp bz_P X mX10_isBall (bz_pi (bz_b (f_X10_isBall b)) σ) (0, [some (.int b)], [], σ)
  refine bz_wpb bT_X10_isBall 2 (b1 := (13, [some (.int b)], [], σ)) (b2 := (4, [some (.int b)], [], σ)) (C := b < 0) (G := True) rfl trivial (fun h1 => ?_) (fun h1 => ?_)
  · skip
    refine bz_wpn bT_X10_isBall 1 (b := (14, [some (.int b)], [.int 0], σ)) (G := True) rfl trivial ?_
    refine bz_wpr bT_X10_isBall rfl rfl (show (0 : Int32) = 0 ∨ (0 : Int32) = 1 by decide) ?_
    have e9 : f_X10_isBall b = false := by rw [f_X10_isBall, if_pos (h1)]
    exact ⟨by rw [e9]; rfl, rfl⟩
  · skip
    refine bz_wpb bT_X10_isBall 3 (b1 := (13, [some (.int b)], [], σ)) (b2 := (9, [some (.int b)], [], σ)) (C := 3 ≤ b) (G := True) rfl trivial (fun h2 => ?_) (fun h2 => ?_)
    · skip
      refine bz_wpn bT_X10_isBall 1 (b := (14, [some (.int b)], [.int 0], σ)) (G := True) rfl trivial ?_
      refine bz_wpr bT_X10_isBall rfl rfl (show (0 : Int32) = 0 ∨ (0 : Int32) = 1 by decide) ?_
      have e9 : f_X10_isBall b = false := by rw [f_X10_isBall, if_neg (h1), if_pos (h2)]
      exact ⟨by rw [e9]; rfl, rfl⟩
    · skip
      refine bz_wpn bT_X10_isBall 2 (b := (14, [some (.int b)], [.int 1], σ)) (G := True) rfl trivial ?_
      refine bz_wpr bT_X10_isBall rfl rfl (show (1 : Int32) = 0 ∨ (1 : Int32) = 1 by decide) ?_
      have e9 : f_X10_isBall b = true := by rw [f_X10_isBall, if_neg (h1), if_neg (h2)]
      exact ⟨by rw [e9]; rfl, rfl⟩

def f_X10_isCell (c : Int32) : Bool := f_X10_isWithin c 0 44
set_option maxRecDepth 100000 in
theorem s_X10_isCell {X : bz_X} (σ : bz_S) (c : Int32) : bz_C bz_P X mX10_isCell [.int c] σ (bz_pi (bz_b (f_X10_isCell c)) σ) := by
  show bz_wp bz_P X mX10_isCell (bz_pi (bz_b (f_X10_isCell c)) σ) (0, [some (.int c)], [], σ)
  refine bz_wpn bT_X10_isCell 3 (b := (4, [some (.int c)], [.int 44, .int 0, .int c], σ)) (G := True) rfl trivial ?_
  refine bz_wci bT_X10_isCell [.int c, .int 0, .int 44] (pc' := 7) (rest := []) rfl rfl (Nat.le_of_ble_eq_true rfl) rfl (Nat.le_of_ble_eq_true rfl) rfl (s_X10_isWithin σ c 0 44) rfl ?_
  refine bz_wpr bT_X10_isCell rfl rfl (bz_b01 _) ?_
  have e9 : f_X10_isCell c = f_X10_isWithin c 0 44 := by rw [f_X10_isCell]
  exact ⟨by rw [e9], rfl⟩

def f_X10_isPocket (c : Int32) : Bool := if (c / 9) = 0 then if ((c % 9) % 4) = 0 then true else false else (if (c / 9) = 4 then if ((c % 9) % 4) = 0 then true else false else false)
set_option maxRecDepth 100000 in
theorem s_X10_isPocket {X : bz_X} (σ : bz_S) (c : Int32) : bz_C bz_P X mX10_isPocket [.int c] σ (bz_pi (bz_b (f_X10_isPocket c)) σ) := by
  show bz_wp bz_P X mX10_isPocket (bz_pi (bz_b (f_X10_isPocket c)) σ) (0, [some (.int c), none], [], σ)
  refine bz_wpb bT_X10_isPocket 6 (b1 := (14, [some (.int c), some (.int (c / 9))], [], σ)) (b2 := (9, [some (.int c), some (.int (c / 9))], [], σ)) (C := (c / 9) = 0) (G := ¬ (9 : Int32) = 0 ∧ True) rfl ⟨(by decide), trivial⟩ (fun h1 => ?_) (fun h1 => ?_)
  · skip
    refine bz_wpb bT_X10_isPocket 6 (b1 := (27, [some (.int c), some (.int (c / 9))], [], σ)) (b2 := (23, [some (.int c), some (.int (c / 9))], [], σ)) (C := ¬ ((c % 9) % 4) = 0) (G := ¬ (9 : Int32) = 0 ∧ ¬ (4 : Int32) = 0 ∧ True) rfl ⟨(by decide), (by decide), trivial⟩ (fun h2 => ?_) (fun h2 => ?_)
    · skip
      refine bz_wpn bT_X10_isPocket 1 (b := (28, [some (.int c), some (.int (c / 9))], [.int 0], σ)) (G := True) rfl trivial ?_
      refine bz_wpr bT_X10_isPocket rfl rfl (show (0 : Int32) = 0 ∨ (0 : Int32) = 1 by decide) ?_
      have e9 : f_X10_isPocket c = false := by rw [f_X10_isPocket, if_pos (h1), if_neg (h2)]
      exact ⟨by rw [e9]; rfl, rfl⟩
    · skip
      refine bz_wpn bT_X10_isPocket 2 (b := (28, [some (.int c), some (.int (c / 9))], [.int 1], σ)) (G := True) rfl trivial ?_
      refine bz_wpr bT_X10_isPocket rfl rfl (show (1 : Int32) = 0 ∨ (1 : Int32) = 1 by decide) ?_
      have e9 : f_X10_isPocket c = true := by rw [f_X10_isPocket, if_pos (h1), if_pos ((Decidable.not_not.mp h2))]
      exact ⟨by rw [e9]; rfl, rfl⟩
  · skip
    refine bz_wpb bT_X10_isPocket 3 (b1 := (27, [some (.int c), some (.int (c / 9))], [], σ)) (b2 := (14, [some (.int c), some (.int (c / 9))], [], σ)) (C := ¬ (c / 9) = 4) (G := True) rfl trivial (fun h3 => ?_) (fun h3 => ?_)
    · skip
      refine bz_wpn bT_X10_isPocket 1 (b := (28, [some (.int c), some (.int (c / 9))], [.int 0], σ)) (G := True) rfl trivial ?_
      refine bz_wpr bT_X10_isPocket rfl rfl (show (0 : Int32) = 0 ∨ (0 : Int32) = 1 by decide) ?_
      have e9 : f_X10_isPocket c = false := by rw [f_X10_isPocket, if_neg (h1), if_neg (h3)]
      exact ⟨by rw [e9]; rfl, rfl⟩
    · skip
      refine bz_wpb bT_X10_isPocket 6 (b1 := (27, [some (.int c), some (.int (c / 9))], [], σ)) (b2 := (23, [some (.int c), some (.int (c / 9))], [], σ)) (C := ¬ ((c % 9) % 4) = 0) (G := ¬ (9 : Int32) = 0 ∧ ¬ (4 : Int32) = 0 ∧ True) rfl ⟨(by decide), (by decide), trivial⟩ (fun h4 => ?_) (fun h4 => ?_)
      · skip
        refine bz_wpn bT_X10_isPocket 1 (b := (28, [some (.int c), some (.int (c / 9))], [.int 0], σ)) (G := True) rfl trivial ?_
        refine bz_wpr bT_X10_isPocket rfl rfl (show (0 : Int32) = 0 ∨ (0 : Int32) = 1 by decide) ?_
        have e9 : f_X10_isPocket c = false := by rw [f_X10_isPocket, if_neg (h1), if_pos ((Decidable.not_not.mp h3)), if_neg (h4)]
        exact ⟨by rw [e9]; rfl, rfl⟩
      · skip
        refine bz_wpn bT_X10_isPocket 2 (b := (28, [some (.int c), some (.int (c / 9))], [.int 1], σ)) (G := True) rfl trivial ?_
        refine bz_wpr bT_X10_isPocket rfl rfl (show (1 : Int32) = 0 ∨ (1 : Int32) = 1 by decide) ?_
        have e9 : f_X10_isPocket c = true := by rw [f_X10_isPocket, if_neg (h1), if_pos ((Decidable.not_not.mp h3)), if_pos ((Decidable.not_not.mp h4))]
        exact ⟨by rw [e9]; rfl, rfl⟩

def f_X10_isPlace (c : Int32) : Bool := if f_X10_isCell c = true then if f_X10_isPocket c = true then false else true else false
set_option maxRecDepth 100000 in
theorem s_X10_isPlace {X : bz_X} (σ : bz_S) (c : Int32) : bz_C bz_P X mX10_isPlace [.int c] σ (bz_pi (bz_b (f_X10_isPlace c)) σ) := by
  show bz_wp bz_P X mX10_isPlace (bz_pi (bz_b (f_X10_isPlace c)) σ) (0, [some (.int c)], [], σ)
  refine bz_wpn bT_X10_isPlace 1 (b := (1, [some (.int c)], [.int c], σ)) (G := True) rfl trivial ?_
  refine bz_wci bT_X10_isPlace [.int c] (pc' := 4) (rest := []) rfl rfl (Nat.le_of_ble_eq_true rfl) rfl (Nat.le_of_ble_eq_true rfl) rfl (s_X10_isCell σ c) rfl ?_
  refine bz_wpb bT_X10_isPlace 1 (b1 := (18, [some (.int c)], [], σ)) (b2 := (7, [some (.int c)], [], σ)) (C := bz_b (f_X10_isCell c) = 0) (G := True) rfl trivial (fun h1 => ?_) (fun h1 => ?_)
  · skip
    have h1 := bz_b0 h1
    refine bz_wpn bT_X10_isPlace 1 (b := (19, [some (.int c)], [.int 0], σ)) (G := True) rfl trivial ?_
    refine bz_wpr bT_X10_isPlace rfl rfl (show (0 : Int32) = 0 ∨ (0 : Int32) = 1 by decide) ?_
    have e9 : f_X10_isPlace c = false := by rw [f_X10_isPlace, if_neg (bz_ff h1)]
    exact ⟨by rw [e9]; rfl, rfl⟩
  · skip
    have h1 := bz_b1 h1
    refine bz_wpn bT_X10_isPlace 1 (b := (8, [some (.int c)], [.int c], σ)) (G := True) rfl trivial ?_
    refine bz_wci bT_X10_isPlace [.int c] (pc' := 11) (rest := []) rfl rfl (Nat.le_of_ble_eq_true rfl) rfl (Nat.le_of_ble_eq_true rfl) rfl (s_X10_isPocket σ c) rfl ?_
    refine bz_wpb bT_X10_isPlace 1 (b1 := (18, [some (.int c)], [], σ)) (b2 := (14, [some (.int c)], [], σ)) (C := ¬ bz_b (f_X10_isPocket c) = 0) (G := True) rfl trivial (fun h2 => ?_) (fun h2 => ?_)
    · skip
      have h2 := bz_b1 h2
      refine bz_wpn bT_X10_isPlace 1 (b := (19, [some (.int c)], [.int 0], σ)) (G := True) rfl trivial ?_
      refine bz_wpr bT_X10_isPlace rfl rfl (show (0 : Int32) = 0 ∨ (0 : Int32) = 1 by decide) ?_
      have e9 : f_X10_isPlace c = false := by rw [f_X10_isPlace, if_pos (h1), if_pos (h2)]
      exact ⟨by rw [e9]; rfl, rfl⟩
    · skip
      have h2 := bz_b0 (Decidable.not_not.mp h2)
      refine bz_wpn bT_X10_isPlace 2 (b := (19, [some (.int c)], [.int 1], σ)) (G := True) rfl trivial ?_
      refine bz_wpr bT_X10_isPlace rfl rfl (show (1 : Int32) = 0 ∨ (1 : Int32) = 1 by decide) ?_
      have e9 : f_X10_isPlace c = true := by rw [f_X10_isPlace, if_pos (h1), if_neg (bz_ff h2)]
      exact ⟨by rw [e9]; rfl, rfl⟩

def f_X10_turned (c : Int32) (w : Int32) : Int32 := if ((c / 9) + (f_tv1 ((w &&& 7).toNatClampNeg))) < 0 then if ((c % 9) + (f_tv2 ((w &&& 7).toNatClampNeg))) < 0 then ((8 - ((4 - (w &&& 7)) &&& 7)) &&& 7) else (if ((c % 9) + (f_tv2 ((w &&& 7).toNatClampNeg))) < 9 then ((4 - (w &&& 7)) &&& 7) else ((8 - ((4 - (w &&& 7)) &&& 7)) &&& 7)) else (if ((c / 9) + (f_tv1 ((w &&& 7).toNatClampNeg))) < 5 then if ((c % 9) + (f_tv2 ((w &&& 7).toNatClampNeg))) < 0 then ((8 - (w &&& 7)) &&& 7) else (if ((c % 9) + (f_tv2 ((w &&& 7).toNatClampNeg))) < 9 then (w &&& 7) else ((8 - (w &&& 7)) &&& 7)) else (if ((c % 9) + (f_tv2 ((w &&& 7).toNatClampNeg))) < 0 then ((8 - ((4 - (w &&& 7)) &&& 7)) &&& 7) else (if ((c % 9) + (f_tv2 ((w &&& 7).toNatClampNeg))) < 9 then ((4 - (w &&& 7)) &&& 7) else ((8 - ((4 - (w &&& 7)) &&& 7)) &&& 7))))
set_option maxRecDepth 100000 in
theorem s_X10_turned {X : bz_X} (σ : bz_S) (c : Int32) (w : Int32) : bz_C bz_P X mX10_turned [.int c, .int w] σ (bz_pi (f_X10_turned c w) σ) := by
  show bz_wp bz_P X mX10_turned (bz_pi (f_X10_turned c w) σ) (0, [some (.int c), some (.int w), none, none, none], [], σ)
  refine bz_wpb bT_X10_turned 22 (b1 := (37, [some (.int c), some (.int w), some (.int (w &&& 7)), some (.int ((c / 9) + (f_tv1 ((w &&& 7).toNatClampNeg)))), some (.int ((c % 9) + (f_tv2 ((w &&& 7).toNatClampNeg))))], [], σ)) (b2 := (32, [some (.int c), some (.int w), some (.int (w &&& 7)), some (.int ((c / 9) + (f_tv1 ((w &&& 7).toNatClampNeg)))), some (.int ((c % 9) + (f_tv2 ((w &&& 7).toNatClampNeg))))], [], σ)) (C := ((c / 9) + (f_tv1 ((w &&& 7).toNatClampNeg))) < 0) (G := ¬ (9 : Int32) = 0 ∧ vp_in (w &&& 7) 8 ∧ ¬ (9 : Int32) = 0 ∧ vp_in (w &&& 7) 8 ∧ True) rfl ⟨(by decide), (bz_and7 w), (by decide), (bz_and7 w), trivial⟩ (fun h1 => ?_) (fun h1 => ?_)
  · skip
    refine bz_wpb bT_X10_turned 8 (b1 := (56, [some (.int c), some (.int w), some (.int ((4 - (w &&& 7)) &&& 7)), some (.int ((c / 9) + (f_tv1 ((w &&& 7).toNatClampNeg)))), some (.int ((c % 9) + (f_tv2 ((w &&& 7).toNatClampNeg))))], [], σ)) (b2 := (49, [some (.int c), some (.int w), some (.int ((4 - (w &&& 7)) &&& 7)), some (.int ((c / 9) + (f_tv1 ((w &&& 7).toNatClampNeg)))), some (.int ((c % 9) + (f_tv2 ((w &&& 7).toNatClampNeg))))], [], σ)) (C := ((c % 9) + (f_tv2 ((w &&& 7).toNatClampNeg))) < 0) (G := True) rfl trivial (fun h2 => ?_) (fun h2 => ?_)
    · skip
      refine bz_wpn bT_X10_turned 7 (b := (65, [some (.int c), some (.int w), some (.int ((8 - ((4 - (w &&& 7)) &&& 7)) &&& 7)), some (.int ((c / 9) + (f_tv1 ((w &&& 7).toNatClampNeg)))), some (.int ((c % 9) + (f_tv2 ((w &&& 7).toNatClampNeg))))], [.int ((8 - ((4 - (w &&& 7)) &&& 7)) &&& 7)], σ)) (G := True) rfl trivial ?_
      refine bz_wpr bT_X10_turned rfl rfl trivial ?_
      have e9 : f_X10_turned c w = ((8 - ((4 - (w &&& 7)) &&& 7)) &&& 7) := by rw [f_X10_turned, if_pos (h1), if_pos (h2)]
      exact ⟨by rw [e9], rfl⟩
    · skip
      refine bz_wpb bT_X10_turned 3 (b1 := (64, [some (.int c), some (.int w), some (.int ((4 - (w &&& 7)) &&& 7)), some (.int ((c / 9) + (f_tv1 ((w &&& 7).toNatClampNeg)))), some (.int ((c % 9) + (f_tv2 ((w &&& 7).toNatClampNeg))))], [], σ)) (b2 := (56, [some (.int c), some (.int w), some (.int ((4 - (w &&& 7)) &&& 7)), some (.int ((c / 9) + (f_tv1 ((w &&& 7).toNatClampNeg)))), some (.int ((c % 9) + (f_tv2 ((w &&& 7).toNatClampNeg))))], [], σ)) (C := ((c % 9) + (f_tv2 ((w &&& 7).toNatClampNeg))) < 9) (G := True) rfl trivial (fun h3 => ?_) (fun h3 => ?_)
      · skip
        refine bz_wpn bT_X10_turned 1 (b := (65, [some (.int c), some (.int w), some (.int ((4 - (w &&& 7)) &&& 7)), some (.int ((c / 9) + (f_tv1 ((w &&& 7).toNatClampNeg)))), some (.int ((c % 9) + (f_tv2 ((w &&& 7).toNatClampNeg))))], [.int ((4 - (w &&& 7)) &&& 7)], σ)) (G := True) rfl trivial ?_
        refine bz_wpr bT_X10_turned rfl rfl trivial ?_
        have e9 : f_X10_turned c w = ((4 - (w &&& 7)) &&& 7) := by rw [f_X10_turned, if_pos (h1), if_neg (h2), if_pos (h3)]
        exact ⟨by rw [e9], rfl⟩
      · skip
        refine bz_wpn bT_X10_turned 7 (b := (65, [some (.int c), some (.int w), some (.int ((8 - ((4 - (w &&& 7)) &&& 7)) &&& 7)), some (.int ((c / 9) + (f_tv1 ((w &&& 7).toNatClampNeg)))), some (.int ((c % 9) + (f_tv2 ((w &&& 7).toNatClampNeg))))], [.int ((8 - ((4 - (w &&& 7)) &&& 7)) &&& 7)], σ)) (G := True) rfl trivial ?_
        refine bz_wpr bT_X10_turned rfl rfl trivial ?_
        have e9 : f_X10_turned c w = ((8 - ((4 - (w &&& 7)) &&& 7)) &&& 7) := by rw [f_X10_turned, if_pos (h1), if_neg (h2), if_neg (h3)]
        exact ⟨by rw [e9], rfl⟩
  · skip
    refine bz_wpb bT_X10_turned 3 (b1 := (44, [some (.int c), some (.int w), some (.int (w &&& 7)), some (.int ((c / 9) + (f_tv1 ((w &&& 7).toNatClampNeg)))), some (.int ((c % 9) + (f_tv2 ((w &&& 7).toNatClampNeg))))], [], σ)) (b2 := (37, [some (.int c), some (.int w), some (.int (w &&& 7)), some (.int ((c / 9) + (f_tv1 ((w &&& 7).toNatClampNeg)))), some (.int ((c % 9) + (f_tv2 ((w &&& 7).toNatClampNeg))))], [], σ)) (C := ((c / 9) + (f_tv1 ((w &&& 7).toNatClampNeg))) < 5) (G := True) rfl trivial (fun h4 => ?_) (fun h4 => ?_)
    · skip
      refine bz_wpb bT_X10_turned 2 (b1 := (56, [some (.int c), some (.int w), some (.int (w &&& 7)), some (.int ((c / 9) + (f_tv1 ((w &&& 7).toNatClampNeg)))), some (.int ((c % 9) + (f_tv2 ((w &&& 7).toNatClampNeg))))], [], σ)) (b2 := (49, [some (.int c), some (.int w), some (.int (w &&& 7)), some (.int ((c / 9) + (f_tv1 ((w &&& 7).toNatClampNeg)))), some (.int ((c % 9) + (f_tv2 ((w &&& 7).toNatClampNeg))))], [], σ)) (C := ((c % 9) + (f_tv2 ((w &&& 7).toNatClampNeg))) < 0) (G := True) rfl trivial (fun h5 => ?_) (fun h5 => ?_)
      · skip
        refine bz_wpn bT_X10_turned 7 (b := (65, [some (.int c), some (.int w), some (.int ((8 - (w &&& 7)) &&& 7)), some (.int ((c / 9) + (f_tv1 ((w &&& 7).toNatClampNeg)))), some (.int ((c % 9) + (f_tv2 ((w &&& 7).toNatClampNeg))))], [.int ((8 - (w &&& 7)) &&& 7)], σ)) (G := True) rfl trivial ?_
        refine bz_wpr bT_X10_turned rfl rfl trivial ?_
        have e9 : f_X10_turned c w = ((8 - (w &&& 7)) &&& 7) := by rw [f_X10_turned, if_neg (h1), if_pos (h4), if_pos (h5)]
        exact ⟨by rw [e9], rfl⟩
      · skip
        refine bz_wpb bT_X10_turned 3 (b1 := (64, [some (.int c), some (.int w), some (.int (w &&& 7)), some (.int ((c / 9) + (f_tv1 ((w &&& 7).toNatClampNeg)))), some (.int ((c % 9) + (f_tv2 ((w &&& 7).toNatClampNeg))))], [], σ)) (b2 := (56, [some (.int c), some (.int w), some (.int (w &&& 7)), some (.int ((c / 9) + (f_tv1 ((w &&& 7).toNatClampNeg)))), some (.int ((c % 9) + (f_tv2 ((w &&& 7).toNatClampNeg))))], [], σ)) (C := ((c % 9) + (f_tv2 ((w &&& 7).toNatClampNeg))) < 9) (G := True) rfl trivial (fun h6 => ?_) (fun h6 => ?_)
        · skip
          refine bz_wpn bT_X10_turned 1 (b := (65, [some (.int c), some (.int w), some (.int (w &&& 7)), some (.int ((c / 9) + (f_tv1 ((w &&& 7).toNatClampNeg)))), some (.int ((c % 9) + (f_tv2 ((w &&& 7).toNatClampNeg))))], [.int (w &&& 7)], σ)) (G := True) rfl trivial ?_
          refine bz_wpr bT_X10_turned rfl rfl trivial ?_
          have e9 : f_X10_turned c w = (w &&& 7) := by rw [f_X10_turned, if_neg (h1), if_pos (h4), if_neg (h5), if_pos (h6)]
          exact ⟨by rw [e9], rfl⟩
        · skip
          refine bz_wpn bT_X10_turned 7 (b := (65, [some (.int c), some (.int w), some (.int ((8 - (w &&& 7)) &&& 7)), some (.int ((c / 9) + (f_tv1 ((w &&& 7).toNatClampNeg)))), some (.int ((c % 9) + (f_tv2 ((w &&& 7).toNatClampNeg))))], [.int ((8 - (w &&& 7)) &&& 7)], σ)) (G := True) rfl trivial ?_
          refine bz_wpr bT_X10_turned rfl rfl trivial ?_
          have e9 : f_X10_turned c w = ((8 - (w &&& 7)) &&& 7) := by rw [f_X10_turned, if_neg (h1), if_pos (h4), if_neg (h5), if_neg (h6)]
          exact ⟨by rw [e9], rfl⟩
    · skip
      refine bz_wpb bT_X10_turned 8 (b1 := (56, [some (.int c), some (.int w), some (.int ((4 - (w &&& 7)) &&& 7)), some (.int ((c / 9) + (f_tv1 ((w &&& 7).toNatClampNeg)))), some (.int ((c % 9) + (f_tv2 ((w &&& 7).toNatClampNeg))))], [], σ)) (b2 := (49, [some (.int c), some (.int w), some (.int ((4 - (w &&& 7)) &&& 7)), some (.int ((c / 9) + (f_tv1 ((w &&& 7).toNatClampNeg)))), some (.int ((c % 9) + (f_tv2 ((w &&& 7).toNatClampNeg))))], [], σ)) (C := ((c % 9) + (f_tv2 ((w &&& 7).toNatClampNeg))) < 0) (G := True) rfl trivial (fun h7 => ?_) (fun h7 => ?_)
      · skip
        refine bz_wpn bT_X10_turned 7 (b := (65, [some (.int c), some (.int w), some (.int ((8 - ((4 - (w &&& 7)) &&& 7)) &&& 7)), some (.int ((c / 9) + (f_tv1 ((w &&& 7).toNatClampNeg)))), some (.int ((c % 9) + (f_tv2 ((w &&& 7).toNatClampNeg))))], [.int ((8 - ((4 - (w &&& 7)) &&& 7)) &&& 7)], σ)) (G := True) rfl trivial ?_
        refine bz_wpr bT_X10_turned rfl rfl trivial ?_
        have e9 : f_X10_turned c w = ((8 - ((4 - (w &&& 7)) &&& 7)) &&& 7) := by rw [f_X10_turned, if_neg (h1), if_neg (h4), if_pos (h7)]
        exact ⟨by rw [e9], rfl⟩
      · skip
        refine bz_wpb bT_X10_turned 3 (b1 := (64, [some (.int c), some (.int w), some (.int ((4 - (w &&& 7)) &&& 7)), some (.int ((c / 9) + (f_tv1 ((w &&& 7).toNatClampNeg)))), some (.int ((c % 9) + (f_tv2 ((w &&& 7).toNatClampNeg))))], [], σ)) (b2 := (56, [some (.int c), some (.int w), some (.int ((4 - (w &&& 7)) &&& 7)), some (.int ((c / 9) + (f_tv1 ((w &&& 7).toNatClampNeg)))), some (.int ((c % 9) + (f_tv2 ((w &&& 7).toNatClampNeg))))], [], σ)) (C := ((c % 9) + (f_tv2 ((w &&& 7).toNatClampNeg))) < 9) (G := True) rfl trivial (fun h8 => ?_) (fun h8 => ?_)
        · skip
          refine bz_wpn bT_X10_turned 1 (b := (65, [some (.int c), some (.int w), some (.int ((4 - (w &&& 7)) &&& 7)), some (.int ((c / 9) + (f_tv1 ((w &&& 7).toNatClampNeg)))), some (.int ((c % 9) + (f_tv2 ((w &&& 7).toNatClampNeg))))], [.int ((4 - (w &&& 7)) &&& 7)], σ)) (G := True) rfl trivial ?_
          refine bz_wpr bT_X10_turned rfl rfl trivial ?_
          have e9 : f_X10_turned c w = ((4 - (w &&& 7)) &&& 7) := by rw [f_X10_turned, if_neg (h1), if_neg (h4), if_neg (h7), if_pos (h8)]
          exact ⟨by rw [e9], rfl⟩
        · skip
          refine bz_wpn bT_X10_turned 7 (b := (65, [some (.int c), some (.int w), some (.int ((8 - ((4 - (w &&& 7)) &&& 7)) &&& 7)), some (.int ((c / 9) + (f_tv1 ((w &&& 7).toNatClampNeg)))), some (.int ((c % 9) + (f_tv2 ((w &&& 7).toNatClampNeg))))], [.int ((8 - ((4 - (w &&& 7)) &&& 7)) &&& 7)], σ)) (G := True) rfl trivial ?_
          refine bz_wpr bT_X10_turned rfl rfl trivial ?_
          have e9 : f_X10_turned c w = ((8 - ((4 - (w &&& 7)) &&& 7)) &&& 7) := by rw [f_X10_turned, if_neg (h1), if_neg (h4), if_neg (h7), if_neg (h8)]
          exact ⟨by rw [e9], rfl⟩

def f_X10_next (c : Int32) (w : Int32) : Int32 := ((c + (9 * (f_tv1 ((w &&& 7).toNatClampNeg)))) + (f_tv2 ((w &&& 7).toNatClampNeg)))
set_option maxRecDepth 100000 in
theorem s_X10_next {X : bz_X} (σ : bz_S) (c : Int32) (w : Int32) : bz_C bz_P X mX10_next [.int c, .int w] σ (bz_pi (f_X10_next c w) σ) := by
  show bz_wp bz_P X mX10_next (bz_pi (f_X10_next c w) σ) (0, [some (.int c), some (.int w)], [], σ)
  refine bz_wpn bT_X10_next 15 (b := (22, [some (.int c), some (.int w)], [.int ((c + (9 * (f_tv1 ((w &&& 7).toNatClampNeg)))) + (f_tv2 ((w &&& 7).toNatClampNeg)))], σ)) (G := vp_in (w &&& 7) 8 ∧ vp_in (w &&& 7) 8 ∧ True) rfl ⟨(bz_and7 w), (bz_and7 w), trivial⟩ ?_
  refine bz_wpr bT_X10_next rfl rfl trivial ?_
  have e9 : f_X10_next c w = ((c + (9 * (f_tv1 ((w &&& 7).toNatClampNeg)))) + (f_tv2 ((w &&& 7).toNatClampNeg))) := by rw [f_X10_next]
  exact ⟨by rw [e9], rfl⟩

def f_X11_isPocket (c : Int32) : Bool := if (c / 9) = 0 then if ((c % 9) % 4) = 0 then true else false else (if (c / 9) = 4 then if ((c % 9) % 4) = 0 then true else false else false)
set_option maxRecDepth 100000 in
theorem s_X11_isPocket {X : bz_X} (σ : bz_S) (c : Int32) : bz_C bz_P X mX11_isPocket [.int c] σ (bz_pi (bz_b (f_X11_isPocket c)) σ) := by
  show bz_wp bz_P X mX11_isPocket (bz_pi (bz_b (f_X11_isPocket c)) σ) (0, [some (.int c)], [], σ)
  refine bz_wpb bT_X11_isPocket 4 (b1 := (15, [some (.int c)], [], σ)) (b2 := (7, [some (.int c)], [], σ)) (C := (c / 9) = 0) (G := ¬ (9 : Int32) = 0 ∧ True) rfl ⟨(by decide), trivial⟩ (fun h1 => ?_) (fun h1 => ?_)
  · skip
    refine bz_wpb bT_X11_isPocket 6 (b1 := (28, [some (.int c)], [], σ)) (b2 := (24, [some (.int c)], [], σ)) (C := ¬ ((c % 9) % 4) = 0) (G := ¬ (9 : Int32) = 0 ∧ ¬ (4 : Int32) = 0 ∧ True) rfl ⟨(by decide), (by decide), trivial⟩ (fun h2 => ?_) (fun h2 => ?_)
    · skip
      refine bz_wpn bT_X11_isPocket 1 (b := (29, [some (.int c)], [.int 0], σ)) (G := True) rfl trivial ?_
      refine bz_wpr bT_X11_isPocket rfl rfl (show (0 : Int32) = 0 ∨ (0 : Int32) = 1 by decide) ?_
      have e9 : f_X11_isPocket c = false := by rw [f_X11_isPocket, if_pos (h1), if_neg (h2)]
      exact ⟨by rw [e9]; rfl, rfl⟩
    · skip
      refine bz_wpn bT_X11_isPocket 2 (b := (29, [some (.int c)], [.int 1], σ)) (G := True) rfl trivial ?_
      refine bz_wpr bT_X11_isPocket rfl rfl (show (1 : Int32) = 0 ∨ (1 : Int32) = 1 by decide) ?_
      have e9 : f_X11_isPocket c = true := by rw [f_X11_isPocket, if_pos (h1), if_pos ((Decidable.not_not.mp h2))]
      exact ⟨by rw [e9]; rfl, rfl⟩
  · skip
    refine bz_wpb bT_X11_isPocket 5 (b1 := (28, [some (.int c)], [], σ)) (b2 := (15, [some (.int c)], [], σ)) (C := ¬ (c / 9) = 4) (G := ¬ (9 : Int32) = 0 ∧ True) rfl ⟨(by decide), trivial⟩ (fun h3 => ?_) (fun h3 => ?_)
    · skip
      refine bz_wpn bT_X11_isPocket 1 (b := (29, [some (.int c)], [.int 0], σ)) (G := True) rfl trivial ?_
      refine bz_wpr bT_X11_isPocket rfl rfl (show (0 : Int32) = 0 ∨ (0 : Int32) = 1 by decide) ?_
      have e9 : f_X11_isPocket c = false := by rw [f_X11_isPocket, if_neg (h1), if_neg (h3)]
      exact ⟨by rw [e9]; rfl, rfl⟩
    · skip
      refine bz_wpb bT_X11_isPocket 6 (b1 := (28, [some (.int c)], [], σ)) (b2 := (24, [some (.int c)], [], σ)) (C := ¬ ((c % 9) % 4) = 0) (G := ¬ (9 : Int32) = 0 ∧ ¬ (4 : Int32) = 0 ∧ True) rfl ⟨(by decide), (by decide), trivial⟩ (fun h4 => ?_) (fun h4 => ?_)
      · skip
        refine bz_wpn bT_X11_isPocket 1 (b := (29, [some (.int c)], [.int 0], σ)) (G := True) rfl trivial ?_
        refine bz_wpr bT_X11_isPocket rfl rfl (show (0 : Int32) = 0 ∨ (0 : Int32) = 1 by decide) ?_
        have e9 : f_X11_isPocket c = false := by rw [f_X11_isPocket, if_neg (h1), if_pos ((Decidable.not_not.mp h3)), if_neg (h4)]
        exact ⟨by rw [e9]; rfl, rfl⟩
      · skip
        refine bz_wpn bT_X11_isPocket 2 (b := (29, [some (.int c)], [.int 1], σ)) (G := True) rfl trivial ?_
        refine bz_wpr bT_X11_isPocket rfl rfl (show (1 : Int32) = 0 ∨ (1 : Int32) = 1 by decide) ?_
        have e9 : f_X11_isPocket c = true := by rw [f_X11_isPocket, if_neg (h1), if_pos ((Decidable.not_not.mp h3)), if_pos ((Decidable.not_not.mp h4))]
        exact ⟨by rw [e9]; rfl, rfl⟩
