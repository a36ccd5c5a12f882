/-! THE SMALL MACHINE: a pure reading of the bytecode over a fixed stock of objects, and that the kit's machine follows it -/
-- stores: the int fields and elements, the long fields and elements, by object and place
abbrev bz_S : Type := (Nat → Nat → Int32) × (Nat → Nat → Int64)
-- the script: what it holds, how long it is
abbrev bz_X : Type := (Nat → Int32) × Nat
-- a place: pc, locals, stack, store
abbrev bz_A : Type := Nat × List (Option Value) × List Value × bz_S
abbrev bz_Op : Type := bz_X → Nat → List (Option Value) → List Value → bz_S → Option (Option Prop × bz_A)
-- a row of a method: its pc, and an operation, or a call (of which, with how many words, the receiver's class and 1, or 0), or an answer (0 none, 1 int, 2 long, 3 boolean)
abbrev bz_E : Type := Nat × (bz_Op ⊕ (Nat × Nat × Nat) ⊕ Nat)
-- the stock: (0, number of its class, where its reference fields lead) or (1, kind of array, [length ..])
abbrev bz_Sh : Type := Nat × Nat × List Nat
def bz_up {α : Type} (f : Nat → Nat → α) (o k : Nat) (x : α) : Nat → Nat → α := fun o' k' => if o' = o ∧ k' = k then x else f o' k'
theorem bz_up_s {α : Type} {f : Nat → Nat → α} {o k : Nat} {x : α} : bz_up f o k x o k = x := by simp [bz_up]
theorem bz_up_o {α : Type} {f : Nat → Nat → α} {o k o' k' : Nat} {x : α} (h : o' ≠ o) : bz_up f o k x o' k' = f o' k' := by simp [bz_up, h]
theorem bz_up_k {α : Type} {f : Nat → Nat → α} {o k o' k' : Nat} {x : α} (h : k' ≠ k) : bz_up f o k x o' k' = f o' k' := by simp [bz_up, h]
-- kinds of the fields of each class: 0 int, 1 long, 2 reference, 3 boolean
def bz_fk : Nat → List Nat
  | 0 => [2, 3]
  | 1 => [2, 2, 3]
  | 2 => [2, 0]
  | 3 => [2, 2, 0]
  | 4 => [0, 0, 0, 0, 0, 0, 0]
  | 5 => [2, 0, 0, 0]
  | 6 => [2, 0, 1]
  | 7 => [2, 2, 0, 0, 0, 0, 0, 0]
  | 8 => [2, 0, 0, 0, 2]
  | 9 => [2, 2, 2, 2, 2, 2, 2, 2]
  | 10 => [2, 0, 0, 0, 2, 2, 0, 2, 0, 2, 2, 2, 2, 0, 0, 0, 0, 0, 0, 0, 0, 0, 0, 0, 0, 2, 2, 0, 0, 0, 2, 2, 2, 2, 0, 2, 2, 2, 2, 2, 0, 3]
  | _ => []
def bz_sh : List bz_Sh := [(0, 9, [1, 3, 6, 8, 12, 14, 17, 19]),
  (0, 5, [2]), (1, 0, [3]), (0, 3, [4, 5]), (1, 0, [8]), (1, 0, [8]), (0, 2, [7]), (1, 0, [60]),
  (0, 7, [9, 11]), (0, 5, [10]), (1, 0, [3]), (0, 4, []), (0, 6, [13]), (1, 0, [16]), (0, 8, [15, 0, 0, 0, 16]), (1, 0, [360]), (1, 0, [720]),
  (0, 0, [18]), (1, 0, [100]), (1, 3, [2, 20, 26]),
  (0, 1, [21, 23]), (0, 5, [22]), (1, 0, [3]), (0, 3, [24, 25]), (1, 0, [8]), (1, 0, [8]),
  (0, 1, [27, 29]), (0, 5, [28]), (1, 0, [3]), (0, 3, [30, 31]), (1, 0, [8]), (1, 0, [8]),
  (0, 10, [33, 0, 0, 0, 34, 35, 0, 36, 0, 37, 38, 39, 40, 0, 0, 0, 0, 0, 0, 0, 0, 0, 0, 0, 0, 41, 42, 0, 0, 0, 43, 44, 45, 46, 0, 47, 48, 49, 50, 51]),
  (1, 0, [3]), (1, 0, [8]), (1, 0, [8]), (1, 0, [60]), (1, 0, [60]), (1, 0, [60]), (1, 0, [60]), (1, 0, [60]), (1, 0, [3]), (1, 0, [6]), (1, 2, [45]), (1, 0, [45]),
  (1, 0, [360]), (1, 0, [360]), (1, 0, [45]), (1, 2, [2000]), (1, 1, [81]), (1, 0, [60]), (1, 2, [2])]
-- the static tables and the script: 1000 first cells, 1001 row steps, 1002 column steps, 1003 the script
def bz_tn (X : bz_X) : Nat → Nat
  | 0 => 3
  | 1 => 8
  | 2 => 8
  | _ => X.2
def bz_tv (X : bz_X) : Nat → Nat → Int32
  | 0 => fun k => [(10 : Int32), 16, 24].getD k 0
  | 1 => fun k => [(-1 : Int32), -1, 0, 1, 1, 1, 0, -1].getD k 0
  | 2 => fun k => [(0 : Int32), 1, 1, 1, 0, -1, -1, -1].getD k 0
  | _ => X.1
def bz_isO (o ci : Nat) : Bool := match bz_sh[o]? with
  | some (0, c, _) => Nat.beq c ci
  | _ => false
def bz_isA (o ty : Nat) : Option Nat := match bz_sh[o]? with
  | some (1, t, n :: _) => bif Nat.beq t ty then some n else none
  | _ => none
def bz_ref (o k : Nat) : Nat := match bz_sh[o]? with
  | some (0, _, r) => r.getD k 0
  | some (_, _, _ :: r) => r.getD k 0
  | _ => 0
-- ===== operations =====
def bz_push (v : Value) (len : Nat) : bz_Op := fun _ pc L st σ => some (none, pc + len, L, v :: st, σ)
def bz_iload (i len : Nat) : bz_Op := fun _ pc L st σ => match L[i]? with
  | some (some (.int x)) => some (none, pc + len, L, .int x :: st, σ)
  | _ => none
def bz_lload (i len : Nat) : bz_Op := fun _ pc L st σ => match L[i]? with
  | some (some (.long x)) => some (none, pc + len, L, .long x :: st, σ)
  | _ => none
def bz_aload (i len : Nat) : bz_Op := fun _ pc L st σ => match L[i]? with
  | some (some (.ref x)) => some (none, pc + len, L, .ref x :: st, σ)
  | _ => none
def bz_kl (L : List (Option Value)) (i : Nat) : List (Option Value) := match i with
  | 0 => L
  | j + 1 => match L[j]? with
    | some (some (.long _)) => L.set j none
    | some (some (.double _)) => L.set j none
    | _ => L
def bz_istore (i len : Nat) : bz_Op := fun _ pc L st σ => match st with
  | .int x :: r => bif Nat.blt i L.length then some (none, pc + len, (bz_kl L i).set i (some (.int x)), r, σ) else none
  | _ => none
def bz_lstore (i len : Nat) : bz_Op := fun _ pc L st σ => match st with
  | .long x :: r => bif Nat.blt (i + 1) L.length then some (none, pc + len, ((bz_kl L i).set i (some (.long x))).set (i + 1) none, r, σ) else none
  | _ => none
def bz_iinc (i : Nat) (n : Int32) : bz_Op := fun _ pc L st σ => match L[i]? with
  | some (some (.int x)) => some (none, pc + 3, (bz_kl L i).set i (some (.int (x + n))), st, σ)
  | _ => none
def bz_ii (f : Int32 → Int32 → Int32) : bz_Op := fun _ pc L st σ => match st with
  | .int y :: .int x :: r => some (none, pc + 1, L, .int (f x y) :: r, σ)
  | _ => none
def bz_ig (f : Int32 → Int32 → Int32) : bz_Op := fun _ pc L st σ => match st with
  | .int y :: .int x :: r => some (some (¬ y = 0), pc + 1, L, .int (f x y) :: r, σ)
  | _ => none
def bz_ll (f : Int64 → Int64 → Int64) : bz_Op := fun _ pc L st σ => match st with
  | .long y :: .long x :: r => some (none, pc + 1, L, .long (f x y) :: r, σ)
  | _ => none
def bz_lg (f : Int64 → Int64 → Int64) : bz_Op := fun _ pc L st σ => match st with
  | .long y :: .long x :: r => some (some (¬ y = 0), pc + 1, L, .long (f x y) :: r, σ)
  | _ => none
def bz_li (f : Int64 → Int32 → Int64) : bz_Op := fun _ pc L st σ => match st with
  | .int y :: .long x :: r => some (none, pc + 1, L, .long (f x y) :: r, σ)
  | _ => none
def bz_i2l : bz_Op := fun _ pc L st σ => match st with
  | .int x :: r => some (none, pc + 1, L, .long x.toInt64 :: r, σ)
  | _ => none
def bz_l2i : bz_Op := fun _ pc L st σ => match st with
  | .long x :: r => some (none, pc + 1, L, .int x.toInt32 :: r, σ)
  | _ => none
def bz_lcmp : bz_Op := fun _ pc L st σ => match st with
  | .long y :: .long x :: r => some (none, pc + 1, L, .int (lg_cmp x y) :: r, σ)
  | _ => none
def bz_dup : bz_Op := fun _ pc L st σ => match st with
  | .int x :: r => some (none, pc + 1, L, .int x :: .int x :: r, σ)
  | .ref x :: r => some (none, pc + 1, L, .ref x :: .ref x :: r, σ)
  | _ => none
def bz_pop1 : bz_Op := fun _ pc L st σ => match st with
  | .int _ :: r => some (none, pc + 1, L, r, σ)
  | _ => none
def bz_dup2 : bz_Op := fun _ pc L st σ => match st with
  | .int x :: .ref y :: r => some (none, pc + 1, L, .int x :: .ref y :: .int x :: .ref y :: r, σ)
  | _ => none
def bz_goto (t : Nat) : bz_Op := fun _ _ L st σ => some (none, t, L, st, σ)
def bz_ifi (f : Int32 → Prop) (d : ∀ x, Decidable (f x)) (t : Nat) : bz_Op := fun _ pc L st σ => match st with
  | .int x :: r => some (none, @ite _ (f x) (d x) (t, L, r, σ) (pc + 3, L, r, σ))
  | _ => none
def bz_icm (f : Int32 → Int32 → Prop) (d : ∀ x y, Decidable (f x y)) (t : Nat) : bz_Op := fun _ pc L st σ => match st with
  | .int y :: .int x :: r => some (none, @ite _ (f x y) (d x y) (t, L, r, σ) (pc + 3, L, r, σ))
  | _ => none
def bz_sw (x : Int) : List (Int × Nat) → Nat → Nat
  | [], d => d
  | (k, t) :: r, d => if x = k then t else bz_sw x r d
def bz_switch (cs : List (Int × Nat)) (d : Nat) : bz_Op := fun _ _ L st σ => match st with
  | .int x :: r => some (none, bz_sw x.toInt cs d, L, r, σ)
  | _ => none
def bz_getI (ci k : Nat) : bz_Op := fun _ pc L st σ => match st with
  | .ref o :: r => bif bz_isO o ci then some (none, pc + 3, L, .int (σ.1 o k) :: r, σ) else none
  | _ => none
def bz_getL (ci k : Nat) : bz_Op := fun _ pc L st σ => match st with
  | .ref o :: r => bif bz_isO o ci then some (none, pc + 3, L, .long (σ.2 o k) :: r, σ) else none
  | _ => none
def bz_getR (ci k : Nat) : bz_Op := fun _ pc L st σ => match st with
  | .ref o :: r => bif bz_isO o ci then some (none, pc + 3, L, .ref (bz_ref o k) :: r, σ) else none
  | _ => none
def bz_putI (ci k : Nat) : bz_Op := fun _ pc L st σ => match st with
  | .int x :: .ref o :: r => bif bz_isO o ci then some (none, pc + 3, L, r, (bz_up σ.1 o k x, σ.2)) else none
  | _ => none
def bz_putZ (ci k : Nat) : bz_Op := fun _ pc L st σ => match st with
  | .int x :: .ref o :: r => bif bz_isO o ci then some (some (x = 0 ∨ x = 1), pc + 3, L, r, (bz_up σ.1 o k x, σ.2)) else none
  | _ => none
def bz_putL (ci k : Nat) : bz_Op := fun _ pc L st σ => match st with
  | .long x :: .ref o :: r => bif bz_isO o ci then some (none, pc + 3, L, r, (σ.1, bz_up σ.2 o k x)) else none
  | _ => none
def bz_iald : bz_Op := fun X pc L st σ => match st with
  | .int i :: .ref o :: r => bif Nat.blt o 1000 then (match bz_isA o 0 with
    | some n => some (some (vp_in i n), pc + 1, L, .int (σ.1 o i.toNatClampNeg) :: r, σ)
    | none => none) else (bif Nat.blt o 1004 then some (some (vp_in i (bz_tn X (o - 1000))), pc + 1, L, .int (bz_tv X (o - 1000) i.toNatClampNeg) :: r, σ) else none)
  | _ => none
def bz_iast : bz_Op := fun _ pc L st σ => match st with
  | .int x :: .int i :: .ref o :: r => (match bz_isA o 0 with
    | some n => some (some (vp_in i n), pc + 1, L, r, (bz_up σ.1 o i.toNatClampNeg x, σ.2))
    | none => none)
  | _ => none
def bz_zald : bz_Op := fun _ pc L st σ => match st with
  | .int i :: .ref o :: r => (match bz_isA o 2 with
    | some n => some (some (vp_in i n), pc + 1, L, .int (σ.1 o i.toNatClampNeg) :: r, σ)
    | none => none)
  | _ => none
def bz_zast : bz_Op := fun _ pc L st σ => match st with
  | .int x :: .int i :: .ref o :: r => (match bz_isA o 2 with
    | some n => some (some (vp_in i n ∧ (x = 0 ∨ x = 1)), pc + 1, L, r, (bz_up σ.1 o i.toNatClampNeg x, σ.2))
    | none => none)
  | _ => none
def bz_lald : bz_Op := fun _ pc L st σ => match st with
  | .int i :: .ref o :: r => (match bz_isA o 1 with
    | some n => some (some (vp_in i n), pc + 1, L, .long (σ.2 o i.toNatClampNeg) :: r, σ)
    | none => none)
  | _ => none
def bz_last : bz_Op := fun _ pc L st σ => match st with
  | .long x :: .int i :: .ref o :: r => (match bz_isA o 1 with
    | some n => some (some (vp_in i n), pc + 1, L, r, (σ.1, bz_up σ.2 o i.toNatClampNeg x))
    | none => none)
  | _ => none
def bz_aald : bz_Op := fun _ pc L st σ => match st with
  | .int i :: .ref o :: r => (match bz_isA o 3 with
    | some n => some (some (vp_in i n), pc + 1, L, .ref (bz_ref o i.toNatClampNeg) :: r, σ)
    | none => none)
  | _ => none
def bz_slen : bz_Op := fun X pc L st σ => match st with
  | .ref o :: r => bif Nat.beq o 1003 then some (none, pc + 1, L, .int (nI X.2) :: r, σ) else none
  | _ => none
-- ===== runs =====
def bz_lk : List bz_E → Nat → Option (bz_Op ⊕ (Nat × Nat × Nat) ⊕ Nat)
  | [], _ => none
  | q :: r, pc => bif Nat.beq q.1 pc then some q.2 else bz_lk r pc
def bz_st1 (X : bz_X) (T : List bz_E) (a : bz_A) : Option (Option Prop × bz_A) := match bz_lk T a.1 with
  | some (.inl f) => f X a.1 a.2.1 a.2.2.1 a.2.2.2
  | _ => none
def bz_and (g : Option Prop) (G : Prop) : Prop := match g with
  | none => G
  | some p => p ∧ G
def bz_run (X : bz_X) (T : List bz_E) : Nat → bz_A → Option (Prop × bz_A)
  | 0, a => some (True, a)
  | n + 1, a => match bz_st1 X T a with
    | some (g, a') => match bz_run X T n a' with
      | some (G, b) => some (bz_and g G, b)
      | none => none
    | none => none
-- what an answer of a kind leaves
def bz_rv : Nat → List Value → Option (Option Value)
  | 0, [] => some none
  | 1, [.int x] => some (some (.int x))
  | 2, [.long x] => some (some (.long x))
  | 3, [.int x] => some (some (.int x))
  | _, _ => none
def bz_rg : Nat → List Value → Prop
  | 3, [.int x] => x = 0 ∨ x = 1
  | _, _ => True
-- a receiver of the class
def bz_rc (vk : Nat) (as : List Value) : Bool := match vk with
  | 0 => true
  | ci + 1 => match as with
    | .ref o :: _ => bz_isO o ci
    | _ => false
-- the locals at a method's start
def bz_in0 : List Value → List (Option Value)
  | [] => []
  | .long x :: r => some (.long x) :: none :: bz_in0 r
  | .double x :: r => some (.double x) :: none :: bz_in0 r
  | v :: r => some v :: bz_in0 r
def bz_in (n : Nat) (as : List Value) : List (Option Value) := bz_in0 as ++ List.replicate (n - (bz_in0 as).length) none
def bz_le : List (Option Value) → List (Option Value) → Prop
  | [], [] => True
  | none :: a, _ :: b => bz_le a b
  | some x :: a, some y :: b => x = y ∧ bz_le a b
  | _, _ => False
abbrev bz_Q : Type := Option Value → bz_S → Prop
-- a method: its class's name, its name, bytes, number of locals, answer, room (frames, locals), rows
abbrev bz_M : Type := String × MethodName × ByteArray × Nat × Option FieldType × Nat × Nat × List bz_E
def bz_cat (st : List Value) : Nat := (st.map fun v => v.category).sum
def bz_Cl (P : Nat → bz_M) (X : bz_X) (Z : Nat → bz_Q → bz_A → Prop) : Prop :=
  (∀ k Q a g b, bz_st1 X (P k).2.2.2.2.2.2.2 a = some (g, b) → bz_and g True → Z k Q b → Z k Q a) ∧
  (∀ k Q L L' pc st σ, bz_le L' L → Z k Q (pc, L', st, σ) → Z k Q (pc, L, st, σ)) ∧
  (∀ k Q pc L as rest σ j n vk Qc, bz_lk (P k).2.2.2.2.2.2.2 pc = some (.inr (.inl (j, n, vk))) → as.length = n → (bz_in0 as).length ≤ (P j).2.2.2.1 → bz_cat rest ≤ 8 → bz_rc vk as = true → Z j Qc (0, bz_in (P j).2.2.2.1 as, [], σ) → (∀ v σ', Qc v σ' → Z k Q (pc + 3, L, v.toList ++ rest, σ')) → Z k Q (pc, L, as.reverse ++ rest, σ)) ∧
  (∀ (k : Nat) (Q : bz_Q) pc L st σ j v, bz_lk (P k).2.2.2.2.2.2.2 pc = some (.inr (.inr j)) → bz_rv j st = some v → bz_rg j st → Q v σ → Z k Q (pc, L, st, σ)) ∧
  (∀ (k : Nat) (Q Q' : bz_Q) a, (∀ v σ, Q v σ → Q' v σ) → Z k Q a → Z k Q' a)
def bz_wp (P : Nat → bz_M) (X : bz_X) (k : Nat) (Q : bz_Q) (a : bz_A) : Prop := ∀ Z, bz_Cl P X Z → Z k Q a
section PW
variable {P : Nat → bz_M} {X : bz_X} {k : Nat} {Q : bz_Q}
theorem bz_wp1 {a b : bz_A} {g : Option Prop} (h : bz_st1 X (P k).2.2.2.2.2.2.2 a = some (g, b)) (hg : bz_and g True) (w : bz_wp P X k Q b) : bz_wp P X k Q a := fun Z hZ => hZ.1 k Q a g b h hg (w Z hZ)
theorem bz_and_1 {g : Option Prop} {G : Prop} (h : bz_and g G) : bz_and g True ∧ G := by
  cases g with
  | none => exact ⟨trivial, h⟩
  | some p => exact ⟨⟨h.1, trivial⟩, h.2⟩
theorem bz_wpn' (n : Nat) : ∀ {a b : bz_A} {G : Prop}, bz_run X (P k).2.2.2.2.2.2.2 n a = some (G, b) → G → bz_wp P X k Q b → bz_wp P X k Q a := by
  induction n with
  | zero =>
    intro a b G h hG w
    simp only [bz_run, Option.some.injEq, Prod.mk.injEq] at h
    rw [h.2]; exact w
  | succ n ih =>
    intro a b G h hG w
    simp only [bz_run] at h
    split at h
    · rename_i g a' h1
      split at h
      · rename_i G' b' h2
        simp only [Option.some.injEq, Prod.mk.injEq] at h
        obtain ⟨rfl, rfl⟩ := h
        obtain ⟨hg, hG'⟩ := bz_and_1 hG
        exact bz_wp1 h1 hg (ih h2 hG' w)
      · cases h
    · cases h
/-- n steps at once -/
theorem bz_wpn {T : List bz_E} (hT : (P k).2.2.2.2.2.2.2 = T) (n : Nat) {a b : bz_A} {G : Prop} (h : bz_run X T n a = some (G, b)) (hG : G) (w : bz_wp P X k Q b) : bz_wp P X k Q a := by
  subst hT; exact bz_wpn' n h hG w
/-- n steps, the last of them a branch -/
theorem bz_wpb {T : List bz_E} (hT : (P k).2.2.2.2.2.2.2 = T) (n : Nat) {a b1 b2 : bz_A} {G C : Prop} {d : Decidable C} (h : bz_run X T n a = some (G, @ite _ C d b1 b2)) (hG : G) (w1 : C → bz_wp P X k Q b1) (w2 : ¬ C → bz_wp P X k Q b2) : bz_wp P X k Q a := by
  refine bz_wpn hT n h hG ?_
  cases d with
  | isTrue hc => exact w1 hc
  | isFalse hc => exact w2 hc
theorem bz_wpw {L L' : List (Option Value)} {pc : Nat} {st : List Value} {σ : bz_S} (hl : bz_le L' L) (w : bz_wp P X k Q (pc, L', st, σ)) : bz_wp P X k Q (pc, L, st, σ) := fun Z hZ => hZ.2.1 k Q L L' pc st σ hl (w Z hZ)
theorem bz_wpc {T : List bz_E} (hT : (P k).2.2.2.2.2.2.2 = T) {pc : Nat} {L : List (Option Value)} {st rest : List Value} {σ : bz_S} {j n vk : Nat} (as : List Value) {Qc : bz_Q} (hl : bz_lk T pc = some (.inr (.inl (j, n, vk)))) (hn : as.length = n) (hm : (bz_in0 as).length ≤ (P j).2.2.2.1) (hst : st = as.reverse ++ rest) (hr : bz_cat rest ≤ 8) (hv : bz_rc vk as = true) (hc : bz_wp P X j Qc (0, bz_in (P j).2.2.2.1 as, [], σ)) (kk : ∀ v σ', Qc v σ' → bz_wp P X k Q (pc + 3, L, v.toList ++ rest, σ')) : bz_wp P X k Q (pc, L, st, σ) := by
  subst hT; subst hst
  exact fun Z hZ => hZ.2.2.1 k Q pc L as rest σ j n vk Qc hl hn hm hr hv (hc Z hZ) (fun v σ' hv => kk v σ' hv Z hZ)
theorem bz_wpr {T : List bz_E} (hT : (P k).2.2.2.2.2.2.2 = T) {pc : Nat} {L : List (Option Value)} {st : List Value} {σ : bz_S} {j : Nat} {v : Option Value} (hl : bz_lk T pc = some (.inr (.inr j))) (hv : bz_rv j st = some v) (hg : bz_rg j st) (hQ : Q v σ) : bz_wp P X k Q (pc, L, st, σ) := by
  subst hT
  exact fun Z hZ => hZ.2.2.2.1 k Q pc L st σ j v hl hv hg hQ
theorem bz_wpm {Q' : bz_Q} {a : bz_A} (w : bz_wp P X k Q a) (h : ∀ v σ, Q v σ → Q' v σ) : bz_wp P X k Q' a := fun Z hZ => hZ.2.2.2.2 k Q Q' a h (w Z hZ)
end PW
/-- a method's contract: started with these words, it ends with Q -/
def bz_C (P : Nat → bz_M) (X : bz_X) (k : Nat) (as : List Value) (σ : bz_S) (Q : bz_Q) : Prop := bz_wp P X k Q (0, bz_in (P k).2.2.2.1 as, [], σ)
