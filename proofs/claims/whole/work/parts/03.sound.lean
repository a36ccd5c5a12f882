/-! THE KIT'S MACHINE FOLLOWS THE SMALL MACHINE -/
def bz_cz (ad : Nat → Nat) : Value → Value
  | .ref o => .ref (ad o)
  | v => v
def bz_fv (ad : Nat → Nat) (σ : bz_S) (o : Nat) (ps : List Nat) (k kind : Nat) : Value := match kind with
  | 1 => .long (σ.2 o k)
  | 2 => .ref (ad (ps.getD k 0))
  | _ => .int (σ.1 o k)
def bz_cell (ad : Nat → Nat) (ca : Nat → ClassId) (σ : bz_S) (o : Nat) (sh : bz_Sh) : va_E := match sh with
  | (0, ci, ps) => .inr (ci, (List.range (bz_fk ci).length).map (fun k => bz_fv ad σ o ps k ((bz_fk ci).getD k 0)))
  | (_, 1, ns) => .inl (ca 1, ns.getD 0 0, .inr (.inl (σ.2 o)))
  | (_, 3, ns) => .inl (ca 3, ns.getD 0 0, .inr (.inr (.inr (.inr (fun k => some (ad (ns.getD (k + 1) 0)))))))
  | (_, t, ns) => .inl (ca t, ns.getD 0 0, .inl (σ.1 o))
def bz_W (ad : Nat → Nat) (ca : Nat → ClassId) (σ : bz_S) : va_W := bz_sh.mapIdx (fun o sh => (ad o, bz_cell ad ca σ o sh))
def bz_tys (ca : Nat → ClassId) : List (ClassId × FieldType) := [(ca 0, .int), (ca 1, .long), (ca 2, .boolean), (ca 3, .object "BaizeCorps$Image")]
def bz_lv (ad : Nat → Nat) (L : List (Option Value)) : List (Nat × Value) := (List.range L.length).filterMap (fun i => match L[i]? with
  | some (some v) => some (i, bz_cz ad v)
  | _ => none)
-- words
def bz_TB : List Cond := lw_tbl.filter goodWord
def bz_NB : List Cond := lw_tbl.filter (fun w => match w with
  | .methodLinkNest .. => true
  | .fieldLinkNest .. => true
  | _ => false)
def bz_sn : Nat → String
  | 0 => "FIRST_CELLS"
  | 1 => "ROW_STEPS"
  | _ => "COLUMN_STEPS"
theorem bz_cz_cat (ad : Nat → Nat) (v : Value) : (bz_cz ad v).category = v.category := by cases v <;> rfl
theorem bz_lv_mem {ad : Nat → Nat} {L : List (Option Value)} {q : Nat × Value} : q ∈ bz_lv ad L ↔ ∃ v, L[q.1]? = some (some v) ∧ q.2 = bz_cz ad v := by
  obtain ⟨i, w⟩ := q
  simp only [bz_lv, List.mem_filterMap, List.mem_range]
  constructor
  · rintro ⟨j, hj, h⟩
    split at h
    · rename_i v hv
      cases h
      exact ⟨v, hv, rfl⟩
    · cases h
  · rintro ⟨v, hv, rfl⟩
    have hl := (List.getElem?_eq_some_iff.mp hv).1
    exact ⟨i, hl, by rw [hv]⟩
theorem bz_lv_mono {ls : Array Slot} {n : Nat} {l l' : List (Nat × Value)} (h : lv_has ls n l) (hs : ∀ q ∈ l', q ∈ l) : lv_has ls n l' := ⟨h.1, h.2.1, fun q hq => h.2.2 q (hs q hq)⟩
theorem bz_lv_at {ad : Nat → Nat} {L : List (Option Value)} {ls : Array Slot} {n i : Nat} {v : Value} (h : lv_has ls n (bz_lv ad L)) (hv : L[i]? = some (some v)) : ls[i]? = some (.val (bz_cz ad v)) := h.2.2 (i, bz_cz ad v) (bz_lv_mem.mpr ⟨v, hv, rfl⟩)
theorem bz_le_mem : ∀ {L' L : List (Option Value)}, bz_le L' L → ∀ (i : Nat) (v : Value), L'[i]? = some (some v) → L[i]? = some (some v)
  | [], [], _, i, v, h => by simp at h
  | none :: a, y :: b, hl, i, v, h => by
    cases i with
    | zero => simp at h
    | succ i => simpa using bz_le_mem (L' := a) (L := b) hl i v (by simpa using h)
  | some x :: a, some y :: b, hl, i, v, h => by
    obtain ⟨rfl, hl⟩ := hl
    cases i with
    | zero => exact h
    | succ i => simpa using bz_le_mem (L' := a) (L := b) hl i v (by simpa using h)
  | some x :: a, none :: b, hl, _, _, _ => hl.elim
  | none :: a, [], hl, _, _, _ => hl.elim
  | some x :: a, [], hl, _, _, _ => hl.elim
  | [], y :: b, hl, _, _, _ => hl.elim
theorem bz_kl_mem {L : List (Option Value)} {i j : Nat} {v : Value} (h : (bz_kl L i)[j]? = some (some v)) : L[j]? = some (some v) ∧ ¬ (j + 1 = i ∧ v.category = 2) := by
  have key : ∀ (i' : Nat) (w : Value), L[i']? = some (some w) → (L.set i' none)[j]? = some (some v) → L[j]? = some (some v) ∧ ¬ (j + 1 = i' + 1 ∧ v.category = 2) := by
    intro i' w hL h
    by_cases hj : j = i'
    · subst hj
      rw [List.getElem?_set_self (List.getElem?_eq_some_iff.mp hL).1] at h
      cases h
    · rw [List.getElem?_set_ne (Ne.symm hj)] at h
      exact ⟨h, fun z => hj (by omega)⟩
  cases i with
  | zero => exact ⟨h, fun z => by omega⟩
  | succ i =>
    simp only [bz_kl] at h
    split at h
    · rename_i x hL
      exact key i _ hL h
    · rename_i x hL
      exact key i _ hL h
    · rename_i hn1 hn2
      refine ⟨h, fun z => ?_⟩
      have hj : j = i := by omega
      subst hj
      cases v with
      | long x => exact hn1 x h
      | double x => exact hn2 x h
      | _ => simp [Value.category] at z
theorem bz_kl_len (L : List (Option Value)) (i : Nat) : (bz_kl L i).length = L.length := by
  cases i with
  | zero => rfl
  | succ i =>
    simp only [bz_kl]
    split <;> simp

theorem bz_W_at {ad : Nat → Nat} {ca : Nat → ClassId} {σ : bz_S} {o : Nat} {sh : bz_Sh} (h : bz_sh[o]? = some sh) : (bz_W ad ca σ)[o]? = some (ad o, bz_cell ad ca σ o sh) := by
  simp [bz_W, List.getElem?_mapIdx, h]
theorem bz_isO_sp {o ci : Nat} (h : bz_isO o ci = true) : ∃ ps, bz_sh[o]? = some (0, ci, ps) := by
  unfold bz_isO at h
  split at h
  · rename_i c ps hs
    have : c = ci := Nat.eq_of_beq_eq_true h
    subst this
    exact ⟨ps, hs⟩
  · cases h
theorem bz_isA_sp {o t n : Nat} (h : bz_isA o t = some n) : ∃ r, bz_sh[o]? = some (1, t, n :: r) := by
  unfold bz_isA at h
  split at h
  · rename_i t' n' r hs
    cases hb : Nat.beq t' t with
    | true =>
      rw [hb] at h
      have : t' = t := Nat.eq_of_beq_eq_true hb
      subst this
      cases h
      exact ⟨r, hs⟩
    | false => rw [hb] at h; cases h
  · cases h
theorem bz_fv_congr {ad : Nat → Nat} {σ σ' : bz_S} {o k kind : Nat} {ps : List Nat} (h1 : ∀ j, σ'.1 o j = σ.1 o j) (h2 : ∀ j, σ'.2 o j = σ.2 o j) : bz_fv ad σ' o ps k kind = bz_fv ad σ o ps k kind := by
  unfold bz_fv
  split
  · rw [h2]
  · rfl
  · rw [h1]
theorem bz_cell_congr {ad : Nat → Nat} {ca : Nat → ClassId} {σ σ' : bz_S} {o : Nat} (sh : bz_Sh) (h1 : ∀ j, σ'.1 o j = σ.1 o j) (h2 : ∀ j, σ'.2 o j = σ.2 o j) : bz_cell ad ca σ' o sh = bz_cell ad ca σ o sh := by
  have e1 : σ'.1 o = σ.1 o := funext h1
  have e2 : σ'.2 o = σ.2 o := funext h2
  unfold bz_cell
  split
  · simp only [bz_fv_congr h1 h2]
  · rw [e2]
  · rfl
  · rw [e1]
/-- a world with one cell changed -/
theorem bz_W_set {ad : Nat → Nat} {ca : Nat → ClassId} {σ σ' : bz_S} {o : Nat} {sh : bz_Sh} {e : va_E} (hs : bz_sh[o]? = some sh) (he : e = bz_cell ad ca σ' o sh) (ho : ∀ q, q ≠ o → ∀ j, σ'.1 q j = σ.1 q j ∧ σ'.2 q j = σ.2 q j) : (bz_W ad ca σ).set o (ad o, e) = bz_W ad ca σ' := by
  subst he
  apply List.ext_getElem?
  intro i
  by_cases hi : i = o
  · subst hi
    have hl : i < (bz_W ad ca σ).length := (List.getElem?_eq_some_iff.mp (bz_W_at (ad := ad) (ca := ca) (σ := σ) hs)).1
    rw [List.getElem?_set_self hl, bz_W_at hs]
  · rw [List.getElem?_set_ne (Ne.symm hi)]
    simp only [bz_W, List.getElem?_mapIdx]
    cases hq : bz_sh[i]? with
    | none => rfl
    | some sh' =>
      simp only [Option.map_some]
      rw [bz_cell_congr sh' (fun j => (ho i hi j).1) (fun j => (ho i hi j).2)]
/-- an object's fields with one of them changed -/
theorem bz_fs_set {ad : Nat → Nat} {σ σ' : bz_S} {o k n : Nat} {ps : List Nat} {kd : List Nat} {v : Value} (hv : bz_fv ad σ' o ps k (kd.getD k 0) = v) (h : ∀ j, j ≠ k → σ'.1 o j = σ.1 o j ∧ σ'.2 o j = σ.2 o j) : ((List.range n).map (fun j => bz_fv ad σ o ps j (kd.getD j 0))).set k v = (List.range n).map (fun j => bz_fv ad σ' o ps j (kd.getD j 0)) := by
  apply List.ext_getElem?
  intro i
  by_cases hi : i = k
  · subst hi
    by_cases hl : i < n
    · rw [List.getElem?_set_self (by simpa using hl), List.getElem?_map, List.getElem?_range hl, Option.map_some, hv]
    · rw [List.getElem?_eq_none (by simp; omega), List.getElem?_eq_none (by simp; omega)]
  · rw [List.getElem?_set_ne (Ne.symm hi)]
    simp only [List.getElem?_map]
    by_cases hl : i < n
    · have : bz_fv ad σ' o ps i (kd.getD i 0) = bz_fv ad σ o ps i (kd.getD i 0) := by
        unfold bz_fv
        split
        · rw [(h i hi).2]
        · rfl
        · rw [(h i hi).1]
      rw [List.getElem?_range hl, Option.map_some, Option.map_some, this]
    · simp [hl]

def bz_R (p : Program) (l : Launch) (e : Env) (R : Room) (s : State) (m : MethodId) (args : Array Value) (below : List Frame) (meth : Method) (c : Code) (Qf : State → Prop) (A : Nat → Prop) (ad : Nat → Nat) (ca : Nat → ClassId) (D : va_G) (cells slots nL : Nat) (a : bz_A) : Prop := a.2.1.length = nL → ∀ (H : Heap) (locs : List Loc) (ls : Array Slot), va_P D vwCl (bz_W ad ca a.2.2.2) H → va_D A (bz_W ad ca a.2.2.2) → va_S A s.heap H locs → lv_has ls nL (bz_lv ad a.2.1) → W p l e R s m args below meth c H locs cells slots Qf (F0 m a.1 ls (a.2.2.1.map (bz_cz ad)))
def bz_F (X : bz_X) (own : String) (bytes : ByteArray) (p : Program) (l : Launch) (e : Env) (R : Room) (s : State) (m : MethodId) (args : Array Value) (below : List Frame) (meth : Method) (c : Code) (Qf : State → Prop) (A : Nat → Prop) (ad : Nat → Nat) (ca : Nat → ClassId) (D : va_G) (cells slots nL : Nat) : Prop := p.tables.exec = Jvm.exec ∧ c.code = bytes ∧ c.maxLocals = nL ∧ s.vm.findClass own = some m.cls ∧ (∀ w ∈ bz_TB, w.before args s = true) ∧ (∀ w ∈ bz_NB, va_Nw w s) ∧ va_K D vwCl (bz_tys ca) s ∧ (∀ q : Nat, s.heap.size ≤ q → A q) ∧ (∀ i, i < 3 → va_Z "BaizeCorps" (bz_sn i) "[I" (.ref (ad (1000 + i))) A s s.heap) ∧ (∀ i, i < 4 → va_T .int (ad (1000 + i)) (bz_tn X i) (fun j => .int (bz_tv X i j)) A s s.heap) ∧ cells ≤ R.cells ∧ slots ≤ R.slots
def bz_ok (own : String) (bytes : ByteArray) (pc : Nat) (f : bz_Op) : Prop := ∀ (X : bz_X) (p : Program) (l : Launch) (e : Env) (R : Room) (s : State) (m : MethodId) (args : Array Value) (below : List Frame) (meth : Method) (c : Code) (Qf : State → Prop) (A : Nat → Prop) (ad : Nat → Nat) (ca : Nat → ClassId) (D : va_G) (cells slots nL : Nat), bz_F X own bytes p l e R s m args below meth c Qf A ad ca D cells slots nL → ∀ (L : List (Option Value)) (st : List Value) (σ : bz_S) (g : Option Prop) (b : bz_A), f X pc L st σ = some (g, b) → bz_and g True → bz_R p l e R s m args below meth c Qf A ad ca D cells slots nL b → bz_R p l e R s m args below meth c Qf A ad ca D cells slots nL (pc, L, st, σ)
theorem bz_lrem_eq (x y : Int64) : x - (x / y) * y = x % y := by
  apply Int64.toInt_inj.mp
  have h1 := Int64.le_toInt (x % y)
  have h2 := Int64.toInt_lt (x % y)
  rw [Int64.toInt_sub, Int64.toInt_mul, Int64.toInt_div, Int.bmod_mul_bmod, Int.sub_bmod_bmod, Int.mul_comm (x.toInt.tdiv y.toInt), ← Int.tmod_def, ← Int64.toInt_mod]
  exact Int.bmod_eq_of_le_mul_two (by omega) (by omega)
theorem bz_o1000 (o : Nat) (h1 : ¬ o < 1000) (h2 : o < 1004) : ∃ j, j < 4 ∧ o = 1000 + j := ⟨o - 1000, by omega, by omega⟩
section OK
variable {own : String} {bytes : ByteArray} {pc : Nat}

theorem bz_st1_mem {ad : Nat → Nat} {L : List (Option Value)} {i : Nat} {x : Int32} (hi : i < L.length) : ∀ q ∈ bz_lv ad ((bz_kl L i).set i (some (.int x))), q ∈ (i, Value.int x) :: (bz_lv ad L).filter (fun q => !(q.1 == i) && !(q.1 + 1 == i && q.2.category == 2)) := by
  rintro ⟨j, w⟩ hq
  obtain ⟨v, hv, hw⟩ := bz_lv_mem.mp hq
  dsimp only at hv hw
  subst hw
  by_cases hj : j = i
  · subst hj
    rw [List.getElem?_set_self (by rw [bz_kl_len]; exact hi)] at hv
    cases hv
    exact List.mem_cons_self
  · rw [List.getElem?_set_ne (Ne.symm hj)] at hv
    obtain ⟨h1, h2⟩ := bz_kl_mem hv
    refine List.mem_cons_of_mem _ (List.mem_filter.mpr ⟨bz_lv_mem.mpr ⟨v, h1, rfl⟩, ?_⟩)
    have h3 : ¬ (j + 1 = i ∧ (bz_cz ad v).category = 2) := by rw [bz_cz_cat]; exact h2
    simp only [Bool.and_eq_true, Bool.not_eq_true', beq_eq_false_iff_ne, ne_eq, Bool.and_eq_false_iff]
    refine ⟨hj, ?_⟩
    by_cases h4 : j + 1 = i
    · exact Or.inr (fun z => h3 ⟨h4, z⟩)
    · exact Or.inl h4
theorem bz_st2_mem {ad : Nat → Nat} {L : List (Option Value)} {i : Nat} {x : Int64} (hi : i + 1 < L.length) : ∀ q ∈ bz_lv ad (((bz_kl L i).set i (some (.long x))).set (i + 1) none), q ∈ (i, Value.long x) :: (bz_lv ad L).filter (fun q => !(q.1 == i) && (!(q.1 == i + 1) && !(q.1 + 1 == i && q.2.category == 2))) := by
  rintro ⟨j, w⟩ hq
  obtain ⟨v, hv, hw⟩ := bz_lv_mem.mp hq
  dsimp only at hv hw
  subst hw
  by_cases hj1 : j = i + 1
  · subst hj1
    rw [List.getElem?_set_self (by simp [bz_kl_len]; exact hi)] at hv
    cases hv
  · rw [List.getElem?_set_ne (Ne.symm hj1)] at hv
    by_cases hj : j = i
    · subst hj
      rw [List.getElem?_set_self (by rw [bz_kl_len]; omega)] at hv
      cases hv
      exact List.mem_cons_self
    · rw [List.getElem?_set_ne (Ne.symm hj)] at hv
      obtain ⟨h1, h2⟩ := bz_kl_mem hv
      refine List.mem_cons_of_mem _ (List.mem_filter.mpr ⟨bz_lv_mem.mpr ⟨v, h1, rfl⟩, ?_⟩)
      have h3 : ¬ (j + 1 = i ∧ (bz_cz ad v).category = 2) := by rw [bz_cz_cat]; exact h2
      simp only [Bool.and_eq_true, Bool.not_eq_true', beq_eq_false_iff_ne, ne_eq, Bool.and_eq_false_iff]
      refine ⟨hj, hj1, ?_⟩
      by_cases h4 : j + 1 = i
      · exact Or.inr (fun z => h3 ⟨h4, z⟩)
      · exact Or.inl h4
theorem bz_o_iconst {n : Int} {v : Int32} (hd : decode bytes pc = .ok (.iconst n, 1)) (hv : Int32.ofInt n = v) : bz_ok own bytes pc (bz_push (.int v) 1) := by
  intro X p l e R s m args below meth c Qf A ad ca D cells slots nL F L st σ g b h hg kk hn H locs ls hP hD hS hl
  obtain ⟨hx, hb, hml, hown, hts, hnw, hK, hA, hZ, hT, hce, hsl⟩ := F
  simp only [bz_push, Option.some.injEq, Prod.mk.injEq] at h
  obtain ⟨rfl, rfl⟩ := h
  exact lv_iconst hx hb hd hv (kk hn H locs ls hP hD hS hl)
theorem bz_o_bipush {n : Int} {v : Int32} (hd : decode bytes pc = .ok (.bipush n, 2)) (hv : (Int8.ofInt n).toInt32 = v) : bz_ok own bytes pc (bz_push (.int v) 2) := by
  intro X p l e R s m args below meth c Qf A ad ca D cells slots nL F L st σ g b h hg kk hn H locs ls hP hD hS hl
  obtain ⟨hx, hb, hml, hown, hts, hnw, hK, hA, hZ, hT, hce, hsl⟩ := F
  simp only [bz_push, Option.some.injEq, Prod.mk.injEq] at h
  obtain ⟨rfl, rfl⟩ := h
  exact lv_bipush hx hb hd hv (kk hn H locs ls hP hD hS hl)
theorem bz_o_sipush {n : Int} {v : Int32} (hd : decode bytes pc = .ok (.sipush n, 3)) (hv : (Int16.ofInt n).toInt32 = v) : bz_ok own bytes pc (bz_push (.int v) 3) := by
  intro X p l e R s m args below meth c Qf A ad ca D cells slots nL F L st σ g b h hg kk hn H locs ls hP hD hS hl
  obtain ⟨hx, hb, hml, hown, hts, hnw, hK, hA, hZ, hT, hce, hsl⟩ := F
  simp only [bz_push, Option.some.injEq, Prod.mk.injEq] at h
  obtain ⟨rfl, rfl⟩ := h
  exact lv_sipush hx hb hd hv (kk hn H locs ls hP hD hS hl)
theorem bz_o_lconst {n : Fin 2} {v : Int64} (hd : decode bytes pc = .ok (.lconst n, 1)) (hv : Int64.ofNat (n : Nat) = v) : bz_ok own bytes pc (bz_push (.long v) 1) := by
  intro X p l e R s m args below meth c Qf A ad ca D cells slots nL F L st σ g b h hg kk hn H locs ls hP hD hS hl
  obtain ⟨hx, hb, hml, hown, hts, hnw, hK, hA, hZ, hT, hce, hsl⟩ := F
  simp only [bz_push, Option.some.injEq, Prod.mk.injEq] at h
  obtain ⟨rfl, rfl⟩ := h
  exact lv_lconst hx hb hd hv (kk hn H locs ls hP hD hS hl)
theorem bz_o_ldc {i : Nat} {v : Int32} (hd : decode bytes pc = .ok (.ldc i, 2)) (hw : Cond.constant own i v ∈ bz_TB) : bz_ok own bytes pc (bz_push (.int v) 2) := by
  intro X p l e R s m args below meth c Qf A ad ca D cells slots nL F L st σ g b h hg kk hn H locs ls hP hD hS hl
  obtain ⟨hx, hb, hml, hown, hts, hnw, hK, hA, hZ, hT, hce, hsl⟩ := F
  simp only [bz_push, Option.some.injEq, Prod.mk.injEq] at h
  obtain ⟨rfl, rfl⟩ := h
  exact lv_ldc hx hb hown (hts _ hw) hd (kk hn H locs ls hP hD hS hl)
theorem bz_o_ldc2 {i : Nat} {v : Int64} (hd : decode bytes pc = .ok (.ldc2_w i, 3)) (hw : Cond.constantLong own i v ∈ bz_TB) : bz_ok own bytes pc (bz_push (.long v) 3) := by
  intro X p l e R s m args below meth c Qf A ad ca D cells slots nL F L st σ g b h hg kk hn H locs ls hP hD hS hl
  obtain ⟨hx, hb, hml, hown, hts, hnw, hK, hA, hZ, hT, hce, hsl⟩ := F
  simp only [bz_push, Option.some.injEq, Prod.mk.injEq] at h
  obtain ⟨rfl, rfl⟩ := h
  exact lv_ldc2 hx hb hown (hts _ hw) hd (kk hn H locs ls hP hD hS hl)
theorem bz_o_iload_n {k : Fin 4} {i : Nat} (hd : decode bytes pc = .ok (.iload_n k, 1)) (hi : (k : Nat) = i) : bz_ok own bytes pc (bz_iload i 1) := by
  intro X p l e R s m args below meth c Qf A ad ca D cells slots nL F L st σ g b h hg kk hn H locs ls hP hD hS hl
  obtain ⟨hx, hb, hml, hown, hts, hnw, hK, hA, hZ, hT, hce, hsl⟩ := F
  simp only [bz_iload] at h
  split at h
  · rename_i x hx1
    simp only [Option.some.injEq, Prod.mk.injEq] at h
    obtain ⟨rfl, rfl⟩ := h
    exact lv_iload_n hx hb hd hi (bz_lv_at hl hx1) (kk hn H locs ls hP hD hS hl)
  · cases h
theorem bz_o_iload {i : Nat} (hd : decode bytes pc = .ok (.iload i, 2)) : bz_ok own bytes pc (bz_iload i 2) := by
  intro X p l e R s m args below meth c Qf A ad ca D cells slots nL F L st σ g b h hg kk hn H locs ls hP hD hS hl
  obtain ⟨hx, hb, hml, hown, hts, hnw, hK, hA, hZ, hT, hce, hsl⟩ := F
  simp only [bz_iload] at h
  split at h
  · rename_i x hx1
    simp only [Option.some.injEq, Prod.mk.injEq] at h
    obtain ⟨rfl, rfl⟩ := h
    exact lv_iload hx hb hd (bz_lv_at hl hx1) (kk hn H locs ls hP hD hS hl)
  · cases h
theorem bz_o_lload_n {k : Fin 4} {i : Nat} (hd : decode bytes pc = .ok (.lload_n k, 1)) (hi : (k : Nat) = i) : bz_ok own bytes pc (bz_lload i 1) := by
  intro X p l e R s m args below meth c Qf A ad ca D cells slots nL F L st σ g b h hg kk hn H locs ls hP hD hS hl
  obtain ⟨hx, hb, hml, hown, hts, hnw, hK, hA, hZ, hT, hce, hsl⟩ := F
  simp only [bz_lload] at h
  split at h
  · rename_i x hx1
    simp only [Option.some.injEq, Prod.mk.injEq] at h
    obtain ⟨rfl, rfl⟩ := h
    exact lv_lload_n hx hb hd hi (bz_lv_at hl hx1) (kk hn H locs ls hP hD hS hl)
  · cases h
theorem bz_o_lload {i : Nat} (hd : decode bytes pc = .ok (.lload i, 2)) : bz_ok own bytes pc (bz_lload i 2) := by
  intro X p l e R s m args below meth c Qf A ad ca D cells slots nL F L st σ g b h hg kk hn H locs ls hP hD hS hl
  obtain ⟨hx, hb, hml, hown, hts, hnw, hK, hA, hZ, hT, hce, hsl⟩ := F
  simp only [bz_lload] at h
  split at h
  · rename_i x hx1
    simp only [Option.some.injEq, Prod.mk.injEq] at h
    obtain ⟨rfl, rfl⟩ := h
    exact lv_lload hx hb hd (bz_lv_at hl hx1) (kk hn H locs ls hP hD hS hl)
  · cases h
theorem bz_o_aload_n {k : Fin 4} {i : Nat} (hd : decode bytes pc = .ok (.aload_n k, 1)) (hi : (k : Nat) = i) : bz_ok own bytes pc (bz_aload i 1) := by
  intro X p l e R s m args below meth c Qf A ad ca D cells slots nL F L st σ g b h hg kk hn H locs ls hP hD hS hl
  obtain ⟨hx, hb, hml, hown, hts, hnw, hK, hA, hZ, hT, hce, hsl⟩ := F
  simp only [bz_aload] at h
  split at h
  · rename_i x hx1
    simp only [Option.some.injEq, Prod.mk.injEq] at h
    obtain ⟨rfl, rfl⟩ := h
    exact lv_aload_n hx hb hd hi (bz_lv_at hl hx1) (kk hn H locs ls hP hD hS hl)
  · cases h
theorem bz_o_aload {i : Nat} (hd : decode bytes pc = .ok (.aload i, 2)) : bz_ok own bytes pc (bz_aload i 2) := by
  intro X p l e R s m args below meth c Qf A ad ca D cells slots nL F L st σ g b h hg kk hn H locs ls hP hD hS hl
  obtain ⟨hx, hb, hml, hown, hts, hnw, hK, hA, hZ, hT, hce, hsl⟩ := F
  simp only [bz_aload] at h
  split at h
  · rename_i x hx1
    simp only [Option.some.injEq, Prod.mk.injEq] at h
    obtain ⟨rfl, rfl⟩ := h
    exact lv_aload hx hb hd (bz_lv_at hl hx1) (kk hn H locs ls hP hD hS hl)
  · cases h
theorem bz_o_istore_n {k : Fin 4} {i : Nat} (hd : decode bytes pc = .ok (.istore_n k, 1)) (hi : (k : Nat) = i) : bz_ok own bytes pc (bz_istore i 1) := by
  intro X p l e R s m args below meth c Qf A ad ca D cells slots nL F L st σ g b h hg kk hn H locs ls hP hD hS hl
  obtain ⟨hx, hb, hml, hown, hts, hnw, hK, hA, hZ, hT, hce, hsl⟩ := F
  simp only [bz_istore] at h
  split at h
  · rename_i x r
    cases hlt : Nat.blt i L.length with
    | false => rw [hlt] at h; cases h
    | true =>
      rw [hlt] at h
      simp only [cond_true, Option.some.injEq, Prod.mk.injEq] at h
      obtain ⟨rfl, rfl⟩ := h
      have hi2 : i < L.length := Nat.le_of_ble_eq_true hlt
      refine lv_istore_n hx hb hd hi hl (hn ▸ hi2) rfl (fun ls' hl' => ?_)
      refine (kk ((by simp [bz_kl_len] : _ = L.length).trans hn) H locs ls' hP hD hS (bz_lv_mono hl' ?_))
      exact bz_st1_mem hi2
  · cases h
theorem bz_o_istore {i : Nat} (hd : decode bytes pc = .ok (.istore i, 2)) : bz_ok own bytes pc (bz_istore i 2) := by
  intro X p l e R s m args below meth c Qf A ad ca D cells slots nL F L st σ g b h hg kk hn H locs ls hP hD hS hl
  obtain ⟨hx, hb, hml, hown, hts, hnw, hK, hA, hZ, hT, hce, hsl⟩ := F
  simp only [bz_istore] at h
  split at h
  · rename_i x r
    cases hlt : Nat.blt i L.length with
    | false => rw [hlt] at h; cases h
    | true =>
      rw [hlt] at h
      simp only [cond_true, Option.some.injEq, Prod.mk.injEq] at h
      obtain ⟨rfl, rfl⟩ := h
      have hi2 : i < L.length := Nat.le_of_ble_eq_true hlt
      refine lv_istore hx hb hd hl (hn ▸ hi2) rfl (fun ls' hl' => ?_)
      refine (kk ((by simp [bz_kl_len] : _ = L.length).trans hn) H locs ls' hP hD hS (bz_lv_mono hl' ?_))
      exact bz_st1_mem hi2
  · cases h
theorem bz_o_lstore_n {k : Fin 4} {i : Nat} (hd : decode bytes pc = .ok (.lstore_n k, 1)) (hi : (k : Nat) = i) : bz_ok own bytes pc (bz_lstore i 1) := by
  intro X p l e R s m args below meth c Qf A ad ca D cells slots nL F L st σ g b h hg kk hn H locs ls hP hD hS hl
  obtain ⟨hx, hb, hml, hown, hts, hnw, hK, hA, hZ, hT, hce, hsl⟩ := F
  simp only [bz_lstore] at h
  split at h
  · rename_i x r
    cases hlt : Nat.blt (i + 1) L.length with
    | false => rw [hlt] at h; cases h
    | true =>
      rw [hlt] at h
      simp only [cond_true, Option.some.injEq, Prod.mk.injEq] at h
      obtain ⟨rfl, rfl⟩ := h
      have hi2 : i + 1 < L.length := Nat.le_of_ble_eq_true hlt
      refine lv_lstore_n hx hb hd hi hl (hn ▸ hi2) rfl (fun ls' hl' => ?_)
      refine (kk ((by simp [bz_kl_len] : _ = L.length).trans hn) H locs ls' hP hD hS (bz_lv_mono hl' ?_))
      exact bz_st2_mem hi2
  · cases h
theorem bz_o_lstore {i : Nat} (hd : decode bytes pc = .ok (.lstore i, 2)) : bz_ok own bytes pc (bz_lstore i 2) := by
  intro X p l e R s m args below meth c Qf A ad ca D cells slots nL F L st σ g b h hg kk hn H locs ls hP hD hS hl
  obtain ⟨hx, hb, hml, hown, hts, hnw, hK, hA, hZ, hT, hce, hsl⟩ := F
  simp only [bz_lstore] at h
  split at h
  · rename_i x r
    cases hlt : Nat.blt (i + 1) L.length with
    | false => rw [hlt] at h; cases h
    | true =>
      rw [hlt] at h
      simp only [cond_true, Option.some.injEq, Prod.mk.injEq] at h
      obtain ⟨rfl, rfl⟩ := h
      have hi2 : i + 1 < L.length := Nat.le_of_ble_eq_true hlt
      refine lv_lstore hx hb hd hl (hn ▸ hi2) rfl (fun ls' hl' => ?_)
      refine (kk ((by simp [bz_kl_len] : _ = L.length).trans hn) H locs ls' hP hD hS (bz_lv_mono hl' ?_))
      exact bz_st2_mem hi2
  · cases h
theorem bz_o_iinc {i : Nat} {n : Int} {v : Int32} (hd : decode bytes pc = .ok (.iinc i n, 3)) (hv : Int32.ofInt n = v) : bz_ok own bytes pc (bz_iinc i v) := by
  intro X p l e R s m args below meth c Qf A ad ca D cells slots nL F L st σ g b h hg kk hn H locs ls hP hD hS hl
  obtain ⟨hx, hb, hml, hown, hts, hnw, hK, hA, hZ, hT, hce, hsl⟩ := F
  subst hv
  simp only [bz_iinc] at h
  split at h
  · rename_i x hx1
    simp only [Option.some.injEq, Prod.mk.injEq] at h
    obtain ⟨rfl, rfl⟩ := h
    have hi2 : i < L.length := (List.getElem?_eq_some_iff.mp hx1).1
    have hm : (i, Value.int x) ∈ bz_lv ad L := bz_lv_mem.mpr ⟨.int x, hx1, rfl⟩
    obtain ⟨k, hk⟩ := List.getElem?_of_mem hm
    refine lv_iinc hx hb hd hl hk rfl (hn ▸ hi2) rfl (fun ls' hl' => ?_)
    refine kk ((by simp [bz_kl_len] : _ = L.length).trans hn) H locs ls' hP hD hS (bz_lv_mono hl' ?_)
    exact bz_st1_mem hi2
  · cases h
theorem bz_o_iadd (hd : decode bytes pc = .ok (.iadd, 1)) : bz_ok own bytes pc (bz_ii (fun x y => x + y)) := by
  intro X p l e R s m args below meth c Qf A ad ca D cells slots nL F L st σ g b h hg kk hn H locs ls hP hD hS hl
  obtain ⟨hx, hb, hml, hown, hts, hnw, hK, hA, hZ, hT, hce, hsl⟩ := F
  simp only [bz_ii] at h
  split at h
  · rename_i y x r
    simp only [Option.some.injEq, Prod.mk.injEq] at h
    obtain ⟨rfl, rfl⟩ := h
    exact lv_iadd hx hb hd (kk hn H locs ls hP hD hS hl)
  · cases h
theorem bz_o_isub (hd : decode bytes pc = .ok (.isub, 1)) : bz_ok own bytes pc (bz_ii (fun x y => x - y)) := by
  intro X p l e R s m args below meth c Qf A ad ca D cells slots nL F L st σ g b h hg kk hn H locs ls hP hD hS hl
  obtain ⟨hx, hb, hml, hown, hts, hnw, hK, hA, hZ, hT, hce, hsl⟩ := F
  simp only [bz_ii] at h
  split at h
  · rename_i y x r
    simp only [Option.some.injEq, Prod.mk.injEq] at h
    obtain ⟨rfl, rfl⟩ := h
    exact lv_isub hx hb hd (kk hn H locs ls hP hD hS hl)
  · cases h
theorem bz_o_imul (hd : decode bytes pc = .ok (.imul, 1)) : bz_ok own bytes pc (bz_ii (fun x y => x * y)) := by
  intro X p l e R s m args below meth c Qf A ad ca D cells slots nL F L st σ g b h hg kk hn H locs ls hP hD hS hl
  obtain ⟨hx, hb, hml, hown, hts, hnw, hK, hA, hZ, hT, hce, hsl⟩ := F
  simp only [bz_ii] at h
  split at h
  · rename_i y x r
    simp only [Option.some.injEq, Prod.mk.injEq] at h
    obtain ⟨rfl, rfl⟩ := h
    exact lv_imul hx hb hd (kk hn H locs ls hP hD hS hl)
  · cases h
theorem bz_o_iand (hd : decode bytes pc = .ok (.iand, 1)) : bz_ok own bytes pc (bz_ii (fun x y => x &&& y)) := by
  intro X p l e R s m args below meth c Qf A ad ca D cells slots nL F L st σ g b h hg kk hn H locs ls hP hD hS hl
  obtain ⟨hx, hb, hml, hown, hts, hnw, hK, hA, hZ, hT, hce, hsl⟩ := F
  simp only [bz_ii] at h
  split at h
  · rename_i y x r
    simp only [Option.some.injEq, Prod.mk.injEq] at h
    obtain ⟨rfl, rfl⟩ := h
    exact lv_iand hx hb hd (kk hn H locs ls hP hD hS hl)
  · cases h
theorem bz_o_ixor (hd : decode bytes pc = .ok (.ixor, 1)) : bz_ok own bytes pc (bz_ii (fun x y => x ^^^ y)) := by
  intro X p l e R s m args below meth c Qf A ad ca D cells slots nL F L st σ g b h hg kk hn H locs ls hP hD hS hl
  obtain ⟨hx, hb, hml, hown, hts, hnw, hK, hA, hZ, hT, hce, hsl⟩ := F
  simp only [bz_ii] at h
  split at h
  · rename_i y x r
    simp only [Option.some.injEq, Prod.mk.injEq] at h
    obtain ⟨rfl, rfl⟩ := h
    exact lv_ixor hx hb hd (kk hn H locs ls hP hD hS hl)
  · cases h
theorem bz_o_ladd (hd : decode bytes pc = .ok (.ladd, 1)) : bz_ok own bytes pc (bz_ll (fun x y => x + y)) := by
  intro X p l e R s m args below meth c Qf A ad ca D cells slots nL F L st σ g b h hg kk hn H locs ls hP hD hS hl
  obtain ⟨hx, hb, hml, hown, hts, hnw, hK, hA, hZ, hT, hce, hsl⟩ := F
  simp only [bz_ll] at h
  split at h
  · rename_i y x r
    simp only [Option.some.injEq, Prod.mk.injEq] at h
    obtain ⟨rfl, rfl⟩ := h
    exact lv_ladd hx hb hd (kk hn H locs ls hP hD hS hl)
  · cases h
theorem bz_o_lsub (hd : decode bytes pc = .ok (.lsub, 1)) : bz_ok own bytes pc (bz_ll (fun x y => x - y)) := by
  intro X p l e R s m args below meth c Qf A ad ca D cells slots nL F L st σ g b h hg kk hn H locs ls hP hD hS hl
  obtain ⟨hx, hb, hml, hown, hts, hnw, hK, hA, hZ, hT, hce, hsl⟩ := F
  simp only [bz_ll] at h
  split at h
  · rename_i y x r
    simp only [Option.some.injEq, Prod.mk.injEq] at h
    obtain ⟨rfl, rfl⟩ := h
    exact lv_lsub hx hb hd (kk hn H locs ls hP hD hS hl)
  · cases h
theorem bz_o_lmul (hd : decode bytes pc = .ok (.lmul, 1)) : bz_ok own bytes pc (bz_ll (fun x y => x * y)) := by
  intro X p l e R s m args below meth c Qf A ad ca D cells slots nL F L st σ g b h hg kk hn H locs ls hP hD hS hl
  obtain ⟨hx, hb, hml, hown, hts, hnw, hK, hA, hZ, hT, hce, hsl⟩ := F
  simp only [bz_ll] at h
  split at h
  · rename_i y x r
    simp only [Option.some.injEq, Prod.mk.injEq] at h
    obtain ⟨rfl, rfl⟩ := h
    exact lv_lmul hx hb hd (kk hn H locs ls hP hD hS hl)
  · cases h
theorem bz_o_land (hd : decode bytes pc = .ok (.land, 1)) : bz_ok own bytes pc (bz_ll (fun x y => x &&& y)) := by
  intro X p l e R s m args below meth c Qf A ad ca D cells slots nL F L st σ g b h hg kk hn H locs ls hP hD hS hl
  obtain ⟨hx, hb, hml, hown, hts, hnw, hK, hA, hZ, hT, hce, hsl⟩ := F
  simp only [bz_ll] at h
  split at h
  · rename_i y x r
    simp only [Option.some.injEq, Prod.mk.injEq] at h
    obtain ⟨rfl, rfl⟩ := h
    exact lv_land hx hb hd (kk hn H locs ls hP hD hS hl)
  · cases h
theorem bz_o_lor (hd : decode bytes pc = .ok (.lor, 1)) : bz_ok own bytes pc (bz_ll (fun x y => x ||| y)) := by
  intro X p l e R s m args below meth c Qf A ad ca D cells slots nL F L st σ g b h hg kk hn H locs ls hP hD hS hl
  obtain ⟨hx, hb, hml, hown, hts, hnw, hK, hA, hZ, hT, hce, hsl⟩ := F
  simp only [bz_ll] at h
  split at h
  · rename_i y x r
    simp only [Option.some.injEq, Prod.mk.injEq] at h
    obtain ⟨rfl, rfl⟩ := h
    exact lv_lor hx hb hd (kk hn H locs ls hP hD hS hl)
  · cases h
theorem bz_o_idiv (hd : decode bytes pc = .ok (.idiv, 1)) : bz_ok own bytes pc (bz_ig (fun x y => x / y)) := by
  intro X p l e R s m args below meth c Qf A ad ca D cells slots nL F L st σ g b h hg kk hn H locs ls hP hD hS hl
  obtain ⟨hx, hb, hml, hown, hts, hnw, hK, hA, hZ, hT, hce, hsl⟩ := F
  simp only [bz_ig] at h
  split at h
  · rename_i y x r
    simp only [Option.some.injEq, Prod.mk.injEq] at h
    obtain ⟨rfl, rfl⟩ := h
    exact lv_idiv hx hb hd hg.1 (kk hn H locs ls hP hD hS hl)
  · cases h
theorem bz_o_ldiv (hd : decode bytes pc = .ok (.ldiv, 1)) : bz_ok own bytes pc (bz_lg (fun x y => x / y)) := by
  intro X p l e R s m args below meth c Qf A ad ca D cells slots nL F L st σ g b h hg kk hn H locs ls hP hD hS hl
  obtain ⟨hx, hb, hml, hown, hts, hnw, hK, hA, hZ, hT, hce, hsl⟩ := F
  simp only [bz_lg] at h
  split at h
  · rename_i y x r
    simp only [Option.some.injEq, Prod.mk.injEq] at h
    obtain ⟨rfl, rfl⟩ := h
    exact lv_ldiv hx hb hd hg.1 (kk hn H locs ls hP hD hS hl)
  · cases h
theorem bz_o_irem (hd : decode bytes pc = .ok (.irem, 1)) : bz_ok own bytes pc (bz_ig (fun x y => x % y)) := by
  intro X p l e R s m args below meth c Qf A ad ca D cells slots nL F L st σ g b h hg kk hn H locs ls hP hD hS hl
  obtain ⟨hx, hb, hml, hown, hts, hnw, hK, hA, hZ, hT, hce, hsl⟩ := F
  simp only [bz_ig] at h
  split at h
  · rename_i y x r
    simp only [Option.some.injEq, Prod.mk.injEq] at h
    obtain ⟨rfl, rfl⟩ := h
    have k := (kk hn H locs ls hP hD hS hl)
    refine lv_irem hx hb hd hg.1 ?_
    rw [irem_eq_mod]
    exact k
  · cases h
theorem bz_o_lrem (hd : decode bytes pc = .ok (.lrem, 1)) : bz_ok own bytes pc (bz_lg (fun x y => x % y)) := by
  intro X p l e R s m args below meth c Qf A ad ca D cells slots nL F L st σ g b h hg kk hn H locs ls hP hD hS hl
  obtain ⟨hx, hb, hml, hown, hts, hnw, hK, hA, hZ, hT, hce, hsl⟩ := F
  simp only [bz_lg] at h
  split at h
  · rename_i y x r
    simp only [Option.some.injEq, Prod.mk.injEq] at h
    obtain ⟨rfl, rfl⟩ := h
    have k := (kk hn H locs ls hP hD hS hl)
    refine lv_lrem hx hb hd hg.1 ?_
    rw [bz_lrem_eq]
    exact k
  · cases h
theorem bz_o_lushr (hd : decode bytes pc = .ok (.lushr, 1)) : bz_ok own bytes pc (bz_li (fun x y => (x.toUInt64 >>> (y.toInt64.toUInt64 &&& Int64.toUInt64 63)).toInt64)) := by
  intro X p l e R s m args below meth c Qf A ad ca D cells slots nL F L st σ g b h hg kk hn H locs ls hP hD hS hl
  obtain ⟨hx, hb, hml, hown, hts, hnw, hK, hA, hZ, hT, hce, hsl⟩ := F
  simp only [bz_li] at h
  split at h
  · rename_i y x r
    simp only [Option.some.injEq, Prod.mk.injEq] at h
    obtain ⟨rfl, rfl⟩ := h
    exact lv_lushr hx hb hd rfl (kk hn H locs ls hP hD hS hl)
  · cases h
theorem bz_o_lshl (hd : decode bytes pc = .ok (.lshl, 1)) : bz_ok own bytes pc (bz_li (fun x y => x <<< (y.toInt64 &&& 63))) := by
  intro X p l e R s m args below meth c Qf A ad ca D cells slots nL F L st σ g b h hg kk hn H locs ls hP hD hS hl
  obtain ⟨hx, hb, hml, hown, hts, hnw, hK, hA, hZ, hT, hce, hsl⟩ := F
  simp only [bz_li] at h
  split at h
  · rename_i y x r
    simp only [Option.some.injEq, Prod.mk.injEq] at h
    obtain ⟨rfl, rfl⟩ := h
    exact lv_lshl hx hb hd rfl (kk hn H locs ls hP hD hS hl)
  · cases h
theorem bz_o_i2l (hd : decode bytes pc = .ok (.i2l, 1)) : bz_ok own bytes pc (bz_i2l) := by
  intro X p l e R s m args below meth c Qf A ad ca D cells slots nL F L st σ g b h hg kk hn H locs ls hP hD hS hl
  obtain ⟨hx, hb, hml, hown, hts, hnw, hK, hA, hZ, hT, hce, hsl⟩ := F
  simp only [bz_i2l] at h
  split at h
  · rename_i x r
    simp only [Option.some.injEq, Prod.mk.injEq] at h
    obtain ⟨rfl, rfl⟩ := h
    exact lv_i2l hx hb hd rfl (kk hn H locs ls hP hD hS hl)
  · cases h
theorem bz_o_l2i (hd : decode bytes pc = .ok (.l2i, 1)) : bz_ok own bytes pc (bz_l2i) := by
  intro X p l e R s m args below meth c Qf A ad ca D cells slots nL F L st σ g b h hg kk hn H locs ls hP hD hS hl
  obtain ⟨hx, hb, hml, hown, hts, hnw, hK, hA, hZ, hT, hce, hsl⟩ := F
  simp only [bz_l2i] at h
  split at h
  · rename_i x r
    simp only [Option.some.injEq, Prod.mk.injEq] at h
    obtain ⟨rfl, rfl⟩ := h
    exact lv_l2i hx hb hd rfl (kk hn H locs ls hP hD hS hl)
  · cases h
theorem bz_o_lcmp (hd : decode bytes pc = .ok (.lcmp, 1)) : bz_ok own bytes pc (bz_lcmp) := by
  intro X p l e R s m args below meth c Qf A ad ca D cells slots nL F L st σ g b h hg kk hn H locs ls hP hD hS hl
  obtain ⟨hx, hb, hml, hown, hts, hnw, hK, hA, hZ, hT, hce, hsl⟩ := F
  simp only [bz_lcmp] at h
  split at h
  · rename_i y x r
    simp only [Option.some.injEq, Prod.mk.injEq] at h
    obtain ⟨rfl, rfl⟩ := h
    exact W.lcmp hx hb hd (kk hn H locs ls hP hD hS hl)
  · cases h
theorem bz_o_dup (hd : decode bytes pc = .ok (.dup, 1)) : bz_ok own bytes pc (bz_dup) := by
  intro X p l e R s m args below meth c Qf A ad ca D cells slots nL F L st σ g b h hg kk hn H locs ls hP hD hS hl
  obtain ⟨hx, hb, hml, hown, hts, hnw, hK, hA, hZ, hT, hce, hsl⟩ := F
  simp only [bz_dup] at h
  split at h
  · rename_i x r
    simp only [Option.some.injEq, Prod.mk.injEq] at h
    obtain ⟨rfl, rfl⟩ := h
    exact lv_dup hx hb hd rfl (kk hn H locs ls hP hD hS hl)
  · rename_i x r
    simp only [Option.some.injEq, Prod.mk.injEq] at h
    obtain ⟨rfl, rfl⟩ := h
    exact lv_dup hx hb hd rfl (kk hn H locs ls hP hD hS hl)
  · cases h
theorem bz_o_pop (hd : decode bytes pc = .ok (.pop, 1)) : bz_ok own bytes pc (bz_pop1) := by
  intro X p l e R s m args below meth c Qf A ad ca D cells slots nL F L st σ g b h hg kk hn H locs ls hP hD hS hl
  obtain ⟨hx, hb, hml, hown, hts, hnw, hK, hA, hZ, hT, hce, hsl⟩ := F
  simp only [bz_pop1] at h
  split at h
  · rename_i x r
    simp only [Option.some.injEq, Prod.mk.injEq] at h
    obtain ⟨rfl, rfl⟩ := h
    exact lv_pop hx hb hd rfl (kk hn H locs ls hP hD hS hl)
  · cases h
theorem bz_o_dup2 (hd : decode bytes pc = .ok (.dup2, 1)) : bz_ok own bytes pc (bz_dup2) := by
  intro X p l e R s m args below meth c Qf A ad ca D cells slots nL F L st σ g b h hg kk hn H locs ls hP hD hS hl
  obtain ⟨hx, hb, hml, hown, hts, hnw, hK, hA, hZ, hT, hce, hsl⟩ := F
  simp only [bz_dup2] at h
  split at h
  · rename_i x y r
    simp only [Option.some.injEq, Prod.mk.injEq] at h
    obtain ⟨rfl, rfl⟩ := h
    exact lv_dup2_11 hx hb hd rfl rfl (kk hn H locs ls hP hD hS hl)
  · cases h
theorem bz_o_goto {off : Int} {t : Nat} (hd : decode bytes pc = .ok (.goto off, 3)) (ht : (pc : Int) + off = (t : Int)) : bz_ok own bytes pc (bz_goto t) := by
  intro X p l e R s m args below meth c Qf A ad ca D cells slots nL F L st σ g b h hg kk hn H locs ls hP hD hS hl
  obtain ⟨hx, hb, hml, hown, hts, hnw, hK, hA, hZ, hT, hce, hsl⟩ := F
  simp only [bz_goto, Option.some.injEq, Prod.mk.injEq] at h
  obtain ⟨rfl, rfl⟩ := h
  exact lv_goto hx hb hd ht (kk hn H locs ls hP hD hS hl)
def bz_if_eq (t : Nat) : bz_Op := bz_ifi (fun x => x = 0) (fun x => inferInstanceAs (Decidable (x = 0))) t
def bz_ic_eq (t : Nat) : bz_Op := bz_icm (fun x y => x = y) (fun x y => inferInstanceAs (Decidable (x = y))) t
theorem bz_o_if_eq {off : Int} {t : Nat} (hd : decode bytes pc = .ok (.ifCond .eq off, 3)) (ht : (pc : Int) + off = (t : Int)) : bz_ok own bytes pc (bz_if_eq t) := by
  intro X p l e R s m args below meth c Qf A ad ca D cells slots nL F L st σ g b h hg kk hn H locs ls hP hD hS hl
  obtain ⟨hx, hb, hml, hown, hts, hnw, hK, hA, hZ, hT, hce, hsl⟩ := F
  unfold bz_if_eq at h
  simp only [bz_ifi] at h
  split at h
  · rename_i x r
    simp only [Option.some.injEq, Prod.mk.injEq] at h
    obtain ⟨rfl, rfl⟩ := h
    refine lv_if_eq hx hb hd ht (fun hc => ?_) (fun hc => ?_)
    · rw [if_pos hc] at kk
      exact (kk hn H locs ls hP hD hS hl)
    · rw [if_neg hc] at kk
      exact (kk hn H locs ls hP hD hS hl)
  · cases h
theorem bz_o_ic_eq {off : Int} {t : Nat} (hd : decode bytes pc = .ok (.if_icmp .eq off, 3)) (ht : (pc : Int) + off = (t : Int)) : bz_ok own bytes pc (bz_ic_eq t) := by
  intro X p l e R s m args below meth c Qf A ad ca D cells slots nL F L st σ g b h hg kk hn H locs ls hP hD hS hl
  obtain ⟨hx, hb, hml, hown, hts, hnw, hK, hA, hZ, hT, hce, hsl⟩ := F
  unfold bz_ic_eq at h
  simp only [bz_icm] at h
  split at h
  · rename_i y x r
    simp only [Option.some.injEq, Prod.mk.injEq] at h
    obtain ⟨rfl, rfl⟩ := h
    refine lv_icmp_eq hx hb hd ht (fun hc => ?_) (fun hc => ?_)
    · rw [if_pos hc] at kk
      exact (kk hn H locs ls hP hD hS hl)
    · rw [if_neg hc] at kk
      exact (kk hn H locs ls hP hD hS hl)
  · cases h
def bz_if_ne (t : Nat) : bz_Op := bz_ifi (fun x => ¬ x = 0) (fun x => inferInstanceAs (Decidable (¬ x = 0))) t
def bz_ic_ne (t : Nat) : bz_Op := bz_icm (fun x y => ¬ x = y) (fun x y => inferInstanceAs (Decidable (¬ x = y))) t
theorem bz_o_if_ne {off : Int} {t : Nat} (hd : decode bytes pc = .ok (.ifCond .ne off, 3)) (ht : (pc : Int) + off = (t : Int)) : bz_ok own bytes pc (bz_if_ne t) := by
  intro X p l e R s m args below meth c Qf A ad ca D cells slots nL F L st σ g b h hg kk hn H locs ls hP hD hS hl
  obtain ⟨hx, hb, hml, hown, hts, hnw, hK, hA, hZ, hT, hce, hsl⟩ := F
  unfold bz_if_ne at h
  simp only [bz_ifi] at h
  split at h
  · rename_i x r
    simp only [Option.some.injEq, Prod.mk.injEq] at h
    obtain ⟨rfl, rfl⟩ := h
    refine lv_if_ne hx hb hd ht (fun hc => ?_) (fun hc => ?_)
    · rw [if_pos hc] at kk
      exact (kk hn H locs ls hP hD hS hl)
    · rw [if_neg (fun z => z hc)] at kk
      exact (kk hn H locs ls hP hD hS hl)
  · cases h
theorem bz_o_ic_ne {off : Int} {t : Nat} (hd : decode bytes pc = .ok (.if_icmp .ne off, 3)) (ht : (pc : Int) + off = (t : Int)) : bz_ok own bytes pc (bz_ic_ne t) := by
  intro X p l e R s m args below meth c Qf A ad ca D cells slots nL F L st σ g b h hg kk hn H locs ls hP hD hS hl
  obtain ⟨hx, hb, hml, hown, hts, hnw, hK, hA, hZ, hT, hce, hsl⟩ := F
  unfold bz_ic_ne at h
  simp only [bz_icm] at h
  split at h
  · rename_i y x r
    simp only [Option.some.injEq, Prod.mk.injEq] at h
    obtain ⟨rfl, rfl⟩ := h
    refine lv_icmp_ne hx hb hd ht (fun hc => ?_) (fun hc => ?_)
    · rw [if_pos hc] at kk
      exact (kk hn H locs ls hP hD hS hl)
    · rw [if_neg (fun z => z hc)] at kk
      exact (kk hn H locs ls hP hD hS hl)
  · cases h
def bz_if_lt (t : Nat) : bz_Op := bz_ifi (fun x => x < 0) (fun x => inferInstanceAs (Decidable (x < 0))) t
def bz_ic_lt (t : Nat) : bz_Op := bz_icm (fun x y => x < y) (fun x y => inferInstanceAs (Decidable (x < y))) t
theorem bz_o_if_lt {off : Int} {t : Nat} (hd : decode bytes pc = .ok (.ifCond .lt off, 3)) (ht : (pc : Int) + off = (t : Int)) : bz_ok own bytes pc (bz_if_lt t) := by
  intro X p l e R s m args below meth c Qf A ad ca D cells slots nL F L st σ g b h hg kk hn H locs ls hP hD hS hl
  obtain ⟨hx, hb, hml, hown, hts, hnw, hK, hA, hZ, hT, hce, hsl⟩ := F
  unfold bz_if_lt at h
  simp only [bz_ifi] at h
  split at h
  · rename_i x r
    simp only [Option.some.injEq, Prod.mk.injEq] at h
    obtain ⟨rfl, rfl⟩ := h
    refine lv_if_lt hx hb hd ht (fun hc => ?_) (fun hc => ?_)
    · rw [if_pos hc] at kk
      exact (kk hn H locs ls hP hD hS hl)
    · rw [if_neg hc] at kk
      exact (kk hn H locs ls hP hD hS hl)
  · cases h
theorem bz_o_ic_lt {off : Int} {t : Nat} (hd : decode bytes pc = .ok (.if_icmp .lt off, 3)) (ht : (pc : Int) + off = (t : Int)) : bz_ok own bytes pc (bz_ic_lt t) := by
  intro X p l e R s m args below meth c Qf A ad ca D cells slots nL F L st σ g b h hg kk hn H locs ls hP hD hS hl
  obtain ⟨hx, hb, hml, hown, hts, hnw, hK, hA, hZ, hT, hce, hsl⟩ := F
  unfold bz_ic_lt at h
  simp only [bz_icm] at h
  split at h
  · rename_i y x r
    simp only [Option.some.injEq, Prod.mk.injEq] at h
    obtain ⟨rfl, rfl⟩ := h
    refine lv_icmp_lt hx hb hd ht (fun hc => ?_) (fun hc => ?_)
    · rw [if_pos hc] at kk
      exact (kk hn H locs ls hP hD hS hl)
    · rw [if_neg hc] at kk
      exact (kk hn H locs ls hP hD hS hl)
  · cases h
def bz_if_ge (t : Nat) : bz_Op := bz_ifi (fun x => 0 ≤ x) (fun x => inferInstanceAs (Decidable (0 ≤ x))) t
def bz_ic_ge (t : Nat) : bz_Op := bz_icm (fun x y => y ≤ x) (fun x y => inferInstanceAs (Decidable (y ≤ x))) t
theorem bz_o_if_ge {off : Int} {t : Nat} (hd : decode bytes pc = .ok (.ifCond .ge off, 3)) (ht : (pc : Int) + off = (t : Int)) : bz_ok own bytes pc (bz_if_ge t) := by
  intro X p l e R s m args below meth c Qf A ad ca D cells slots nL F L st σ g b h hg kk hn H locs ls hP hD hS hl
  obtain ⟨hx, hb, hml, hown, hts, hnw, hK, hA, hZ, hT, hce, hsl⟩ := F
  unfold bz_if_ge at h
  simp only [bz_ifi] at h
  split at h
  · rename_i x r
    simp only [Option.some.injEq, Prod.mk.injEq] at h
    obtain ⟨rfl, rfl⟩ := h
    refine lv_if_ge hx hb hd ht (fun hc => ?_) (fun hc => ?_)
    · rw [if_pos hc] at kk
      exact (kk hn H locs ls hP hD hS hl)
    · rw [if_neg hc] at kk
      exact (kk hn H locs ls hP hD hS hl)
  · cases h
theorem bz_o_ic_ge {off : Int} {t : Nat} (hd : decode bytes pc = .ok (.if_icmp .ge off, 3)) (ht : (pc : Int) + off = (t : Int)) : bz_ok own bytes pc (bz_ic_ge t) := by
  intro X p l e R s m args below meth c Qf A ad ca D cells slots nL F L st σ g b h hg kk hn H locs ls hP hD hS hl
  obtain ⟨hx, hb, hml, hown, hts, hnw, hK, hA, hZ, hT, hce, hsl⟩ := F
  unfold bz_ic_ge at h
  simp only [bz_icm] at h
  split at h
  · rename_i y x r
    simp only [Option.some.injEq, Prod.mk.injEq] at h
    obtain ⟨rfl, rfl⟩ := h
    refine lv_icmp_ge hx hb hd ht (fun hc => ?_) (fun hc => ?_)
    · rw [if_pos hc] at kk
      exact (kk hn H locs ls hP hD hS hl)
    · rw [if_neg hc] at kk
      exact (kk hn H locs ls hP hD hS hl)
  · cases h
def bz_if_gt (t : Nat) : bz_Op := bz_ifi (fun x => 0 < x) (fun x => inferInstanceAs (Decidable (0 < x))) t
def bz_ic_gt (t : Nat) : bz_Op := bz_icm (fun x y => y < x) (fun x y => inferInstanceAs (Decidable (y < x))) t
theorem bz_o_if_gt {off : Int} {t : Nat} (hd : decode bytes pc = .ok (.ifCond .gt off, 3)) (ht : (pc : Int) + off = (t : Int)) : bz_ok own bytes pc (bz_if_gt t) := by
  intro X p l e R s m args below meth c Qf A ad ca D cells slots nL F L st σ g b h hg kk hn H locs ls hP hD hS hl
  obtain ⟨hx, hb, hml, hown, hts, hnw, hK, hA, hZ, hT, hce, hsl⟩ := F
  unfold bz_if_gt at h
  simp only [bz_ifi] at h
  split at h
  · rename_i x r
    simp only [Option.some.injEq, Prod.mk.injEq] at h
    obtain ⟨rfl, rfl⟩ := h
    refine lv_if_gt hx hb hd ht (fun hc => ?_) (fun hc => ?_)
    · rw [if_pos hc] at kk
      exact (kk hn H locs ls hP hD hS hl)
    · rw [if_neg hc] at kk
      exact (kk hn H locs ls hP hD hS hl)
  · cases h
theorem bz_o_ic_gt {off : Int} {t : Nat} (hd : decode bytes pc = .ok (.if_icmp .gt off, 3)) (ht : (pc : Int) + off = (t : Int)) : bz_ok own bytes pc (bz_ic_gt t) := by
  intro X p l e R s m args below meth c Qf A ad ca D cells slots nL F L st σ g b h hg kk hn H locs ls hP hD hS hl
  obtain ⟨hx, hb, hml, hown, hts, hnw, hK, hA, hZ, hT, hce, hsl⟩ := F
  unfold bz_ic_gt at h
  simp only [bz_icm] at h
  split at h
  · rename_i y x r
    simp only [Option.some.injEq, Prod.mk.injEq] at h
    obtain ⟨rfl, rfl⟩ := h
    refine lv_icmp_gt hx hb hd ht (fun hc => ?_) (fun hc => ?_)
    · rw [if_pos hc] at kk
      exact (kk hn H locs ls hP hD hS hl)
    · rw [if_neg hc] at kk
      exact (kk hn H locs ls hP hD hS hl)
  · cases h
def bz_if_le (t : Nat) : bz_Op := bz_ifi (fun x => x ≤ 0) (fun x => inferInstanceAs (Decidable (x ≤ 0))) t
def bz_ic_le (t : Nat) : bz_Op := bz_icm (fun x y => x ≤ y) (fun x y => inferInstanceAs (Decidable (x ≤ y))) t
theorem bz_o_if_le {off : Int} {t : Nat} (hd : decode bytes pc = .ok (.ifCond .le off, 3)) (ht : (pc : Int) + off = (t : Int)) : bz_ok own bytes pc (bz_if_le t) := by
  intro X p l e R s m args below meth c Qf A ad ca D cells slots nL F L st σ g b h hg kk hn H locs ls hP hD hS hl
  obtain ⟨hx, hb, hml, hown, hts, hnw, hK, hA, hZ, hT, hce, hsl⟩ := F
  unfold bz_if_le at h
  simp only [bz_ifi] at h
  split at h
  · rename_i x r
    simp only [Option.some.injEq, Prod.mk.injEq] at h
    obtain ⟨rfl, rfl⟩ := h
    refine lv_if_le hx hb hd ht (fun hc => ?_) (fun hc => ?_)
    · rw [if_pos hc] at kk
      exact (kk hn H locs ls hP hD hS hl)
    · rw [if_neg hc] at kk
      exact (kk hn H locs ls hP hD hS hl)
  · cases h
theorem bz_o_ic_le {off : Int} {t : Nat} (hd : decode bytes pc = .ok (.if_icmp .le off, 3)) (ht : (pc : Int) + off = (t : Int)) : bz_ok own bytes pc (bz_ic_le t) := by
  intro X p l e R s m args below meth c Qf A ad ca D cells slots nL F L st σ g b h hg kk hn H locs ls hP hD hS hl
  obtain ⟨hx, hb, hml, hown, hts, hnw, hK, hA, hZ, hT, hce, hsl⟩ := F
  unfold bz_ic_le at h
  simp only [bz_icm] at h
  split at h
  · rename_i y x r
    simp only [Option.some.injEq, Prod.mk.injEq] at h
    obtain ⟨rfl, rfl⟩ := h
    refine lv_icmp_le hx hb hd ht (fun hc => ?_) (fun hc => ?_)
    · rw [if_pos hc] at kk
      exact (kk hn H locs ls hP hD hS hl)
    · rw [if_neg hc] at kk
      exact (kk hn H locs ls hP hD hS hl)
  · cases h

def bz_mk : Int → List Nat → List (Int × Nat)
  | _, [] => []
  | lo, t :: r => (lo, t) :: bz_mk (lo + 1) r
theorem bz_sw_mk (d : Nat) (x : Int) : ∀ (ts : List Nat) (lo : Int), (x < lo ∨ lo + ts.length ≤ x → bz_sw x (bz_mk lo ts) d = d) ∧ (lo ≤ x → x < lo + ts.length → bz_sw x (bz_mk lo ts) d = ts.getD (x - lo).toNat 0) := by
  intro ts
  induction ts with
  | nil =>
    intro lo
    exact ⟨fun _ => rfl, fun h1 h2 => by simp at h2; omega⟩
  | cons t r ih =>
    intro lo
    obtain ⟨i1, i2⟩ := ih (lo + 1)
    refine ⟨fun h => ?_, fun h1 h2 => ?_⟩
    · simp only [List.length_cons] at h
      have hne : ¬ x = lo := by omega
      simp only [bz_mk, bz_sw, if_neg hne]
      exact i1 (by omega)
    · simp only [List.length_cons] at h2
      by_cases hx : x = lo
      · subst hx
        simp [bz_mk, bz_sw]
      · simp only [bz_mk, bz_sw, if_neg hx]
        rw [i2 (by omega) (by omega)]
        have : (x - lo).toNat = (x - (lo + 1)).toNat + 1 := by omega
        rw [this]
        simp
theorem bz_sw_lk (pc : Nat) (df : Int) (d : Nat) (x : Int) (hd : (pc : Int) + df = d) : ∀ (ps : List (Int × Int)) (cs : List (Int × Nat)), ps.map (fun q => (q.1, (pc : Int) + q.2)) = cs.map (fun q => (q.1, (q.2 : Int))) → (pc : Int) + Op.lookupswitch.offset ps df x = (bz_sw x cs d : Nat) := by
  intro ps
  induction ps with
  | nil =>
    intro cs h
    cases cs with
    | nil => simpa [Op.lookupswitch.offset, bz_sw] using hd
    | cons c cs => simp at h
  | cons q ps ih =>
    intro cs h
    cases cs with
    | nil => simp at h
    | cons c cs =>
      simp only [List.map_cons, List.cons.injEq, Prod.mk.injEq] at h
      obtain ⟨⟨h1, h2⟩, h3⟩ := h
      obtain ⟨a, o⟩ := q
      obtain ⟨a', t⟩ := c
      dsimp only at h1 h2
      subst h1
      rw [Op.lookupswitch.offset_cons]
      by_cases hx : x = a
      · subst hx
        simp [bz_sw, h2]
      · rw [if_neg (fun z => hx z.symm)]
        simp only [bz_sw, if_neg hx]
        exact ih cs h3
theorem bz_o_getI {ci k idx N kd : Nat} {C : String} {T : u_T} (hcl : vwCl[ci]? = some (C, T, N)) (hin : ∀ w ∈ u_ws C T N, w ∈ bz_TB) (hN : (bz_fk ci).length = N) (hk : (bz_fk ci)[k]? = some kd) (hw : Cond.fieldLink own idx (T k).1 (T k).2.1 (T k).2.2.1 ∈ bz_TB) (hkd : kd = 0 ∨ kd = 3) (hd : decode bytes pc = .ok (.getfield idx, 3)) : bz_ok own bytes pc (bz_getI ci k) := by
  intro X p l e R s m args below meth c Qf A ad ca D cells slots nL F L st σ g b h hg kk hn H locs ls hP hD hS hl
  obtain ⟨hx, hb, hml, hown, hts, hnw, hK, hA, hZ, hT, hce, hsl⟩ := F
  simp only [bz_getI] at h
  split at h
  · rename_i o r
    cases hb0 : bz_isO o ci with
    | false => rw [hb0] at h; cases h
    | true =>
      rw [hb0] at h
      simp only [cond_true, Option.some.injEq, Prod.mk.injEq] at h
      obtain ⟨rfl, rfl⟩ := h
      obtain ⟨ps, hsh⟩ := bz_isO_sp hb0
      have hkN : k < N := by rw [← hN]; exact (List.getElem?_eq_some_iff.mp hk).1
      have hgd : (bz_fk ci).getD k 0 = kd := by rw [List.getD_eq_getElem?_getD, hk]; rfl
      refine va_get (D := D) (cl := vwCl) (ci := ci) (C := C) (T := T) (N := N) (ws := bz_W ad ca σ) (fs := (List.range (bz_fk ci).length).map (fun k => bz_fv ad σ o ps k ((bz_fk ci).getD k 0))) hx hb hts hin hown hK hP o (bz_W_at hsh) hcl k hkN (hts _ hw) (fun _ h9 => h9) (v := .int (σ.1 o k)) ?_ hd (kk hn H locs ls hP hD hS hl)
      rw [List.getElem?_map, List.getElem?_range (by rw [hN]; exact hkN), Option.map_some, hgd]
      rcases hkd with rfl | rfl <;> rfl
  · cases h
theorem bz_o_getL {ci k idx N kd : Nat} {C : String} {T : u_T} (hcl : vwCl[ci]? = some (C, T, N)) (hin : ∀ w ∈ u_ws C T N, w ∈ bz_TB) (hN : (bz_fk ci).length = N) (hk : (bz_fk ci)[k]? = some kd) (hw : Cond.fieldLink own idx (T k).1 (T k).2.1 (T k).2.2.1 ∈ bz_TB) (hkd : kd = 1) (hd : decode bytes pc = .ok (.getfield idx, 3)) : bz_ok own bytes pc (bz_getL ci k) := by
  intro X p l e R s m args below meth c Qf A ad ca D cells slots nL F L st σ g b h hg kk hn H locs ls hP hD hS hl
  obtain ⟨hx, hb, hml, hown, hts, hnw, hK, hA, hZ, hT, hce, hsl⟩ := F
  simp only [bz_getL] at h
  split at h
  · rename_i o r
    cases hb0 : bz_isO o ci with
    | false => rw [hb0] at h; cases h
    | true =>
      rw [hb0] at h
      simp only [cond_true, Option.some.injEq, Prod.mk.injEq] at h
      obtain ⟨rfl, rfl⟩ := h
      obtain ⟨ps, hsh⟩ := bz_isO_sp hb0
      have hkN : k < N := by rw [← hN]; exact (List.getElem?_eq_some_iff.mp hk).1
      have hgd : (bz_fk ci).getD k 0 = kd := by rw [List.getD_eq_getElem?_getD, hk]; rfl
      refine va_get (D := D) (cl := vwCl) (ci := ci) (C := C) (T := T) (N := N) (ws := bz_W ad ca σ) (fs := (List.range (bz_fk ci).length).map (fun k => bz_fv ad σ o ps k ((bz_fk ci).getD k 0))) hx hb hts hin hown hK hP o (bz_W_at hsh) hcl k hkN (hts _ hw) (fun _ h9 => h9) (v := .long (σ.2 o k)) ?_ hd (kk hn H locs ls hP hD hS hl)
      rw [List.getElem?_map, List.getElem?_range (by rw [hN]; exact hkN), Option.map_some, hgd]
      subst hkd; rfl
  · cases h
theorem bz_o_getR {ci k idx N kd : Nat} {C : String} {T : u_T} (hcl : vwCl[ci]? = some (C, T, N)) (hin : ∀ w ∈ u_ws C T N, w ∈ bz_TB) (hN : (bz_fk ci).length = N) (hk : (bz_fk ci)[k]? = some kd) (hw : Cond.fieldLink own idx (T k).1 (T k).2.1 (T k).2.2.1 ∈ bz_TB) (hkd : kd = 2) (hd : decode bytes pc = .ok (.getfield idx, 3)) : bz_ok own bytes pc (bz_getR ci k) := by
  intro X p l e R s m args below meth c Qf A ad ca D cells slots nL F L st σ g b h hg kk hn H locs ls hP hD hS hl
  obtain ⟨hx, hb, hml, hown, hts, hnw, hK, hA, hZ, hT, hce, hsl⟩ := F
  simp only [bz_getR] at h
  split at h
  · rename_i o r
    cases hb0 : bz_isO o ci with
    | false => rw [hb0] at h; cases h
    | true =>
      rw [hb0] at h
      simp only [cond_true, Option.some.injEq, Prod.mk.injEq] at h
      obtain ⟨rfl, rfl⟩ := h
      obtain ⟨ps, hsh⟩ := bz_isO_sp hb0
      have hkN : k < N := by rw [← hN]; exact (List.getElem?_eq_some_iff.mp hk).1
      have hgd : (bz_fk ci).getD k 0 = kd := by rw [List.getD_eq_getElem?_getD, hk]; rfl
      refine va_get (D := D) (cl := vwCl) (ci := ci) (C := C) (T := T) (N := N) (ws := bz_W ad ca σ) (fs := (List.range (bz_fk ci).length).map (fun k => bz_fv ad σ o ps k ((bz_fk ci).getD k 0))) hx hb hts hin hown hK hP o (bz_W_at hsh) hcl k hkN (hts _ hw) (fun _ h9 => h9) (v := .ref (ad (bz_ref o k))) ?_ hd (kk hn H locs ls hP hD hS hl)
      rw [List.getElem?_map, List.getElem?_range (by rw [hN]; exact hkN), Option.map_some, hgd]
      subst hkd; simp [bz_fv, bz_ref, hsh]
  · cases h
theorem bz_o_putI {ci k idx N kd : Nat} {C : String} {T : u_T} (hcl : vwCl[ci]? = some (C, T, N)) (hin : ∀ w ∈ u_ws C T N, w ∈ bz_TB) (hN : (bz_fk ci).length = N) (hk : (bz_fk ci)[k]? = some kd) (hw : Cond.fieldLink own idx (T k).1 (T k).2.1 (T k).2.2.1 ∈ bz_TB) (ty : Nat → FieldType) (hty : ∀ k, k < N → parseFieldDescriptor (T k).2.2.1 = some (ty k)) (hnm : ∀ a, a < N → ∀ b, b < N → a ≠ b → (T a).2.1 ≠ (T b).2.1) (hfin : (T k).2.2.2 = false) (hkd : kd = 0) (htk : ty k = .int) (hd : decode bytes pc = .ok (.putfield idx, 3)) : bz_ok own bytes pc (bz_putI ci k) := by
  intro X p l e R s m args below meth c Qf A ad ca D cells slots nL F L st σ g b h hg kk hn H locs ls hP hD hS hl
  obtain ⟨hx, hb, hml, hown, hts, hnw, hK, hA, hZ, hT, hce, hsl⟩ := F
  simp only [bz_putI] at h
  split at h
  · rename_i x o r
    cases hb0 : bz_isO o ci with
    | false => rw [hb0] at h; cases h
    | true =>
      rw [hb0] at h
      simp only [cond_true, Option.some.injEq, Prod.mk.injEq] at h
      obtain ⟨rfl, rfl⟩ := h
      obtain ⟨ps, hsh⟩ := bz_isO_sp hb0
      have hkN : k < N := by rw [← hN]; exact (List.getElem?_eq_some_iff.mp hk).1
      have hgd : (bz_fk ci).getD k 0 = kd := by rw [List.getD_eq_getElem?_getD, hk]; rfl
      refine va_put (D := D) (cl := vwCl) (ci := ci) (C := C) (T := T) (N := N) (v := .int x) (ws := bz_W ad ca σ) (fs := (List.range (bz_fk ci).length).map (fun k => bz_fv ad σ o ps k ((bz_fk ci).getD k 0))) hx hb hts hin ty hty hnm hown hK hP hD hS o (bz_W_at hsh) hcl k hkN (hts _ hw) (fun _ h9 => h9) hfin (hty k hkN) (by rw [htk]; rfl) (by rw [htk]; rfl) (by simp [hN, hkN]) hd (fun H1 locs1 hP1 hD1 hS1 => ?_)
      have e1 : (bz_W ad ca σ).set o (ad o, .inr (ci, ((List.range (bz_fk ci).length).map (fun k => bz_fv ad σ o ps k ((bz_fk ci).getD k 0))).set k (.int x))) = bz_W ad ca (bz_up σ.1 o k x, σ.2) := by
        refine bz_W_set hsh ?_ (fun q hq j => ⟨?_, ?_⟩)
        · rw [bz_fs_set (σ' := (bz_up σ.1 o k x, σ.2)) (by rw [hgd]; subst hkd; simp [bz_fv, bz_up_s]) (fun j hj => ⟨?_, ?_⟩)]
          · rfl
          · first | rfl | exact bz_up_k hj
          · first | rfl | exact bz_up_k hj
        · first | rfl | exact bz_up_o hq
        · first | rfl | exact bz_up_o hq
      rw [e1] at hP1 hD1
      exact kk hn H1 locs1 ls hP1 hD1 hS1 hl
  · cases h
theorem bz_o_putZ {ci k idx N kd : Nat} {C : String} {T : u_T} (hcl : vwCl[ci]? = some (C, T, N)) (hin : ∀ w ∈ u_ws C T N, w ∈ bz_TB) (hN : (bz_fk ci).length = N) (hk : (bz_fk ci)[k]? = some kd) (hw : Cond.fieldLink own idx (T k).1 (T k).2.1 (T k).2.2.1 ∈ bz_TB) (ty : Nat → FieldType) (hty : ∀ k, k < N → parseFieldDescriptor (T k).2.2.1 = some (ty k)) (hnm : ∀ a, a < N → ∀ b, b < N → a ≠ b → (T a).2.1 ≠ (T b).2.1) (hfin : (T k).2.2.2 = false) (hkd : kd = 3) (htk : ty k = .boolean) (hd : decode bytes pc = .ok (.putfield idx, 3)) : bz_ok own bytes pc (bz_putZ ci k) := by
  intro X p l e R s m args below meth c Qf A ad ca D cells slots nL F L st σ g b h hg kk hn H locs ls hP hD hS hl
  obtain ⟨hx, hb, hml, hown, hts, hnw, hK, hA, hZ, hT, hce, hsl⟩ := F
  simp only [bz_putZ] at h
  split at h
  · rename_i x o r
    cases hb0 : bz_isO o ci with
    | false => rw [hb0] at h; cases h
    | true =>
      rw [hb0] at h
      simp only [cond_true, Option.some.injEq, Prod.mk.injEq] at h
      obtain ⟨rfl, rfl⟩ := h
      obtain ⟨ps, hsh⟩ := bz_isO_sp hb0
      have hkN : k < N := by rw [← hN]; exact (List.getElem?_eq_some_iff.mp hk).1
      have hgd : (bz_fk ci).getD k 0 = kd := by rw [List.getD_eq_getElem?_getD, hk]; rfl
      refine va_put (D := D) (cl := vwCl) (ci := ci) (C := C) (T := T) (N := N) (v := .int x) (ws := bz_W ad ca σ) (fs := (List.range (bz_fk ci).length).map (fun k => bz_fv ad σ o ps k ((bz_fk ci).getD k 0))) hx hb hts hin ty hty hnm hown hK hP hD hS o (bz_W_at hsh) hcl k hkN (hts _ hw) (fun _ h9 => h9) hfin (hty k hkN) (by rw [htk]; rcases hg.1 with q | q <;> rw [q] <;> rfl) (by rw [htk]; rcases hg.1 with q | q <;> rw [q] <;> rfl) (by simp [hN, hkN]) hd (fun H1 locs1 hP1 hD1 hS1 => ?_)
      have e1 : (bz_W ad ca σ).set o (ad o, .inr (ci, ((List.range (bz_fk ci).length).map (fun k => bz_fv ad σ o ps k ((bz_fk ci).getD k 0))).set k (.int x))) = bz_W ad ca (bz_up σ.1 o k x, σ.2) := by
        refine bz_W_set hsh ?_ (fun q hq j => ⟨?_, ?_⟩)
        · rw [bz_fs_set (σ' := (bz_up σ.1 o k x, σ.2)) (by rw [hgd]; subst hkd; simp [bz_fv, bz_up_s]) (fun j hj => ⟨?_, ?_⟩)]
          · rfl
          · first | rfl | exact bz_up_k hj
          · first | rfl | exact bz_up_k hj
        · first | rfl | exact bz_up_o hq
        · first | rfl | exact bz_up_o hq
      rw [e1] at hP1 hD1
      exact kk hn H1 locs1 ls hP1 hD1 hS1 hl
  · cases h
theorem bz_o_putL {ci k idx N kd : Nat} {C : String} {T : u_T} (hcl : vwCl[ci]? = some (C, T, N)) (hin : ∀ w ∈ u_ws C T N, w ∈ bz_TB) (hN : (bz_fk ci).length = N) (hk : (bz_fk ci)[k]? = some kd) (hw : Cond.fieldLink own idx (T k).1 (T k).2.1 (T k).2.2.1 ∈ bz_TB) (ty : Nat → FieldType) (hty : ∀ k, k < N → parseFieldDescriptor (T k).2.2.1 = some (ty k)) (hnm : ∀ a, a < N → ∀ b, b < N → a ≠ b → (T a).2.1 ≠ (T b).2.1) (hfin : (T k).2.2.2 = false) (hkd : kd = 1) (htk : ty k = .long) (hd : decode bytes pc = .ok (.putfield idx, 3)) : bz_ok own bytes pc (bz_putL ci k) := by
  intro X p l e R s m args below meth c Qf A ad ca D cells slots nL F L st σ g b h hg kk hn H locs ls hP hD hS hl
  obtain ⟨hx, hb, hml, hown, hts, hnw, hK, hA, hZ, hT, hce, hsl⟩ := F
  simp only [bz_putL] at h
  split at h
  · rename_i x o r
    cases hb0 : bz_isO o ci with
    | false => rw [hb0] at h; cases h
    | true =>
      rw [hb0] at h
      simp only [cond_true, Option.some.injEq, Prod.mk.injEq] at h
      obtain ⟨rfl, rfl⟩ := h
      obtain ⟨ps, hsh⟩ := bz_isO_sp hb0
      have hkN : k < N := by rw [← hN]; exact (List.getElem?_eq_some_iff.mp hk).1
      have hgd : (bz_fk ci).getD k 0 = kd := by rw [List.getD_eq_getElem?_getD, hk]; rfl
      refine va_put (D := D) (cl := vwCl) (ci := ci) (C := C) (T := T) (N := N) (v := .long x) (ws := bz_W ad ca σ) (fs := (List.range (bz_fk ci).length).map (fun k => bz_fv ad σ o ps k ((bz_fk ci).getD k 0))) hx hb hts hin ty hty hnm hown hK hP hD hS o (bz_W_at hsh) hcl k hkN (hts _ hw) (fun _ h9 => h9) hfin (hty k hkN) (by rw [htk]; rfl) (by rw [htk]; rfl) (by simp [hN, hkN]) hd (fun H1 locs1 hP1 hD1 hS1 => ?_)
      have e1 : (bz_W ad ca σ).set o (ad o, .inr (ci, ((List.range (bz_fk ci).length).map (fun k => bz_fv ad σ o ps k ((bz_fk ci).getD k 0))).set k (.long x))) = bz_W ad ca (σ.1, bz_up σ.2 o k x) := by
        refine bz_W_set hsh ?_ (fun q hq j => ⟨?_, ?_⟩)
        · rw [bz_fs_set (σ' := (σ.1, bz_up σ.2 o k x)) (by rw [hgd]; subst hkd; simp [bz_fv, bz_up_s]) (fun j hj => ⟨?_, ?_⟩)]
          · rfl
          · first | rfl | exact bz_up_k hj
          · first | rfl | exact bz_up_k hj
        · first | rfl | exact bz_up_o hq
        · first | rfl | exact bz_up_o hq
      rw [e1] at hP1 hD1
      exact kk hn H1 locs1 ls hP1 hD1 hS1 hl
  · cases h
theorem bz_o_zald (hd : decode bytes pc = .ok (.baload, 1)) : bz_ok own bytes pc (bz_zald) := by
  intro X p l e R s m args below meth c Qf A ad ca D cells slots nL F L st σ g b h hg kk hn H locs ls hP hD hS hl
  obtain ⟨hx, hb, hml, hown, hts, hnw, hK, hA, hZ, hT, hce, hsl⟩ := F
  simp only [bz_zald] at h
  split at h
  · rename_i i o r
    split at h
    · rename_i n hA0
      simp only [Option.some.injEq, Prod.mk.injEq] at h
      obtain ⟨rfl, rfl⟩ := h
      obtain ⟨rs, hsh⟩ := bz_isA_sp hA0
      exact va_zald (ws := bz_W ad ca σ) (tys := bz_tys ca) hx hb hK hP o 2 (bz_W_at hsh) rfl hg.1 hd (kk hn H locs ls hP hD hS hl)
    · cases h
  · cases h
theorem bz_o_lald (hd : decode bytes pc = .ok (.laload, 1)) : bz_ok own bytes pc (bz_lald) := by
  intro X p l e R s m args below meth c Qf A ad ca D cells slots nL F L st σ g b h hg kk hn H locs ls hP hD hS hl
  obtain ⟨hx, hb, hml, hown, hts, hnw, hK, hA, hZ, hT, hce, hsl⟩ := F
  simp only [bz_lald] at h
  split at h
  · rename_i i o r
    split at h
    · rename_i n hA0
      simp only [Option.some.injEq, Prod.mk.injEq] at h
      obtain ⟨rfl, rfl⟩ := h
      obtain ⟨rs, hsh⟩ := bz_isA_sp hA0
      exact va_lald (ws := bz_W ad ca σ) (tys := bz_tys ca) hx hb hK hP o 1 (bz_W_at hsh) rfl hg.1 hd (kk hn H locs ls hP hD hS hl)
    · cases h
  · cases h
theorem bz_o_aald (hd : decode bytes pc = .ok (.aaload, 1)) : bz_ok own bytes pc (bz_aald) := by
  intro X p l e R s m args below meth c Qf A ad ca D cells slots nL F L st σ g b h hg kk hn H locs ls hP hD hS hl
  obtain ⟨hx, hb, hml, hown, hts, hnw, hK, hA, hZ, hT, hce, hsl⟩ := F
  simp only [bz_aald] at h
  split at h
  · rename_i i o r
    split at h
    · rename_i n hA0
      simp only [Option.some.injEq, Prod.mk.injEq] at h
      obtain ⟨rfl, rfl⟩ := h
      obtain ⟨rs, hsh⟩ := bz_isA_sp hA0
      have k0 := (kk hn H locs ls hP hD hS hl)
      have er : bz_ref o i.toNatClampNeg = (n :: rs).getD (i.toNatClampNeg + 1) 0 := by simp [bz_ref, hsh]
      rw [er] at k0
      exact va_aldq (ws := bz_W ad ca σ) (tys := bz_tys ca) hx hb hK hP o 3 (bz_W_at hsh) rfl hg.1 hd k0
    · cases h
  · cases h
theorem bz_o_iald (hd : decode bytes pc = .ok (.iaload, 1)) : bz_ok own bytes pc (bz_iald) := by
  intro X p l e R s m args below meth c Qf A ad ca D cells slots nL F L st σ g b h hg kk hn H locs ls hP hD hS hl
  obtain ⟨hx, hb, hml, hown, hts, hnw, hK, hA, hZ, hT, hce, hsl⟩ := F
  simp only [bz_iald] at h
  split at h
  · rename_i i o r
    cases hb0 : Nat.blt o 1000 with
    | true =>
      rw [hb0] at h
      simp only [cond_true] at h
      split at h
      · rename_i n hA0
        simp only [Option.some.injEq, Prod.mk.injEq] at h
        obtain ⟨rfl, rfl⟩ := h
        obtain ⟨rs, hsh⟩ := bz_isA_sp hA0
        exact va_iald (ws := bz_W ad ca σ) (tys := bz_tys ca) hx hb hK hP o 0 (bz_W_at hsh) rfl hg.1 hd (kk hn H locs ls hP hD hS hl)
      · cases h
    | false =>
      rw [hb0] at h
      simp only [cond_false] at h
      cases hb1 : Nat.blt o 1004 with
      | false => rw [hb1] at h; cases h
      | true =>
        rw [hb1] at h
        simp only [cond_true, Option.some.injEq, Prod.mk.injEq] at h
        obtain ⟨rfl, rfl⟩ := h
        have h1 : ¬ o < 1000 := fun z => by
          have : Nat.blt o 1000 = true := Nat.ble_eq_true_of_le z
          rw [this] at hb0; cases hb0
        have h2 : o < 1004 := Nat.le_of_ble_eq_true hb1
        obtain ⟨j, hj4, rfl⟩ : ∃ j, j < 4 ∧ o = 1000 + j := bz_o1000 o h1 h2
        rw [Nat.add_sub_cancel_left] at hg kk
        exact va_ti hx hb (hT j hj4) hS hg.1 rfl hd (kk hn H locs ls hP hD hS hl)
  · cases h
theorem bz_o_iast (hd : decode bytes pc = .ok (.iastore, 1)) : bz_ok own bytes pc (bz_iast) := by
  intro X p l e R s m args below meth c Qf A ad ca D cells slots nL F L st σ g b h hg kk hn H locs ls hP hD hS hl
  obtain ⟨hx, hb, hml, hown, hts, hnw, hK, hA, hZ, hT, hce, hsl⟩ := F
  simp only [bz_iast] at h
  split at h
  · rename_i x i o r
    split at h
    · rename_i n hA0
      simp only [Option.some.injEq, Prod.mk.injEq] at h
      obtain ⟨rfl, rfl⟩ := h
      obtain ⟨rs, hsh⟩ := bz_isA_sp hA0
      refine va_iast (n := n) (f := σ.1 o) (ws := bz_W ad ca σ) (tys := bz_tys ca) hx hb hK hP hD hS o 0 (bz_W_at hsh) rfl hg.1 hd (fun H1 locs1 hP1 hD1 hS1 => ?_)
      have e1 : (bz_W ad ca σ).set o (ad o, .inl (ca 0, n, .inl (upd (σ.1 o) i.toNatClampNeg x))) = bz_W ad ca (bz_up σ.1 o i.toNatClampNeg x, σ.2) := by
        refine bz_W_set hsh ?_ (fun q hq j => ⟨?_, ?_⟩)
        · refine congrArg (fun f => (Sum.inl (ca 0, n, .inl f) : va_E)) ?_
          funext j
          simp [bz_up, upd, vp_updL]
        · first | rfl | exact bz_up_o hq
        · first | rfl | exact bz_up_o hq
      rw [e1] at hP1 hD1
      exact kk hn H1 locs1 ls hP1 hD1 hS1 hl
    · cases h
  · cases h
theorem bz_o_last (hd : decode bytes pc = .ok (.lastore, 1)) : bz_ok own bytes pc (bz_last) := by
  intro X p l e R s m args below meth c Qf A ad ca D cells slots nL F L st σ g b h hg kk hn H locs ls hP hD hS hl
  obtain ⟨hx, hb, hml, hown, hts, hnw, hK, hA, hZ, hT, hce, hsl⟩ := F
  simp only [bz_last] at h
  split at h
  · rename_i x i o r
    split at h
    · rename_i n hA0
      simp only [Option.some.injEq, Prod.mk.injEq] at h
      obtain ⟨rfl, rfl⟩ := h
      obtain ⟨rs, hsh⟩ := bz_isA_sp hA0
      refine va_last (n := n) (f := σ.2 o) (ws := bz_W ad ca σ) (tys := bz_tys ca) hx hb hK hP hD hS o 1 (bz_W_at hsh) rfl hg.1 hd (fun H1 locs1 hP1 hD1 hS1 => ?_)
      have e1 : (bz_W ad ca σ).set o (ad o, .inl (ca 1, n, .inr (.inl (vp_updL (σ.2 o) i.toNatClampNeg x)))) = bz_W ad ca (σ.1, bz_up σ.2 o i.toNatClampNeg x) := by
        refine bz_W_set hsh ?_ (fun q hq j => ⟨?_, ?_⟩)
        · refine congrArg (fun f => (Sum.inl (ca 1, n, .inr (.inl f)) : va_E)) ?_
          funext j
          simp [bz_up, upd, vp_updL]
        · first | rfl | exact bz_up_o hq
        · first | rfl | exact bz_up_o hq
      rw [e1] at hP1 hD1
      exact kk hn H1 locs1 ls hP1 hD1 hS1 hl
    · cases h
  · cases h
theorem bz_o_zast (hd : decode bytes pc = .ok (.bastore, 1)) : bz_ok own bytes pc (bz_zast) := by
  intro X p l e R s m args below meth c Qf A ad ca D cells slots nL F L st σ g b h hg kk hn H locs ls hP hD hS hl
  obtain ⟨hx, hb, hml, hown, hts, hnw, hK, hA, hZ, hT, hce, hsl⟩ := F
  simp only [bz_zast] at h
  split at h
  · rename_i x i o r
    split at h
    · rename_i n hA0
      simp only [Option.some.injEq, Prod.mk.injEq] at h
      obtain ⟨rfl, rfl⟩ := h
      obtain ⟨rs, hsh⟩ := bz_isA_sp hA0
      refine va_zast (n := n) (f := σ.1 o) (ws := bz_W ad ca σ) (tys := bz_tys ca) hx hb hK hP hD hS o 2 (bz_W_at hsh) rfl hg.1.1 hd (fun H1 locs1 hP1 hD1 hS1 => ?_)
      have ez : vp_nar .boolean x = x := by rcases hg.1.2 with q | q <;> rw [q] <;> rfl
      rw [ez] at hP1 hD1
      have e1 : (bz_W ad ca σ).set o (ad o, .inl (ca 2, n, .inl (upd (σ.1 o) i.toNatClampNeg x))) = bz_W ad ca (bz_up σ.1 o i.toNatClampNeg x, σ.2) := by
        refine bz_W_set hsh ?_ (fun q hq j => ⟨?_, ?_⟩)
        · refine congrArg (fun f => (Sum.inl (ca 2, n, .inl f) : va_E)) ?_
          funext j
          simp [bz_up, upd, vp_updL]
        · first | rfl | exact bz_up_o hq
        · first | rfl | exact bz_up_o hq
      rw [e1] at hP1 hD1
      exact kk hn H1 locs1 ls hP1 hD1 hS1 hl
    · cases h
  · cases h
theorem bz_o_slen (hd : decode bytes pc = .ok (.arraylength, 1)) : bz_ok own bytes pc (bz_slen) := by
  intro X p l e R s m args below meth c Qf A ad ca D cells slots nL F L st σ g b h hg kk hn H locs ls hP hD hS hl
  obtain ⟨hx, hb, hml, hown, hts, hnw, hK, hA, hZ, hT, hce, hsl⟩ := F
  simp only [bz_slen] at h
  split at h
  · rename_i o r
    cases hb0 : Nat.beq o 1003 with
    | false => rw [hb0] at h; cases h
    | true =>
      rw [hb0] at h
      simp only [cond_true, Option.some.injEq, Prod.mk.injEq] at h
      obtain ⟨rfl, rfl⟩ := h
      have : o = 1000 + 3 := Nat.eq_of_beq_eq_true hb0
      subst this
      exact va_tlen hx hb (hT 3 (by omega)) hS rfl hd (kk hn H locs ls hP hD hS hl)
  · cases h
theorem bz_o_gets {i idx : Nat} (hi : i < 3) (hd : decode bytes pc = .ok (.getstatic idx, 3)) (hw : Cond.fieldLink own idx "BaizeCorps" (bz_sn i) "[I" ∈ bz_TB) : bz_ok own bytes pc (bz_push (.ref (1000 + i)) 3) := by
  intro X p l e R s m args below meth c Qf A ad ca D cells slots nL F L st σ g b h hg kk hn H locs ls hP hD hS hl
  obtain ⟨hx, hb, hml, hown, hts, hnw, hK, hA, hZ, hT, hce, hsl⟩ := F
  simp only [bz_push, Option.some.injEq, Prod.mk.injEq] at h
  obtain ⟨rfl, rfl⟩ := h
  exact va_gets hx hb (hZ i hi) hS hown (hts _ hw) (fun _ h9 => h9) hd (kk hn H locs ls hP hD hS hl)
theorem bz_o_getsN {i idx : Nat} {host : String} (hi : i < 3) (hd : decode bytes pc = .ok (.getstatic idx, 3)) (hw : Cond.fieldLinkNest own idx "BaizeCorps" (bz_sn i) "[I" host ∈ bz_NB) : bz_ok own bytes pc (bz_push (.ref (1000 + i)) 3) := by
  intro X p l e R s m args below meth c Qf A ad ca D cells slots nL F L st σ g b h hg kk hn H locs ls hP hD hS hl
  obtain ⟨hx, hb, hml, hown, hts, hnw, hK, hA, hZ, hT, hce, hsl⟩ := F
  simp only [bz_push, Option.some.injEq, Prod.mk.injEq] at h
  obtain ⟨rfl, rfl⟩ := h
  exact va_getsN hx hb (hZ i hi) hS hown (va_Nw.use rfl (hnw _ hw)) (fun _ h9 => h9) hd (kk hn H locs ls hP hD hS hl)
theorem bz_o_table {df lo hi : Int} {offs : Array Int} {len d : Nat} {ts : List Nat} (hd : decode bytes pc = .ok (.tableswitch df lo hi offs, len)) (h1 : hi + 1 = lo + ts.length) (h2 : offs.toList.map (fun o => (pc : Int) + o) = ts.map (fun (t : Nat) => (t : Int))) (h3 : (pc : Int) + df = d) : bz_ok own bytes pc (bz_switch (bz_mk lo ts) d) := by
  intro X p l e R s m args below meth c Qf A ad ca D cells slots nL F L st σ g b h hg kk hn H locs ls hP hD hS hl
  obtain ⟨hx, hb, hml, hown, hts, hnw, hK, hA, hZ, hT, hce, hsl⟩ := F
  simp only [bz_switch] at h
  split at h
  · rename_i x r
    simp only [Option.some.injEq, Prod.mk.injEq] at h
    obtain ⟨rfl, rfl⟩ := h
    obtain ⟨i1, i2⟩ := bz_sw_mk d x.toInt ts lo
    by_cases hlo : x.toInt < lo ∨ hi < x.toInt
    · rw [i1 (by omega)] at kk
      exact lv_tableOut hx hb hd hlo h3 (kk hn H locs ls hP hD hS hl)
    · have hi1 : lo ≤ x.toInt := by omega
      have hi2 : x.toInt < lo + ts.length := by omega
      rw [i2 hi1 hi2] at kk
      have hj : (x.toInt - lo).toNat < ts.length := by omega
      have hlen : offs.toList.length = ts.length := by have := congrArg List.length h2; simpa using this
      have hj2 : (x.toInt - lo).toNat < offs.size := by rw [← Array.length_toList, hlen]; exact hj
      have e1 : (offs.toList.map (fun o => (pc : Int) + o))[(x.toInt - lo).toNat]? = (ts.map (fun (t : Nat) => (t : Int)))[(x.toInt - lo).toNat]? := by rw [h2]
      have e2 : offs.toList[(x.toInt - lo).toNat]? = some (offs[(x.toInt - lo).toNat]'hj2) := by simp [hj2]
      have e3 : ts[(x.toInt - lo).toNat]? = some (ts[(x.toInt - lo).toNat]'hj) := List.getElem?_eq_getElem hj
      rw [List.getElem?_map, List.getElem?_map, e2, e3] at e1
      simp only [Option.map_some, Option.some.injEq] at e1
      have e4 : ts.getD (x.toInt - lo).toNat 0 = ts[(x.toInt - lo).toNat]'hj := by rw [List.getD_eq_getElem?_getD, e3]; rfl
      rw [e4] at kk
      exact lv_tableIn hx hb hd (by omega) (by omega) (off := offs[(x.toInt - lo).toNat]'hj2) (by simp [hj2]) e1 (kk hn H locs ls hP hD hS hl)
  · cases h
theorem bz_o_lookup {df : Int} {ps : Array (Int × Int)} {len d : Nat} {cs : List (Int × Nat)} (hd : decode bytes pc = .ok (.lookupswitch df ps, len)) (h1 : (ps.toList.zip (ps.toList.drop 1)).all (fun (a, next) => a.1 < next.1) = true) (h2 : ps.toList.map (fun q => (q.1, (pc : Int) + q.2)) = cs.map (fun q => (q.1, (q.2 : Int)))) (h3 : (pc : Int) + df = d) : bz_ok own bytes pc (bz_switch cs d) := by
  intro X p l e R s m args below meth c Qf A ad ca D cells slots nL F L st σ g b h hg kk hn H locs ls hP hD hS hl
  obtain ⟨hx, hb, hml, hown, hts, hnw, hK, hA, hZ, hT, hce, hsl⟩ := F
  simp only [bz_switch] at h
  split at h
  · rename_i x r
    simp only [Option.some.injEq, Prod.mk.injEq] at h
    obtain ⟨rfl, rfl⟩ := h
    exact lv_lookup hx hb hd h1 rfl (bz_sw_lk pc df d x.toInt h3 ps.toList cs h2) (kk hn H locs ls hP hD hS hl)
  · cases h
end OK
