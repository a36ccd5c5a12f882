/-! CALLS AND ANSWERS: a contract of the small machine is one of the kit's -/
/-- the answers of a frame -/
def bz_H (T : List bz_E) (Q : bz_Q) (p : Program) (l : Launch) (e : Env) (R : Room) (s : State) (m : MethodId) (args : Array Value) (below : List Frame) (meth : Method) (c : Code) (Qf : State → Prop) (A : Nat → Prop) (ad : Nat → Nat) (ca : Nat → ClassId) (D : va_G) (cells slots nL : Nat) : Prop := ∀ (pc j : Nat) (st : List Value) (v : Option Value) (σ : bz_S), bz_lk T pc = some (.inr (.inr j)) → bz_rv j st = some v → bz_rg j st → Q v σ → ∀ (H : Heap) (locs : List Loc) (ls : Array Slot), va_P D vwCl (bz_W ad ca σ) H → va_D A (bz_W ad ca σ) → va_S A s.heap H locs → W p l e R s m args below meth c H locs cells slots Qf (F0 m pc ls (st.map (bz_cz ad)))
def bz_snd (P : Nat → bz_M) (l : Launch) (X : bz_X) (k : Nat) (Q : bz_Q) (a : bz_A) : Prop := ∀ (p : Program) (e : Env) (R : Room) (s : State) (m : MethodId) (args : Array Value) (below : List Frame) (meth : Method) (c : Code) (Qf : State → Prop) (A : Nat → Prop) (ad : Nat → Nat) (ca : Nat → ClassId) (D : va_G) (cells slots nL : Nat), bz_F X (P k).1 (P k).2.2.1 p l e R s m args below meth c Qf A ad ca D cells slots nL → (P k).2.2.2.2.2.1 ≤ R.frames → (P k).2.2.2.2.2.2.1 ≤ R.locals → nL = (P k).2.2.2.1 → bz_H (P k).2.2.2.2.2.2.2 Q p l e R s m args below meth c Qf A ad ca D cells slots nL → bz_R p l e R s m args below meth c Qf A ad ca D cells slots nL a
def bz_ws (M : bz_M) : List Cond := .code M.2.1 M.2.2.1 M.2.2.2.1 M.2.2.2.2.1 :: bz_TB
def bz_rm (M : bz_M) : Room := { frames := M.2.2.2.2.2.1, cells := 0, slots := 0, locals := M.2.2.2.2.2.2.1 }
def bz_Pic (X : bz_X) (ad : Nat → Nat) (ca : Nat → ClassId) (D : va_G) (σ : bz_S) (sz : Nat) : State → Prop := fun U => U.heap.size = sz ∧ va_P D vwCl (bz_W ad ca σ) U.heap ∧ va_K D vwCl (bz_tys ca) U ∧ va_D (fun _ => True) (bz_W ad ca σ) ∧ (∀ w ∈ bz_NB, va_Nw w U) ∧ (∀ i, i < 3 → va_Z "BaizeCorps" (bz_sn i) "[I" (.ref (ad (1000 + i))) (va_A (bz_W ad ca σ) sz) U U.heap) ∧ (∀ i, i < 4 → va_T .int (ad (1000 + i)) (bz_tn X i) (fun j => .int (bz_tv X i j)) (va_A (bz_W ad ca σ) sz) U U.heap)
def bz_Qc (ad : Nat → Nat) (ca : Nat → ClassId) (D : va_G) (σ : bz_S) (sz : Nat) (Q : bz_Q) : Array Value → State → Outcome → State → Prop := fun _ st oc t =>
  (∃ (v : Option Value) (σ' : bz_S), oc = .returned v ∧ v.toList.map (bz_cz ad) = v.toList ∧ Q v σ' ∧ va_P D vwCl (bz_W ad ca σ') t.heap ∧ va_D (va_A (bz_W ad ca σ) sz) (bz_W ad ca σ')) ∧ va_F (va_A (bz_W ad ca σ) sz) st t
theorem bz_TB_mem {w : Cond} (h : w ∈ bz_TB) : w ∈ lw_tbl ∧ goodWord w = true := List.mem_filter.mp h
theorem bz_good {ws : List Cond} (h : ∀ w ∈ ws, w ∈ bz_TB) : GoodIn bz_TB ws := fun w hw => ⟨h w hw, good_of_word (bz_TB_mem (h w hw)).2⟩
theorem bz_NB_sp {w : Cond} (h : w ∈ bz_NB) : (∃ a i x h', w = .methodLinkNest a i x h') ∨ ∃ a i b n d h', w = .fieldLinkNest a i b n d h' := by
  have h2 := (List.mem_filter.mp h).2
  split at h2
  · exact Or.inl ⟨_, _, _, _, rfl⟩
  · exact Or.inr ⟨_, _, _, _, _, _, rfl⟩
  · cases h2
theorem bz_NB_warm {s U : State} (hW : s.WarmedH U.vm) (h : ∀ w ∈ bz_NB, va_Nw w s) : ∀ w ∈ bz_NB, va_Nw w U := by
  intro w hw
  have h1 := h w hw
  rcases bz_NB_sp hw with ⟨a, i, x, h', rfl⟩ | ⟨a, i, b, n, d, h', rfl⟩
  · exact va_Nw.warmM hW h1
  · exact va_Nw.warmF hW h1
theorem bz_NB_same {s U : State} (hv : s.vm = U.vm) (h : ∀ w ∈ bz_NB, va_Nw w s) : ∀ w ∈ bz_NB, va_Nw w U := by
  intro w hw
  have h1 := h w hw
  rcases bz_NB_sp hw with ⟨a, i, x, h', rfl⟩ | ⟨a, i, b, n, d, h', rfl⟩
  · exact va_Nw.same rfl hv h1
  · exact va_Nw.same rfl hv h1
theorem bz_blind {X : bz_X} {ad : Nat → Nat} {ca : Nat → ClassId} {D : va_G} {σ : bz_S} {sz : Nat} {av : List Value} : FrameBlind (va_Pc av (bz_Pic X ad ca D σ sz)) := by
  intro a U g mk h
  obtain ⟨h0, h1, h2, h3, h4, h5, h6, h7⟩ := h
  exact ⟨h0, h1, h2, va_K.moved (u := U) (U := U.calling g mk a) (Vm.Alike.refl U.vm) h3, h4, bz_NB_same (s := U) (U := U.calling g mk a) rfl h5, fun i hi => (h6 i hi).moved (U := U.calling g mk a) (Vm.Alike.refl U.vm), fun i hi => (h7 i hi).moved (U := U.calling g mk a) (Vm.Alike.refl U.vm)⟩
theorem bz_in0_mem (ad : Nat → Nat) : ∀ (as : List Value) (i j : Nat) (v : Value), (bz_in0 as)[j]? = some (some v) → (i + j, bz_cz ad v) ∈ lv_args i (as.map (bz_cz ad)) := by
  intro as
  induction as with
  | nil => intro i j v h; simp [bz_in0] at h
  | cons a r ih =>
    intro i j v h
    have one : bz_in0 (a :: r) = some a :: bz_in0 r → (bz_cz ad a).category ≠ 2 → (i + j, bz_cz ad v) ∈ lv_args i ((a :: r).map (bz_cz ad)) := by
      intro he hc
      rw [he] at h
      simp only [List.map_cons, lv_args, if_neg hc]
      cases j with
      | zero =>
        simp only [List.getElem?_cons_zero, Option.some.injEq] at h
        subst h
        exact List.mem_cons_self
      | succ j =>
        rw [List.getElem?_cons_succ] at h
        have := ih (i + 1) j v h
        rw [show i + 1 + j = i + (j + 1) by omega] at this
        exact List.mem_cons_of_mem _ this
    have two : bz_in0 (a :: r) = some a :: none :: bz_in0 r → (bz_cz ad a).category = 2 → (i + j, bz_cz ad v) ∈ lv_args i ((a :: r).map (bz_cz ad)) := by
      intro he hc
      rw [he] at h
      simp only [List.map_cons, lv_args, if_pos hc]
      cases j with
      | zero =>
        simp only [List.getElem?_cons_zero, Option.some.injEq] at h
        subst h
        exact List.mem_cons_self
      | succ j =>
        rw [List.getElem?_cons_succ] at h
        cases j with
        | zero => simp at h
        | succ j =>
          rw [List.getElem?_cons_succ] at h
          have := ih (i + 2) j v h
          rw [show i + 2 + j = i + (j + 1 + 1) by omega] at this
          exact List.mem_cons_of_mem _ this
    cases a with
    | long x => exact two rfl rfl
    | double x => exact two rfl rfl
    | int x => exact one rfl (fun z => by cases z)
    | float x => exact one rfl (fun z => by cases z)
    | null => exact one rfl (fun z => by cases z)
    | ref x => exact one rfl (fun z => by cases z)
    | retAddr x => exact one rfl (fun z => by cases z)
theorem bz_sl_len (ad : Nat → Nat) : ∀ as : List Value, (lg_sl (as.map (bz_cz ad))).length = (bz_in0 as).length := by
  intro as
  induction as with
  | nil => rfl
  | cons a r ih =>
    have e : lg_sl ((a :: r).map (bz_cz ad)) = (if (bz_cz ad a).category = 2 then [.val (bz_cz ad a), .second] else [.val (bz_cz ad a)]) ++ lg_sl (r.map (bz_cz ad)) := rfl
    rw [e, List.length_append, ih]
    cases a <;> simp [bz_in0, bz_cz, Value.category] <;> omega
theorem bz_in_mem {ad : Nat → Nat} {as : List Value} {n : Nat} : ∀ q ∈ bz_lv ad (bz_in n as), q ∈ lv_args 0 (as.map (bz_cz ad)) := by
  rintro ⟨j, w⟩ hq
  obtain ⟨v, hv, hw⟩ := bz_lv_mem.mp hq
  dsimp only at hv hw
  subst hw
  unfold bz_in at hv
  by_cases hj : j < (bz_in0 as).length
  · rw [List.getElem?_append_left hj] at hv
    have := bz_in0_mem ad as 0 j v hv
    rwa [Nat.zero_add] at this
  · rw [List.getElem?_append_right (by omega), List.getElem?_replicate] at hv
    split at hv <;> cases hv
theorem bz_in_len {as : List Value} {n : Nat} (h : (bz_in0 as).length ≤ n) : (bz_in n as).length = n := by
  unfold bz_in
  rw [List.length_append, List.length_replicate]
  omega
theorem bz_rv_cz {ad : Nat → Nat} {j : Nat} {st : List Value} {v : Option Value} (h : bz_rv j st = some v) : v.toList.map (bz_cz ad) = v.toList ∧ st = v.toList := by
  unfold bz_rv at h
  split at h <;> cases h <;> exact ⟨rfl, rfl⟩
/-- what an answer's row is in the bytes -/
def bz_rok (bytes : ByteArray) (ret : Option FieldType) (pc j : Nat) : Prop := (j = 0 ∧ ret = none ∧ decode bytes pc = .ok (.return_, 1)) ∨ (j = 1 ∧ ret = some .int ∧ decode bytes pc = .ok (.ireturn, 1)) ∨ (j = 2 ∧ ret = some .long ∧ decode bytes pc = .ok (.lreturn, 1)) ∨ (j = 3 ∧ ret = some .boolean ∧ decode bytes pc = .ok (.ireturn, 1))
/-- a contract by the body's walk, also where the class isn't plainly named but no row of the natives bears the method's name -/
theorem bz_ofW {l : Launch} {y : MethodName} {ws ws' : List Cond} {rm : Room} {Pc : Array Value → State → Prop} {Qc : Array Value → State → Outcome → State → Prop} {mc ms : Nat} {free : Addr → Prop} {cc : ByteArray} {maxL : Nat} {ret : Option FieldType}
    (hy : plainFor y = true) (hw : ws = Cond.code y cc maxL ret :: ws')
    (body : ∀ p e s m args below meth c s₁, BodyLoose p l y (headSpec ws rm) cc maxL ret e s m args below meth c s₁ → c.maxLocals = maxL → Pc args s → W p l e (headSpec ws rm).room s m args below meth c s.heap [] 0 0 (MQ below Qc args s mc ms free) (entryFrame m args maxL)) : Met l y ws rm Pc Qc mc ms free := by
  refine MetFree.of_bodySF (code := cc) (maxLocals := maxL) (ret := ret) hy (fun args s m h hn => ?_) (fun p e s m args below meth c s₁ B hml hP _ => ?_)
  · obtain ⟨meth, c, h1, h2, h3, h4, h5, h6, -, -⟩ := Cond.code_spec hn (atoms_spec (ws := ws) h _ (by rw [hw]; exact List.mem_cons_self))
    exact ⟨meth, c, h1, h2, h3, h4, h5, h6⟩
  · have hh0 : s₁.heap = s.heap := by rw [B.state]; rfl
    obtain ⟨t, a1, o, b1, b2, b3⟩ := body p e s m args below meth c s₁ B hml hP s₁ hh0 (Stand.of_body B)
    exact ⟨t, o, a1, b1, b2, ⟨b3.1, b3.2⟩⟩
/-- the small machine's contract gives the kit's -/
theorem bz_met {P : Nat → bz_M} {l : Launch} {X : bz_X} {j : Nat} {Q : bz_Q} {as : List Value} {σ : bz_S} {ad : Nat → Nat} {ca : Nat → ClassId} {D : va_G} {sz : Nat} (hpn : plainFor (P j).2.1 = true) (how : (P j).1 = (P j).2.1.cls) (hr : ∀ pc i, bz_lk (P j).2.2.2.2.2.2.2 pc = some (.inr (.inr i)) → bz_rok (P j).2.2.1 (P j).2.2.2.2.1 pc i) (hm : (bz_in0 as).length ≤ (P j).2.2.2.1) (h : bz_snd P l X j Q (0, bz_in (P j).2.2.2.1 as, [], σ)) :
    Met l (P j).2.1 (bz_ws (P j)) (bz_rm (P j)) (va_Pc (as.map (bz_cz ad)) (bz_Pic X ad ca D σ sz)) (bz_Qc ad ca D σ sz Q) 0 0 (va_A (bz_W ad ca σ) sz) := by
  refine bz_ofW (cc := (P j).2.2.1) (maxL := (P j).2.2.2.1) (ret := (P j).2.2.2.2.1) hpn rfl ?_
  intro p e s m args below meth c s₁ B hml hv
  obtain ⟨rfl, hsz, hP, hK, hD, hnw, hZ, hT⟩ := hv
  have hx := B.exec
  have hb := B.bytes
  have hrt := B.returns
  have hlocks := B.notSynchronized
  have hts0 := atoms_spec (ws := bz_ws (P j)) B.pre
  have hown : s.vm.findClass (P j).1 = some m.cls := by rw [how]; exact findClass_of_methodNamed B.named
  subst hsz
  have hS : va_S (va_A (bz_W ad ca σ) s.heap.size) s.heap s.heap [] := va_S.rf
  have F : bz_F X (P j).1 (P j).2.2.1 p l e (headSpec (bz_ws (P j)) (bz_rm (P j))).room s m (as.map (bz_cz ad)).toArray below meth c (MQ below (bz_Qc ad ca D σ s.heap.size Q) (as.map (bz_cz ad)).toArray s 0 0 (va_A (bz_W ad ca σ) s.heap.size)) (va_A (bz_W ad ca σ) s.heap.size) ad ca D 0 0 (P j).2.2.2.1 :=
    ⟨hx, hb, hml, hown, fun w hw => hts0 w (List.mem_cons_of_mem _ hw), hnw, hK, fun q hq => Or.inr hq, hZ, hT, Nat.zero_le _, Nat.zero_le _⟩
  have hH : bz_H (P j).2.2.2.2.2.2.2 Q p l e (headSpec (bz_ws (P j)) (bz_rm (P j))).room s m (as.map (bz_cz ad)).toArray below meth c (MQ below (bz_Qc ad ca D σ s.heap.size Q) (as.map (bz_cz ad)).toArray s 0 0 (va_A (bz_W ad ca σ) s.heap.size)) (va_A (bz_W ad ca σ) s.heap.size) ad ca D 0 0 (P j).2.2.2.1 := by
    intro pc i st v σ' hlk hv hg hQ H locs ls hP' hD' hS'
    obtain ⟨hvz, rfl⟩ := bz_rv_cz (ad := ad) hv
    have hq : ∀ t : State, t.heap = H → s.WarmedH t.vm → bz_Qc ad ca D σ s.heap.size Q (as.map (bz_cz ad)).toArray s (.returned v) t := fun t ht _ => ⟨⟨v, σ', rfl, hvz, hQ, by rw [ht]; exact hP', hD'⟩, hS'.F ht⟩
    rw [hvz]
    rcases hr pc i hlk with ⟨rfl, h1, h2⟩ | ⟨rfl, h1, h2⟩ | ⟨rfl, h1, h2⟩ | ⟨rfl, h1, h2⟩
    · cases v with
      | none => exact W.vret hx hb (hrt.trans h1) hq hS'.2.2 h2
      | some w => simp [bz_rv] at hv
    · cases v with
      | none => simp [bz_rv] at hv
      | some w =>
        cases w with
        | int x => exact W.iret hx hb (hrt.trans h1) hq hS'.2.2 h2
        | _ => simp [bz_rv] at hv
    · cases v with
      | none => simp [bz_rv] at hv
      | some w =>
        cases w with
        | long x => exact W.lret hx hb (hrt.trans h1) hq hS'.2.2 h2
        | _ => simp [bz_rv] at hv
    · cases v with
      | none => simp [bz_rv] at hv
      | some w =>
        cases w with
        | int x =>
          have hx1 : x = 0 ∨ x = 1 := hg
          exact W.zret hx hb (hrt.trans h1) (by rcases hx1 with q | q <;> rw [q] <;> rfl) hq hS'.2.2 h2
        | _ => simp [bz_rv] at hv
  have key := h _ _ _ _ _ _ _ _ _ _ _ _ _ _ _ _ _ F (Nat.le_refl _) (Nat.le_refl _) rfl hH (bz_in_len hm)
  have hl := lv_entry (as.map (bz_cz ad)) (n := (P j).2.2.2.1) (by rw [bz_sl_len]; exact hm)
  rw [lg_entry_eq]
  exact key s.heap [] _ hP hD.self hS (bz_lv_mono hl bz_in_mem)
theorem bz_AF {A : Nat → Prop} {ws : va_W} {H0 H : Heap} {locs : List Loc} (hD : va_D A ws) (hS : va_S A H0 H locs) (hA : ∀ q : Nat, H0.size ≤ q → A q) : ∀ q : Nat, va_A ws H.size q → A q := by
  intro q h
  rcases h with ⟨k, e, h⟩ | h
  · exact hD.2 k (q, e) h
  · exact hA q (Nat.le_trans hS.1 h)
section BC
variable {p : Program} {l : Launch} {e : Env} {R : Room} {s : State} {m : MethodId} {args : Array Value} {below : List Frame} {meth : Method} {c : Code} {Qf : State → Prop} {A : Nat → Prop} {ad : Nat → Nat} {ca : Nat → ClassId} {D : va_G} {cells slots nL : Nat}
theorem bz_goes {pc : Nat} {ls : Array Slot} {st0 rest : List Value} {σ : bz_S} {Qc : bz_Q} {H : Heap} {locs : List Loc} {a : Array Value} (hr : va_Run p l e R s m args below meth c H locs cells slots 0 0 (F0 m pc ls st0) (rest.map (bz_cz ad)) (bz_Qc ad ca D σ H.size Qc a) (va_A (bz_W ad ca σ) H.size)) (hS : va_S A s.heap H locs) (hD : va_D A (bz_W ad ca σ)) (hA : ∀ q : Nat, s.heap.size ≤ q → A q)
    (kk : ∀ (v : Option Value) (σ' : bz_S), Qc v σ' → ∀ (H1 : Heap) (locs1 : List Loc), va_P D vwCl (bz_W ad ca σ') H1 → va_D A (bz_W ad ca σ') → va_S A s.heap H1 locs1 → W p l e R s m args below meth c H1 locs1 cells slots Qf (F0 m (pc + 3) ls ((v.toList ++ rest).map (bz_cz ad)))) : W p l e R s m args below meth c H locs cells slots Qf (F0 m pc ls st0) := by
  intro T hT X
  obtain ⟨v, st₀, t, T', L, h0, X', hL, e1, e2, ⟨⟨v', σ', hv, hvz, hq, hP1, hD1⟩, hz, hk⟩, st⟩ := hr T hT X
  cases hv
  rw [h0] at hz hk
  have hF := bz_AF hD hS hA
  obtain ⟨t2, a1, b1⟩ := kk v σ' hq T'.heap (locs ++ L) (by rw [e1]; exact hP1) (hD1.weaken (fun k q _ h => hF q.1 h)) ⟨Nat.le_trans hS.1 (by rw [e1]; exact hz), fun q h1 h2 => by rw [e1, hk q (Nat.lt_of_lt_of_le h1 hS.1) (fun z => h2 (hF q z))]; exact hS.2.1 q h1 h2, fun q hq => by
      rcases List.mem_append.mp hq with h | h
      · exact hS.2.2 q h
      · exact hF _ (hL q h)⟩ T' rfl X'
  rw [List.map_append, hvz] at a1
  exact ⟨t2, st t2 a1, b1⟩
theorem bz_pic {X : bz_X} {own : String} {bytes : ByteArray} {σ : bz_S} {H : Heap} {locs : List Loc} {U : State} (F : bz_F X own bytes p l e R s m args below meth c Qf A ad ca D cells slots nL) (hP : va_P D vwCl (bz_W ad ca σ) H) (hD : va_D A (bz_W ad ca σ)) (hS : va_S A s.heap H locs) (hU : U.heap = H) (hW : s.WarmedH U.vm) : bz_Pic X ad ca D σ H.size U := by
  obtain ⟨hx, hb, hml, hown, hts, hnw, hK, hA, hZ, hT, hce, hsl⟩ := F
  have hF := bz_AF hD hS hA
  have hk : ∀ q : Nat, q < s.heap.size → ¬ A q → U.heap[q]? = s.heap[q]? := fun q h1 h2 => by rw [hU]; exact hS.2.1 q h1 h2
  exact ⟨by rw [hU], by rw [hU]; exact hP, va_K.moved hW.alike hK, hD.weaken (fun _ _ _ _ => trivial), bz_NB_warm hW hnw, fun i hi => (((hZ i hi).kept hk).moved hW.alike).narrow hF, fun i hi => (((hT i hi).kept hk).moved hW.alike).narrow hF⟩
end BC
/-- what a method that is called must be -/
def bz_mok (M : bz_M) : Prop := plainFor M.2.1 = true ∧ M.1 = M.2.1.cls ∧ (∀ pc i, bz_lk M.2.2.2.2.2.2.2 pc = some (.inr (.inr i)) → bz_rok M.2.2.1 M.2.2.2.2.1 pc i) ∧ Cond.code M.2.1 M.2.2.1 M.2.2.2.1 M.2.2.2.2.1 ∈ bz_TB ∧ Cond.initialized M.2.1.cls ∈ bz_TB ∧ M.2.1.cls ≠ "java/lang/invoke/MethodHandle" ∧ M.2.1.cls ≠ "java/lang/invoke/VarHandle"
def bz_cok (P : Nat → bz_M) (l : Launch) (own : String) (bytes : ByteArray) (fr lo pc j n vk : Nat) : Prop := ∀ (X : bz_X) (p : Program) (e : Env) (R : Room) (s : State) (m : MethodId) (args : Array Value) (below : List Frame) (meth : Method) (c : Code) (Qf : State → Prop) (A : Nat → Prop) (ad : Nat → Nat) (ca : Nat → ClassId) (D : va_G) (cells slots nL : Nat), bz_F X own bytes p l e R s m args below meth c Qf A ad ca D cells slots nL → fr ≤ R.frames → lo ≤ R.locals → ∀ (L : List (Option Value)) (as rest : List Value) (σ : bz_S) (Qc : bz_Q), as.length = n → (bz_in0 as).length ≤ (P j).2.2.2.1 → bz_cat rest ≤ 8 → bz_rc vk as = true → bz_snd P l X j Qc (0, bz_in (P j).2.2.2.1 as, [], σ) → (∀ v σ', Qc v σ' → bz_R p l e R s m args below meth c Qf A ad ca D cells slots nL (pc + 3, L, v.toList ++ rest, σ')) → bz_R p l e R s m args below meth c Qf A ad ca D cells slots nL (pc, L, as.reverse ++ rest, σ)
theorem bz_cat_cz {ad : Nat → Nat} (st : List Value) : ((st.map (bz_cz ad)).map fun v => v.category).sum = bz_cat st := by
  simp [bz_cat, List.map_map, Function.comp_def, bz_cz_cat]
theorem bz_ws_in {M : bz_M} (h : Cond.code M.2.1 M.2.2.1 M.2.2.2.1 M.2.2.2.2.1 ∈ bz_TB) : ∀ w ∈ bz_ws M, w ∈ bz_TB := fun w hw => (List.mem_cons.mp hw).elim (fun e => e ▸ h) (fun h => h)
theorem bz_cS {P : Nat → bz_M} {l : Launch} {own : String} {bytes : ByteArray} {fr lo pc j n idx : Nat} (hj : bz_mok (P j)) (hd : decode bytes pc = .ok (.invokestatic idx, 3)) (hl : Cond.methodLink own idx (P j).2.1 ∈ bz_TB) (hs : Cond.static (P j).2.1 ∈ bz_TB) (hpar : (parseMethodDescriptor (P j).2.1.desc).map (fun d => d.parameters.length) = some n) (hfr : (P j).2.2.2.2.2.1 + 1 ≤ fr) (hlo : 8 + ((P j).2.2.2.1 + 11) + (P j).2.2.2.2.2.2.1 ≤ lo) : bz_cok P l own bytes fr lo pc j n 0 := by
  obtain ⟨hpn, how, hr, hcw, hiw, hy1, hy2⟩ := hj
  intro X p e R s m args below meth c Qf A ad ca D cells slots nL F hfR hlR L as rest σ Qc hn hm hcat hrc hsnd kk hnL H locs ls hP hD hS hlv
  have F0' := F
  obtain ⟨hx, hb, hml, hown, hts, hnw, hK, hA, hZ, hT, hce, hsl⟩ := F
  have hM := bz_met (ad := ad) (ca := ca) (D := D) (sz := H.size) hpn how hr hm hsnd
  have cw := va_cwS (R := R) (s := s) (args := args) (own := own) (index := idx) (rm := bz_rm (P j)) (mc := 0) (ms := 0) n hts (bz_good (ws := va_wsS own idx (P j).2.1 (bz_ws (P j))) (fun w hw => by
    rcases List.mem_append.mp hw with h | h
    · simp only [List.mem_cons, List.not_mem_nil, or_false] at h
      rcases h with rfl | rfl | rfl
      · exact hl
      · exact hs
      · exact hiw
    · exact bz_ws_in hcw w h)) rfl rfl rfl ⟨hy1, hy2, hpar⟩ ⟨Nat.le_trans hfr hfR, Nat.le_trans hlo hlR⟩
  refine bz_goes (st0 := (as.reverse ++ rest).map (bz_cz ad)) (va_runS (As := as.map (bz_cz ad)) (rest := rest.map (bz_cz ad)) ⟨hx, hb, hml, hown, hts⟩ hM cw ⟨bz_blind, fun U hU hW => ⟨rfl, bz_pic F0' hP hD hS hU hW⟩⟩ rfl (by simpa using hn) hlv.1 (by simp) (lv_room (by rw [bz_cat_cz]; exact hcat)) hd ⟨hce, hsl⟩) hS hD hA (fun v σ' hq H1 locs1 hP1 hD1 hS1 => kk v σ' hq hnL H1 locs1 ls hP1 hD1 hS1 hlv)
theorem bz_cN {P : Nat → bz_M} {l : Launch} {own host : String} {bytes : ByteArray} {fr lo pc j n idx : Nat} (hj : bz_mok (P j)) (hd : decode bytes pc = .ok (.invokestatic idx, 3)) (hl : Cond.methodLinkNest own idx (P j).2.1 host ∈ bz_NB) (hs : Cond.static (P j).2.1 ∈ bz_TB) (hpar : (parseMethodDescriptor (P j).2.1.desc).map (fun d => d.parameters.length) = some n) (hfr : (P j).2.2.2.2.2.1 + 1 ≤ fr) (hlo : 8 + ((P j).2.2.2.1 + 11) + (P j).2.2.2.2.2.2.1 ≤ lo) : bz_cok P l own bytes fr lo pc j n 0 := by
  obtain ⟨hpn, how, hr, hcw, hiw, hy1, hy2⟩ := hj
  intro X p e R s m args below meth c Qf A ad ca D cells slots nL F hfR hlR L as rest σ Qc hn hm hcat hrc hsnd kk hnL H locs ls hP hD hS hlv
  have F0' := F
  obtain ⟨hx, hb, hml, hown, hts, hnw, hK, hA, hZ, hT, hce, hsl⟩ := F
  have hM := bz_met (ad := ad) (ca := ca) (D := D) (sz := H.size) hpn how hr hm hsnd
  have cw := va_cnB (R := R) (s := s) (args := args) (own := own) (host := host) (index := idx) (rm := bz_rm (P j)) (mc := 0) (ms := 0) n hts (bz_good (bz_ws_in hcw)) rfl rfl rfl (hnw _ hl) (hts _ hiw) ⟨hy1, hy2, hpar⟩ ⟨Nat.le_trans hfr hfR, Nat.le_trans hlo hlR⟩
  refine bz_goes (st0 := (as.reverse ++ rest).map (bz_cz ad)) (va_runSN (As := as.map (bz_cz ad)) (rest := rest.map (bz_cz ad)) ⟨hx, hb, hml, hown, hts⟩ hM ⟨cw, hts _ hs, trivial⟩ ⟨bz_blind, fun U hU hW => ⟨rfl, bz_pic F0' hP hD hS hU hW⟩⟩ rfl (by simpa using hn) hlv.1 (by simp) (lv_room (by rw [bz_cat_cz]; exact hcat)) hd ⟨hce, hsl⟩) hS hD hA (fun v σ' hq H1 locs1 hP1 hD1 hS1 => kk v σ' hq hnL H1 locs1 ls hP1 hD1 hS1 hlv)
theorem bz_cV {P : Nat → bz_M} {l : Launch} {own : String} {bytes : ByteArray} {fr lo pc j n idx ci N : Nat} {T : u_T} (hj : bz_mok (P j)) (hd : decode bytes pc = .ok (.invokevirtual idx, 3)) (hl : Cond.methodLink own idx (P j).2.1 ∈ bz_TB) (hi : Cond.instanceMethod (P j).2.1 ∈ bz_TB) (hsel : Cond.selects (P j).2.1.cls (P j).2.1 (P j).2.1 ∈ bz_TB) (hcl : vwCl[ci]? = some ((P j).2.1.cls, T, N)) (hpar : (parseMethodDescriptor (P j).2.1.desc).map (fun d => d.parameters.length) = some n) (hfr : (P j).2.2.2.2.2.1 + 1 ≤ fr) (hlo : 8 + ((P j).2.2.2.1 + 11) + (P j).2.2.2.2.2.2.1 ≤ lo) : bz_cok P l own bytes fr lo pc j (n + 1) (ci + 1) := by
  obtain ⟨hpn, how, hr, hcw, hiw, hy1, hy2⟩ := hj
  intro X p e R s m args below meth c Qf A ad ca D cells slots nL F hfR hlR L as rest σ Qc hn hm hcat hrc hsnd kk hnL H locs ls hP hD hS hlv
  have F0' := F
  obtain ⟨hx, hb, hml, hown, hts, hnw, hK, hA, hZ, hT, hce, hsl⟩ := F
  cases as with
  | nil => simp at hn
  | cons a0 as =>
    cases a0 with
    | ref o =>
      obtain ⟨ps, hsh⟩ := bz_isO_sp (show bz_isO o ci = true from hrc)
      have hM := bz_met (ad := ad) (ca := ca) (D := D) (sz := H.size) hpn how hr hm hsnd
      have cw := cwV (R := R) (s := s) (args := args) (own := own) (C := (P j).2.1.cls) (index := idx) (rm := bz_rm (P j)) (mc := 0) (ms := 0) n hts (bz_good (ws := wsV own idx (P j).2.1.cls (P j).2.1 (bz_ws (P j))) (fun w hw => by
        rcases List.mem_append.mp hw with h | h
        · simp only [List.mem_cons, List.not_mem_nil, or_false] at h
          rcases h with rfl | rfl | rfl | rfl
          · exact hl
          · exact hi
          · exact hsel
          · exact hiw
        · exact bz_ws_in hcw w h)) rfl rfl rfl ⟨rfl, hy1, hy2, hpar⟩ ⟨Nat.le_trans hfr hfR, Nat.le_trans hlo hlR⟩
      refine bz_goes (st0 := ((.ref o :: as).reverse ++ rest).map (bz_cz ad)) (va_runV (b := ad o) (As := as.map (bz_cz ad)) (rest := rest.map (bz_cz ad)) ⟨hx, hb, hml, hown, hts⟩ hM cw ⟨bz_blind, va_recv hK hP hcl (bz_W_at hsh), fun U hU hW => ⟨rfl, bz_pic F0' hP hD hS hU hW⟩⟩ rfl (by simpa using hn) hlv.1 (by simp [bz_cz]) (lv_room (by rw [bz_cat_cz]; exact hcat)) hd ⟨hce, hsl⟩) hS hD hA (fun v σ' hq H1 locs1 hP1 hD1 hS1 => kk v σ' hq hnL H1 locs1 ls hP1 hD1 hS1 hlv)
    | _ => cases hrc
/-- a row is what the bytes say -/
def bz_rw (P : Nat → bz_M) (l : Launch) (M : bz_M) (q : bz_E) : Prop := match q.2 with
  | .inl f => bz_ok M.1 M.2.2.1 q.1 f
  | .inr (.inl (j, n, vk)) => bz_cok P l M.1 M.2.2.1 M.2.2.2.2.2.1 M.2.2.2.2.2.2.1 q.1 j n vk
  | .inr (.inr i) => bz_rok M.2.2.1 M.2.2.2.2.1 q.1 i
theorem bz_lk_mem : ∀ {T : List bz_E} {pc : Nat} {x : bz_Op ⊕ (Nat × Nat × Nat) ⊕ Nat}, bz_lk T pc = some x → (pc, x) ∈ T := by
  intro T
  induction T with
  | nil => intro pc x h; cases h
  | cons q r ih =>
    intro pc x h
    simp only [bz_lk] at h
    cases hb : Nat.beq q.1 pc with
    | true =>
      rw [hb] at h
      simp only [cond_true, Option.some.injEq] at h
      have := Nat.eq_of_beq_eq_true hb
      subst this; subst h
      exact List.mem_cons_self
    | false =>
      rw [hb] at h
      exact List.mem_cons_of_mem _ (ih h)
theorem bz_le_len : ∀ {L' L : List (Option Value)}, bz_le L' L → L'.length = L.length
  | [], [], _ => rfl
  | none :: a, y :: b, h => congrArg (· + 1) (bz_le_len (L' := a) (L := b) h)
  | some x :: a, some y :: b, h => congrArg (· + 1) (bz_le_len (L' := a) (L := b) h.2)
  | some x :: a, none :: b, hl => hl.elim
  | none :: a, [], hl => hl.elim
  | some x :: a, [], hl => hl.elim
  | [], y :: b, hl => hl.elim
/-- THE KIT'S MACHINE FOLLOWS -/
theorem bz_follow {P : Nat → bz_M} {l : Launch} (hall : ∀ k, ∀ q ∈ (P k).2.2.2.2.2.2.2, bz_rw P l (P k) q) (X : bz_X) : bz_Cl P X (bz_snd P l X) := by
  refine ⟨?_, ?_, ?_, ?_, ?_⟩
  · intro k Q a g b h hg w p e R s m args below meth c Qf A ad ca D cells slots nL F hfR hlR hnl hH
    obtain ⟨pc, L, st, σ⟩ := a
    simp only [bz_st1] at h
    split at h
    · rename_i f hlk
      exact hall k _ (bz_lk_mem hlk) X p l e R s m args below meth c Qf A ad ca D cells slots nL F L st σ g b h hg (w p e R s m args below meth c Qf A ad ca D cells slots nL F hfR hlR hnl hH)
    · cases h
  · intro k Q L L' pc st σ hle w p e R s m args below meth c Qf A ad ca D cells slots nL F hfR hlR hnl hH hn H locs ls hP hD hS hl
    refine w p e R s m args below meth c Qf A ad ca D cells slots nL F hfR hlR hnl hH ((bz_le_len hle).trans hn) H locs ls hP hD hS (bz_lv_mono hl ?_)
    rintro ⟨j, w⟩ hq
    obtain ⟨v, hv, hw⟩ := bz_lv_mem.mp hq
    exact bz_lv_mem.mpr ⟨v, bz_le_mem hle j v hv, hw⟩
  · intro k Q pc L as rest σ j n vk Qc hlk hn hm hcat hrc w kk p e R s m args below meth c Qf A ad ca D cells slots nL F hfR hlR hnl hH
    exact hall k _ (bz_lk_mem hlk) X p e R s m args below meth c Qf A ad ca D cells slots nL F hfR hlR L as rest σ Qc hn hm hcat hrc w (fun v σ' hq => kk v σ' hq p e R s m args below meth c Qf A ad ca D cells slots nL F hfR hlR hnl hH)
  · intro k Q pc L st σ j v hlk hv hg hQ p e R s m args below meth c Qf A ad ca D cells slots nL F hfR hlR hnl hH hn H locs ls hP hD hS hl
    exact hH pc j st v σ hlk hv hg hQ H locs ls hP hD hS
  · intro k Q Q' a hQ w p e R s m args below meth c Qf A ad ca D cells slots nL F hfR hlR hnl hH
    exact w p e R s m args below meth c Qf A ad ca D cells slots nL F hfR hlR hnl (fun pc j st v σ h1 h2 h3 h4 => hH pc j st v σ h1 h2 h3 (hQ v σ h4))
