/-! THE CLAIM OUT OF ONE WALK OF THE LAW'S BODY. Your part is whole_start (and what it stands on); all else here is the same for every law, but numbers. -/
def R_law : String := "BaizeCorpsLaw"
def lw_P (b : Addr) (xs : List Int32) (args : Array Value) (s : State) : Prop := args = #[.ref b] ∧ s.IntsAt b xs ∧ xs.length ≤ 448 ∧ (Jvm.Cond.and given_1 narrow_1).before args s = true
def lw_Q (_ : Array Value) (s : State) (o : Outcome) (t : State) : Prop := o = .returned (some (.int 1)) ∧ Framed s o t [] 600000 7302250
def lw_Z (below : List Frame) (a : Array Value) (s : State) : State → Prop := fun t => ∃ o, t.status = .running ∧ Ended t below o ∧ lw_Q a s o t
/-- the law's own end, with 1 on the stack, nothing written that was there before, its room as the claim has it -/
theorem lw_ret {p : Program} {l : Launch} {e : Env} {s : State} {m : MethodId} {below : List Frame} {meth : Method} {c : Code} {b : Nat} (hx : p.tables.exec = Jvm.exec) (hb : c.code = code) (hr : meth.sig.returnType = ret) (hlocks : meth.locks = false) {pc : Nat} {H : Heap} {ls : Array Slot} (hdg : decode code pc = .ok (.ireturn, 1)) : W p l e room_1 s m #[Value.ref b] below meth c H [] 600000 7302250 (lw_Z below #[Value.ref b] s) (F0 m pc ls [.int 1]) := by
  intro T hT X
  obtain ⟨fs, hret, hrun, hended, hW, hframe⟩ := X.leave (v := some (.int 1)) (hlocks := hlocks) (fun h => by rw [hr] at h; cases h)
  have hmeth' : T.vm.method? m = some meth := X.method'
  refine ⟨T.setFrames fs, ?_, .returned (some (.int 1)), hrun, hended, rfl, ⟨_, rfl⟩, hW, hframe⟩
  jvm_step X.here [X.here.top, hx, hb, hdg, hmeth', hr, ret, narrow_b1]
  (try refine ⟨rfl, ?_⟩); (try refine ⟨rfl, ?_⟩)
  first | (intro acts; rw [hret _ acts rfl rfl rfl]) | rw [hret _ _ rfl rfl rfl]
  exact Steps.refl _
/-- what holds at the law's entry: the machine, the code, the tables' words (any of lw_tbl by 'hts w (by decide +kernel)'), the script of L ints xs at the cell b, what the Statement gives of the start (any of its parts by flat_of_before) -/
def lw_At (p : Program) (s : State) (m : MethodId) (meth : Method) (c : Code) (b L : Nat) (xs : Nat → Int32) : Prop :=
  p.tables.exec = Jvm.exec ∧ c.code = code ∧ meth.sig.returnType = ret ∧ c.maxLocals = 4 ∧ s.vm.findClass R_law = some m.cls ∧ (∀ w ∈ lw_tbl, w.before #[Value.ref b] s = true) ∧ va_X b L xs s s.heap ∧ b < s.heap.size ∧ meth.locks = false ∧ (Jvm.Cond.and given_1 narrow_1).before #[Value.ref b] s = true
theorem dL_law_0 : decode cL_law 0 = .ok (.new 7, 3) := by decide +kernel
theorem dL_law_3 : decode cL_law 3 = .ok (.dup, 1) := by decide +kernel
theorem dL_law_4 : decode cL_law 4 = .ok (.invokespecial 9, 3) := by decide +kernel
theorem dL_law_7 : decode cL_law 7 = .ok (.astore_n 1, 1) := by decide +kernel
theorem dL_law_8 : decode cL_law 8 = .ok (.new 10, 3) := by decide +kernel
theorem dL_law_11 : decode cL_law 11 = .ok (.dup, 1) := by decide +kernel
theorem dL_law_12 : decode cL_law 12 = .ok (.invokespecial 12, 3) := by decide +kernel
theorem dL_law_15 : decode cL_law 15 = .ok (.astore_n 2, 1) := by decide +kernel
/-- a place's contract: from the law's row 16 on, the stock as it lies, the law ends with 1 -/
theorem ws_rest {p : Program} {e : Env} {s : State} {m : MethodId} {below : List Frame} {meth : Method} {c : Code} (l : Launch) {b L : Nat} {xs : Nat → Int32} (hL : L ≤ 448) (hr : meth.sig.returnType = ret) (hlocks : meth.locks = false) {ad : Nat → Nat} {ca : Nat → ClassId} {D : va_G} {cells slots : Nat} {H : Heap} {locs : List Loc} {ls : Array Slot} (F : bz_F (xs, L) RL cL_law p l e room_1 s m #[Value.ref b] below meth c (lw_Z below #[Value.ref b] s) (fun q : Nat => s.heap.size ≤ q) ad ca D cells slots 4) (hP : va_P D vwCl (bz_W ad ca cs_s) H) (hD : va_D (fun q : Nat => s.heap.size ≤ q) (bz_W ad ca cs_s)) (hS : va_S (fun q : Nat => s.heap.size ≤ q) s.heap H locs) (hl : lv_has ls 4 [(2, .ref (ad 32)), (1, .ref (ad 0)), (0, .ref (ad 1003))]) : W p l e room_1 s m #[Value.ref b] below meth c H locs cells slots (lw_Z below #[Value.ref b] s) (F0 m 16 ls []) := by
  have hw := wk_walk (X := (xs, L)) (show L < 2 ^ 31 by omega) cs_iv
  have hsn : bz_snd bz_P l (xs, L) mL_law wk_R (16, [some (.ref 1003), some (.ref 0), some (.ref 32), none], [], cs_s) := hw _ (bz_follow (bz_all l) (xs, L))
  obtain ⟨hx, hb, hml, hown, hts, hnw, hK, hA, hZ, hT, hce, hsl⟩ := id F
  have hH : bz_H (bz_P mL_law).2.2.2.2.2.2.2 wk_R p l e room_1 s m #[Value.ref b] below meth c (lw_Z below #[Value.ref b] s) (fun q : Nat => s.heap.size ≤ q) ad ca D cells slots 4 := by
    intro pc j st v σ hlk hrv hrg hQ H locs ls hP hD hS
    have hv : v = some (.int 1) := hQ
    subst hv
    obtain ⟨-, rfl⟩ := bz_rv_cz (ad := ad) hrv
    have hrok : bz_rok cL_law (some .boolean) pc j := bo_L_law l _ (bz_lk_mem hlk)
    have hd : decode cL_law pc = .ok (.ireturn, 1) := by
      rcases hrok with ⟨-, h, -⟩ | ⟨-, h, -⟩ | ⟨-, h, -⟩ | ⟨-, -, h⟩
      · cases h
      · cases h
      · cases h
      · exact h
    refine va_forget (fun q hq => hS.2.2 q hq) ?_
    refine W.widen hce hsl ?_
    exact lw_ret hx hb hr hlocks hd
  exact hsn p e room_1 s m #[Value.ref b] below meth c (lw_Z below #[Value.ref b] s) (fun q : Nat => s.heap.size ≤ q) ad ca D cells slots 4 F (by rw [bp_L_law]; decide) (by rw [bp_L_law]; decide) rfl hH rfl H locs ls hP hD hS (lv_sub hl [2, 1, 0] rfl)
theorem ws_ai {U : State} {args : Array Value} {ty : FieldType} (h : (Cond.arrayClass ty).before args U = true) : ∃ x : ClassId, ArrOfT U x ty ∧ U.vm.findClass ("[" ++ ty.toString) = some x := by
  obtain ⟨x, k, comp, h1, h2, h3⟩ := Cond.arrayClass_spec h
  exact ⟨x, fun n z => ⟨fun k h => (by cases h), k, h2, comp, h3⟩, h1⟩
theorem ws_ao {U : State} {args : Array Value} {C : String} (h : (Cond.arrayOver (.object C)).before args U = true) : ∃ x : ClassId, ArrOfT U x (.object C) ∧ va_RA U x (.object C) := by
  obtain ⟨comp, x, k, h1, -, h2, h3, h4⟩ := Cond.arrayOver_spec h
  exact ⟨x, fun n z => ⟨fun k h => (by cases h), k, h2, comp, h3⟩, k, comp, h2, h3, h1, h4⟩
set_option maxHeartbeats 4000000 in
set_option maxRecDepth 100000 in
/-- THE LAW, from its entry -/
theorem whole_start {p : Program} {e : Env} {s : State} {m : MethodId} {below : List Frame} {meth : Method} {c : Code} (l : Launch) (hflags : l.flags = flags0) {b L : Nat} {xs : Nat → Int32} (hL : L ≤ 448) (C0 : lw_At p s m meth c b L xs) : W p l e room_1 s m #[Value.ref b] below meth c s.heap [] 0 0 (lw_Z below #[Value.ref b] s) (entryFrame m ([Value.ref b] : List Value).toArray 4) := by
  obtain ⟨hx, hb, hr, hml, hown, hts, hX, hbl, hlocks, hgv⟩ := id C0
  have hA : ∀ q : Nat, s.heap.size ≤ q → (fun q : Nat => s.heap.size ≤ q) q := fun _ h => h
  have htb : ∀ w ∈ bz_TB, w.before #[Value.ref b] s = true := fun w h => hts w (List.mem_filter.mp h).1
  have hnw : ∀ w ∈ bz_NB, va_Nw w s := fun w h => va_Nw.of (by rcases bz_NB_sp h with ⟨_, _, _, _, rfl⟩ | ⟨_, _, _, _, _, _, rfl⟩ <;> rfl) (hts w (List.mem_filter.mp h).1)
  obtain ⟨c0, i0, k0⟩ := u_known (C := RX0) (T := TX0) (N := 2) (n := 2) htb bh_0 (htb _ (bz_tb 248 (by decide +kernel) (by decide +kernel)))
  obtain ⟨c1, i1, k1⟩ := u_known (C := RX1) (T := TX1) (N := 3) (n := 3) htb bh_1 (htb _ (bz_tb 262 (by decide +kernel) (by decide +kernel)))
  obtain ⟨c2, i2, k2⟩ := u_known (C := RX3) (T := TX3) (N := 2) (n := 2) htb bh_2 (htb _ (bz_tb 116 (by decide +kernel) (by decide +kernel)))
  obtain ⟨c3, i3, k3⟩ := u_known (C := RX4) (T := TX4) (N := 3) (n := 3) htb bh_3 (htb _ (bz_tb 99 (by decide +kernel) (by decide +kernel)))
  obtain ⟨c4, i4, k4⟩ := u_known (C := RX5) (T := TX5) (N := 7) (n := 7) htb bh_4 (htb _ (bz_tb 139 (by decide +kernel) (by decide +kernel)))
  obtain ⟨c5, i5, k5⟩ := u_known (C := RX6) (T := TX6) (N := 4) (n := 4) htb bh_5 (htb _ (bz_tb 68 (by decide +kernel) (by decide +kernel)))
  obtain ⟨c6, i6, k6⟩ := u_known (C := RX7) (T := TX7) (N := 3) (n := 3) htb bh_6 (htb _ (bz_tb 204 (by decide +kernel) (by decide +kernel)))
  obtain ⟨c7, i7, k7⟩ := u_known (C := RX8) (T := TX8) (N := 8) (n := 8) htb bh_7 (htb _ (bz_tb 131 (by decide +kernel) (by decide +kernel)))
  obtain ⟨c8, i8, k8⟩ := u_known (C := RX9) (T := TX9) (N := 5) (n := 5) htb bh_8 (htb _ (bz_tb 222 (by decide +kernel) (by decide +kernel)))
  obtain ⟨c9, i9, k9⟩ := u_known (C := RX10) (T := TX10) (N := 8) (n := 8) htb bh_9 (htb _ (bz_tb 60 (by decide +kernel) (by decide +kernel)))
  obtain ⟨c10, i10, k10⟩ := u_known (C := RX11) (T := TX11) (N := 42) (n := 42) htb bh_10 (htb _ (bz_tb 664 (by decide +kernel) (by decide +kernel)))
  obtain ⟨D, hKc⟩ : ∃ D : va_G, ∀ (k : Nat) (q : vw_C), vwCl[k]? = some q → u_Kn s q.1 q.2.1 q.2.2 (D.1 k) (D.2 k) := by
    refine ⟨(fun k => [c0, c1, c2, c3, c4, c5, c6, c7, c8, c9, c10].getD k c0, fun k => [i0, i1, i2, i3, i4, i5, i6, i7, i8, i9, i10].getD k i0), fun k q hq => ?_⟩
    match k, hq with
    | 0, hq => cases hq; exact k0
    | 1, hq => cases hq; exact k1
    | 2, hq => cases hq; exact k2
    | 3, hq => cases hq; exact k3
    | 4, hq => cases hq; exact k4
    | 5, hq => cases hq; exact k5
    | 6, hq => cases hq; exact k6
    | 7, hq => cases hq; exact k7
    | 8, hq => cases hq; exact k8
    | 9, hq => cases hq; exact k9
    | 10, hq => cases hq; exact k10
    | k + 11, hq => simp [vwCl] at hq
  obtain ⟨aI, fI, gI⟩ := ws_ai (ty := .int) (htb _ (bz_tb 97 (by decide +kernel) (by decide +kernel)))
  obtain ⟨aJ, fJ, gJ⟩ := ws_ai (ty := .long) (htb _ (bz_tb 800 (by decide +kernel) (by decide +kernel)))
  obtain ⟨aZ, fZ, gZ⟩ := ws_ai (ty := .boolean) (htb _ (bz_tb 799 (by decide +kernel) (by decide +kernel)))
  have hAO : va_AO "BaizeCorps$Image" s := va_AO.of (hts _ (List.mem_of_getElem? (i := 261) (by decide +kernel)))
  obtain ⟨aO, fO, gO⟩ := ws_ao (va_AO.use (A := #[Value.ref b]) hAO)
  obtain ⟨ca, eI, eJ, eZ, eO⟩ : ∃ ca : Nat → ClassId, ca 0 = aI ∧ ca 1 = aJ ∧ ca 2 = aZ ∧ ca 3 = aO := ⟨fun k => [aI, aJ, aZ, aO].getD k aI, rfl, rfl, rfl, rfl⟩
  have hK : va_K D vwCl (bz_tys ca) s := by
    refine ⟨hKc, fun k q hk => ?_⟩
    match k, hk with
    | 0, hk => cases hk; exact ⟨by rw [eI]; exact fI, by rw [eI]; exact gI⟩
    | 1, hk => cases hk; exact ⟨by rw [eJ]; exact fJ, by rw [eJ]; exact gJ⟩
    | 2, hk => cases hk; exact ⟨by rw [eZ]; exact fZ, by rw [eZ]; exact gZ⟩
    | 3, hk => cases hk; exact ⟨by rw [eO]; exact fO, by rw [eO]; exact gO⟩
    | k + 4, hk => simp [bz_tys] at hk
  have hs := flat_of_before _ hgv
  obtain ⟨t0, ev0, hT0⟩ := va_Tof (args := #[Value.ref b]) (s := s) (tm := (Term.static "BaizeCorps" "FIRST_CELLS" "[I")) (ty := .int) (N := 3) (f := fun j => .int (bz_tv (xs, L) 0 j)) (A := fun q : Nat => s.heap.size ≤ q) (by decide) (hs (.arrayOf (Term.static "BaizeCorps" "FIRST_CELLS" "[I") .int) (by decide +kernel)) (va_eqt (hs (.eq (.length (Term.static "BaizeCorps" "FIRST_CELLS" "[I")) (.int 3)) (by decide +kernel))) (fun j hj => by
    match j, hj with
    | 0, _ => exact va_eqt (hs (.eq (.elem (Term.static "BaizeCorps" "FIRST_CELLS" "[I") (.int 0)) (.int 10)) (by decide +kernel))
    | 1, _ => exact va_eqt (hs (.eq (.elem (Term.static "BaizeCorps" "FIRST_CELLS" "[I") (.int 1)) (.int 16)) (by decide +kernel))
    | 2, _ => exact va_eqt (hs (.eq (.elem (Term.static "BaizeCorps" "FIRST_CELLS" "[I") (.int 2)) (.int 24)) (by decide +kernel))
    | k + 3, hj => exact absurd hj (by omega)) (fun a ha => Nat.not_le.mpr ha)
  have hZ0 := va_Zref (A := fun q : Nat => s.heap.size ≤ q) (hts _ (List.mem_of_getElem? (i := 74) (by decide +kernel))) (hts _ (List.mem_of_getElem? (i := 45) (by decide +kernel))) ev0 (fun a ha => Nat.not_le.mpr ha)
  obtain ⟨t1, ev1, hT1⟩ := va_Tof (args := #[Value.ref b]) (s := s) (tm := (Term.static "BaizeCorps" "ROW_STEPS" "[I")) (ty := .int) (N := 8) (f := fun j => .int (bz_tv (xs, L) 1 j)) (A := fun q : Nat => s.heap.size ≤ q) (by decide) (hs (.arrayOf (Term.static "BaizeCorps" "ROW_STEPS" "[I") .int) (by decide +kernel)) (va_eqt (hs (.eq (.length (Term.static "BaizeCorps" "ROW_STEPS" "[I")) (.int 8)) (by decide +kernel))) (fun j hj => by
    match j, hj with
    | 0, _ => exact va_eqt (hs (.eq (.elem (Term.static "BaizeCorps" "ROW_STEPS" "[I") (.int 0)) (.int (-1))) (by decide +kernel))
    | 1, _ => exact va_eqt (hs (.eq (.elem (Term.static "BaizeCorps" "ROW_STEPS" "[I") (.int 1)) (.int (-1))) (by decide +kernel))
    | 2, _ => exact va_eqt (hs (.eq (.elem (Term.static "BaizeCorps" "ROW_STEPS" "[I") (.int 2)) (.int 0)) (by decide +kernel))
    | 3, _ => exact va_eqt (hs (.eq (.elem (Term.static "BaizeCorps" "ROW_STEPS" "[I") (.int 3)) (.int 1)) (by decide +kernel))
    | 4, _ => exact va_eqt (hs (.eq (.elem (Term.static "BaizeCorps" "ROW_STEPS" "[I") (.int 4)) (.int 1)) (by decide +kernel))
    | 5, _ => exact va_eqt (hs (.eq (.elem (Term.static "BaizeCorps" "ROW_STEPS" "[I") (.int 5)) (.int 1)) (by decide +kernel))
    | 6, _ => exact va_eqt (hs (.eq (.elem (Term.static "BaizeCorps" "ROW_STEPS" "[I") (.int 6)) (.int 0)) (by decide +kernel))
    | 7, _ => exact va_eqt (hs (.eq (.elem (Term.static "BaizeCorps" "ROW_STEPS" "[I") (.int 7)) (.int (-1))) (by decide +kernel))
    | k + 8, hj => exact absurd hj (by omega)) (fun a ha => Nat.not_le.mpr ha)
  have hZ1 := va_Zref (A := fun q : Nat => s.heap.size ≤ q) (hts _ (List.mem_of_getElem? (i := 433) (by decide +kernel))) (hts _ (List.mem_of_getElem? (i := 45) (by decide +kernel))) ev1 (fun a ha => Nat.not_le.mpr ha)
  obtain ⟨t2, ev2, hT2⟩ := va_Tof (args := #[Value.ref b]) (s := s) (tm := (Term.static "BaizeCorps" "COLUMN_STEPS" "[I")) (ty := .int) (N := 8) (f := fun j => .int (bz_tv (xs, L) 2 j)) (A := fun q : Nat => s.heap.size ≤ q) (by decide) (hs (.arrayOf (Term.static "BaizeCorps" "COLUMN_STEPS" "[I") .int) (by decide +kernel)) (va_eqt (hs (.eq (.length (Term.static "BaizeCorps" "COLUMN_STEPS" "[I")) (.int 8)) (by decide +kernel))) (fun j hj => by
    match j, hj with
    | 0, _ => exact va_eqt (hs (.eq (.elem (Term.static "BaizeCorps" "COLUMN_STEPS" "[I") (.int 0)) (.int 0)) (by decide +kernel))
    | 1, _ => exact va_eqt (hs (.eq (.elem (Term.static "BaizeCorps" "COLUMN_STEPS" "[I") (.int 1)) (.int 1)) (by decide +kernel))
    | 2, _ => exact va_eqt (hs (.eq (.elem (Term.static "BaizeCorps" "COLUMN_STEPS" "[I") (.int 2)) (.int 1)) (by decide +kernel))
    | 3, _ => exact va_eqt (hs (.eq (.elem (Term.static "BaizeCorps" "COLUMN_STEPS" "[I") (.int 3)) (.int 1)) (by decide +kernel))
    | 4, _ => exact va_eqt (hs (.eq (.elem (Term.static "BaizeCorps" "COLUMN_STEPS" "[I") (.int 4)) (.int 0)) (by decide +kernel))
    | 5, _ => exact va_eqt (hs (.eq (.elem (Term.static "BaizeCorps" "COLUMN_STEPS" "[I") (.int 5)) (.int (-1))) (by decide +kernel))
    | 6, _ => exact va_eqt (hs (.eq (.elem (Term.static "BaizeCorps" "COLUMN_STEPS" "[I") (.int 6)) (.int (-1))) (by decide +kernel))
    | 7, _ => exact va_eqt (hs (.eq (.elem (Term.static "BaizeCorps" "COLUMN_STEPS" "[I") (.int 7)) (.int (-1))) (by decide +kernel))
    | k + 8, hj => exact absurd hj (by omega)) (fun a ha => Nat.not_le.mpr ha)
  have hZ2 := va_Zref (A := fun q : Nat => s.heap.size ≤ q) (hts _ (List.mem_of_getElem? (i := 435) (by decide +kernel))) (hts _ (List.mem_of_getElem? (i := 45) (by decide +kernel))) ev2 (fun a ha => Nat.not_le.mpr ha)
  have hTs : va_T .int b L (fun j => .int (xs j)) (fun q : Nat => s.heap.size ≤ q) s s.heap := by
    obtain ⟨scr, h1, h2, h3, h4, h5⟩ := hX
    exact ⟨scr, h1, h2, h3, by omega, by rw [h4], h5, Nat.not_le.mpr hbl⟩
  have F : cn_F RL cL_law p s m #[Value.ref b] c (fun q : Nat => s.heap.size ≤ q) D ca t0 4 := ⟨hx, hb, hml, hown, htb, hnw, hK, hAO, hA, hZ0, hT0⟩
  have hS : va_S (fun q : Nat => s.heap.size ≤ q) s.heap s.heap [] := va_S.rf
  have hP : va_P D vwCl [] s.heap := fun k q h => by simp at h
  have hD : va_D (fun q : Nat => s.heap.size ≤ q) [] := cn_D0
  have hl := lv_entry ([.ref b]) (n := 4) (Nat.le_of_ble_eq_true rfl)
  rw [lg_entry_eq]
  generalize (lg_sl ([.ref b]) ++ List.replicate (4 - (lg_sl ([.ref b])).length) Slot.unset).toArray = ls at hl ⊢
  have hl : lv_has ls 4 [(0, .ref b)] := hl
  refine cn_new (T := TX10) (N := 8) (i := 7) (j := 9) F hP hD hS (ct_Baize l D ca t0) rfl bh_9 tyX10 tyX10_ok (bz_tb 59 (by decide +kernel) (by decide +kernel)) (bz_tb 60 (by decide +kernel) (by decide +kernel)) (bz_tb 45 (by decide +kernel) (by decide +kernel)) (fun k hk => by match k, hk with | 0, _ => rfl | 1, _ => rfl | 2, _ => rfl | 3, _ => rfl | 4, _ => rfl | 5, _ => rfl | 6, _ => rfl | 7, _ => rfl | k + 8, hk => exact absurd hk (by omega)) (Or.inl (bz_tb 61 (by decide +kernel) (by decide +kernel))) (bz_tb 62 (by decide +kernel) (by decide +kernel)) (bz_tb 63 (by decide +kernel) (by decide +kernel)) rfl (by decide +kernel) (Nat.le_of_ble_eq_true rfl) (Nat.le_of_ble_eq_true rfl) (Nat.le_of_ble_eq_true rfl) (Nat.le_of_ble_eq_true rfl) hl.1 (Nat.le_of_ble_eq_true rfl) dL_law_0 dL_law_3 dL_law_4 (fun a q H locs hP hD hS => ?_)
  refine lv_astore_n (lv' := [(1, .ref a), (0, .ref b)]) hx hb dL_law_7 rfl hl (by decide) rfl (fun ls hl => ?_)
  refine cn_new (T := TX11) (N := 42) (i := 10) (j := 12) F hP hD hS (ct_Model l D ca t0) rfl bh_10 tyX11 tyX11_ok (bz_tb 663 (by decide +kernel) (by decide +kernel)) (bz_tb 664 (by decide +kernel) (by decide +kernel)) (bz_tb 55 (by decide +kernel) (by decide +kernel)) (fun k hk => by match k, hk with | 0, _ => rfl | 1, _ => rfl | 2, _ => rfl | 3, _ => rfl | 4, _ => rfl | 5, _ => rfl | 6, _ => rfl | 7, _ => rfl | 8, _ => rfl | 9, _ => rfl | 10, _ => rfl | 11, _ => rfl | 12, _ => rfl | 13, _ => rfl | 14, _ => rfl | 15, _ => rfl | 16, _ => rfl | 17, _ => rfl | 18, _ => rfl | 19, _ => rfl | 20, _ => rfl | 21, _ => rfl | 22, _ => rfl | 23, _ => rfl | 24, _ => rfl | 25, _ => rfl | 26, _ => rfl | 27, _ => rfl | 28, _ => rfl | 29, _ => rfl | 30, _ => rfl | 31, _ => rfl | 32, _ => rfl | 33, _ => rfl | 34, _ => rfl | 35, _ => rfl | 36, _ => rfl | 37, _ => rfl | 38, _ => rfl | 39, _ => rfl | 40, _ => rfl | 41, _ => rfl | k + 42, hk => exact absurd hk (by omega)) (Or.inl (bz_tb 665 (by decide +kernel) (by decide +kernel))) (bz_tb 666 (by decide +kernel) (by decide +kernel)) (bz_tb 667 (by decide +kernel) (by decide +kernel)) rfl (by decide +kernel) (Nat.le_of_ble_eq_true rfl) (Nat.le_of_ble_eq_true rfl) (Nat.le_of_ble_eq_true rfl) (Nat.le_of_ble_eq_true rfl) hl.1 (Nat.le_of_ble_eq_true rfl) dL_law_8 dL_law_11 dL_law_12 (fun am r H locs hP hD hS => ?_)
  refine lv_astore_n (lv' := [(2, .ref am), (1, .ref a), (0, .ref b)]) hx hb dL_law_15 rfl hl (by decide) rfl (fun ls hl => ?_)
  obtain ⟨hP, hD⟩ := cs_img (i := 19) (g := fun k => some (cs_ad a q am r (fun k => [t0, t1, t2, b].getD k 0) ([2, 20, 26].getD (k + 1) 0))) hP hD rfl (fun k hk => by
    match k, hk with
    | 0, _ => rfl
    | 1, _ => rfl
    | k + 2, hk => exact absurd hk (by omega))
  have eW := cs_W ca a q am r (fun k => [t0, t1, t2, b].getD k 0)
  have hP := (show va_P D vwCl (cs_L ca a q am r (fun k => [t0, t1, t2, b].getD k 0)) _ from hP)
  have hD := (show va_D (fun q : Nat => s.heap.size ≤ q) (cs_L ca a q am r (fun k => [t0, t1, t2, b].getD k 0)) from hD)
  rw [eW] at hP hD
  refine ws_rest (ad := cs_ad a q am r (fun k => [t0, t1, t2, b].getD k 0)) (ca := ca) (D := D) (xs := xs) (L := L) l hL hr hlocks ⟨hx, hb, hml, hown, htb, hnw, hK, hA, fun i hi => ?_, fun i hi => ?_, Nat.le_of_ble_eq_true rfl, Nat.le_of_ble_eq_true rfl⟩ hP hD hS hl
  · match i, hi with
    | 0, _ => exact hZ0
    | 1, _ => exact hZ1
    | 2, _ => exact hZ2
    | i + 3, hi => exact absurd hi (by omega)
  · match i, hi with
    | 0, _ => exact hT0
    | 1, _ => exact hT1
    | 2, _ => exact hT2
    | 3, _ => exact hTs
    | i + 4, hi => exact absurd hi (by omega)
set_option maxHeartbeats 4000000 in
theorem lw_walk (l : Launch) (hflags : l.flags = flags0) (b : Addr) (xs : List Int32) : MetFree l x (headSpec (Jvm.Cond.code x code maxLocals ret :: tables_1) room_1) (lw_P b xs) (fun _ _ _ _ _ => True) lw_Q := by
  refine MetFree.of_bodyS (code := code) (maxLocals := maxLocals) (ret := ret) (by decide) ?_ ?_
  · intro args s m h hn
    obtain ⟨meth, c, h1, h2, h3, h4, h5, h6, -, -⟩ := Cond.code_spec hn (atoms_spec (ws := Jvm.Cond.code x code maxLocals ret :: tables_1) h _ List.mem_cons_self)
    exact ⟨meth, c, h1, h2, h3, h4, h5, h6⟩
  · intro p e s m args below meth c s₁ B hml0 hP _
    obtain ⟨rfl, hx, hbd, hgv⟩ := hP
    obtain ⟨scr, harrAt, hlist, hof, hsmall⟩ := hx
    obtain ⟨hcb, hkn, -, -⟩ := State.arrayAt?_spec harrAt
    have hown : s.vm.findClass R_law = some m.cls := findClass_of_methodNamed B.named
    have hts0 : ∀ c ∈ (Jvm.Cond.code x code maxLocals ret :: tables_1), c.before #[Value.ref b] s = true := atoms_spec (ws := Jvm.Cond.code x code maxLocals ret :: tables_1) B.pre
    have hts : ∀ w ∈ lw_tbl, w.before #[Value.ref b] s = true := k2_hts_sels lw_privs (fun w hw => hts0 w (List.mem_cons_of_mem _ hw)) lw_privs_ok
    have hml : c.maxLocals = 4 := B.maxLocals_eq (hts0 _ List.mem_cons_self)
    have X₀ : Stand p l e room_1 s m #[Value.ref b] below meth c s₁ [] 0 0 := Stand.of_body B
    have hh0 : s₁.heap = s.heap := by rw [B.state]; rfl
    have hsz : scr.slots.size = xs.length := by rw [← Array.length_toList, hlist, List.length_map]
    have hval : ∀ j : Nat, j < xs.length → scr.slots[j]? = some (.int (xs.getD j 0)) := fun j hj => by
      rw [← Array.getElem?_toList, hlist]
      simp [hj]
    have hbl : b < s.heap.size := (Array.getElem?_eq_some_iff.mp hcb).1
    have hX : va_X b xs.length (fun j => xs.getD j 0) s s.heap := ⟨scr, hcb, hof, hkn, hsz, hval⟩
    have K : W p l e room_1 s m #[Value.ref b] below meth c s₁.heap [] 0 0 (lw_Z below #[Value.ref b] s) (entryFrame m ([Value.ref b] : List Value).toArray 4) := by
      rw [hh0]
      exact whole_start l hflags hbd ⟨B.exec, B.bytes, B.returns, hml, hown, hts, hX, hbl, B.notSynchronized, hgv⟩
    obtain ⟨t, a1, o, b1, b2, b3⟩ := K s₁ rfl X₀
    exact ⟨t, o, a1, b1, b2, b3⟩
theorem lw_pre_spec {args : Array Value} {s : State} (h : (Jvm.Cond.and given_1 narrow_1).before args s = true) (hr : rest_1_c.before args s = true) : ∃ (b : Addr) (xs : List Int32), lw_P b xs args s := by
  have hs := flat_of_before _ h
  have hq := flat_of_before _ hr
  have hc : (Cond.count 1).before args s = true := hs _ (by decide +kernel)
  have harr : (Cond.arrayOf (.arg 0) .int).before args s = true := hs _ (by decide +kernel)
  have hle : (Cond.le (.length (.arg 0)) (.int 448)).before args s = true := hs _ (by decide +kernel)
  have hlen : (Cond.isInt (.length (.arg 0))).before args s = true := hq _ (by decide +kernel)
  have hall : (Cond.all (.arg 0) (.isInt (.elem (.arg 0) (.index 0)))).before args s = true := hq _ (by decide +kernel)
  obtain ⟨b, xs, hb, hx⟩ := State.ints_of_pre rfl harr hlen hall
  have hsm : xs.length < 2 ^ 31 := hx.choose_spec.2.2.2
  have hev : (Term.length (.arg 0)).eval args s none [] s = some (.int xs.length.toInt32) := hx.length_eval hb
  have hv := Cond.le_ints hev (show (Term.int 448).eval args s none [] s = some (.int 448) from rfl)
  have hd : xs.length.toInt32 ≤ 448 := by
    simpa [Cond.before, Cond.holds, hv] using hle
  have hN : xs.length ≤ 448 := (Int32.ofNat_le_ofNat hsm (by decide)).mp (show Int32.ofNat xs.length ≤ Int32.ofNat 448 from hd)
  exact ⟨b, xs, Cond.one_arg hc (show args[0]? = some (.ref b) from hb), hx, hN, h⟩
theorem lw_comes (l : Launch) (hflags : l.flags = flags0) : Comes l x (Jvm.Cond.code x code maxLocals ret :: tables_1) room_1 (fun tb e args s => Calls_1 tb e args s ∧ rest_1 tb e args s ∧ Pre_1 tb e args s)
    (fun _ _ args s o t => lw_Q args s o t) := by
  intro p e ha hc hk s m args below hf hfit hheap happ hpre
  obtain ⟨b, xs, hP⟩ := lw_pre_spec hpre.2.2 hpre.2.1
  obtain ⟨k, o, h1, h2, h3, hQ⟩ := lw_walk l hflags b xs p e ha hc hk s m args below hf ((Spec.applies_iff_loose hf).mp happ).1 hP trivial
  exact ⟨k, o, h1, h2, h3, hQ⟩
theorem lw_frame {s t : State} {o : Outcome} {args : Array Value} (h : Framed s o t [] 600000 7302250) :
    Framed s o t (fieldLocs frame_1_writes args s ++ arrayLocs frame_1_arrays args s ++ staticLocs frame_1_statics s) 600000 7302250 := h
theorem lw_limb (L : Cond) (hL : ∀ (args : Array Value) (s t : State), L.after args s (.returned (some (.int 1))) t = true) :
    ArmFor flags0 classFile x code maxLocals ret World_1 tables_1 room_1 Calls_1 rest_1 Pre_1
      (fun tb e a s o t => postC L tb e a s o t ∧ Framed s o t (fieldLocs frame_1_writes a s ++ arrayLocs frame_1_arrays a s ++ staticLocs frame_1_statics s) 600000 7302250) := by
  intro l hflags _ _ p e ha hc hk s m args below hf hfit hheap happ hpre
  obtain ⟨k, o, h1, h2, h3, rfl, hF⟩ := lw_comes l hflags p e ha hc hk s m args below hf hfit hheap happ hpre
  exact ⟨k, _, h1, h2, h3, hL args s _, lw_frame hF⟩
theorem i_vc : Claimed_1_1 ∧ Claimed_1_2 := ⟨lw_limb limb_1_1 (fun args s t => by simp [limb_1_1, Cond.after, Cond.holds, Cond.value]), lw_limb limb_1_2 (fun args s t => Cond.after_iff.mpr (by
  first | (rw [show limb_1_2 = Cond.eq .result (.int 1) from rfl, Cond.eq_ints (x := 1) (y := 1) rfl rfl]; simp; done) | (simp [limb_1_2, Cond.value, Term.eval]; done)))⟩
