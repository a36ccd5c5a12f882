/-! THE CONSTRUCTORS: what a constructor finds, how it goes on (tools) -/
def cn_first : Nat → Int32 := fun k => [(10 : Int32), 16, 24].getD k 0
def cn_ws (y : MethodName) (cc : ByteArray) (mL : Nat) : List Cond := .code y cc mL none :: bz_TB
def cn_B (D : va_G) (ca : Nat → ClassId) (tb : Nat) (ws : va_W) (sz : Nat) (U : State) : Prop := U.heap.size = sz ∧ va_P D vwCl ws U.heap ∧ va_K D vwCl (bz_tys ca) U ∧ va_D (fun _ => True) ws ∧ (∀ w ∈ bz_NB, va_Nw w U) ∧ va_AO "BaizeCorps$Image" U ∧ va_Z "BaizeCorps" "FIRST_CELLS" "[I" (.ref tb) (va_A ws sz) U U.heap ∧ va_T .int tb 3 (fun j => .int (cn_first j)) (va_A ws sz) U U.heap
theorem cn_blind {D : va_G} {ca : Nat → ClassId} {tb : Nat} {ws : va_W} {sz : Nat} {av : List Value} : FrameBlind (va_Pc av (cn_B D ca tb ws sz)) := by
  intro a U g mk h
  obtain ⟨h0, h1, h2, h3, h4, h5, h6, h7, h8⟩ := h
  exact ⟨h0, h1, h2, va_K.moved (u := U) (U := U.calling g mk a) (Vm.Alike.refl U.vm) h3, h4, bz_NB_same (s := U) (U := U.calling g mk a) rfl h5, va_AO.moved (u := U) (U := U.calling g mk a) (Vm.Alike.refl U.vm) h6, h7.moved (U := U.calling g mk a) (Vm.Alike.refl U.vm), h8.moved (U := U.calling g mk a) (Vm.Alike.refl U.vm)⟩
def cn_F (own : String) (cc : ByteArray) (p : Program) (s : State) (m : MethodId) (args : Array Value) (c : Code) (A : Nat → Prop) (D : va_G) (ca : Nat → ClassId) (tb nL : Nat) : Prop := p.tables.exec = Jvm.exec ∧ c.code = cc ∧ c.maxLocals = nL ∧ s.vm.findClass own = some m.cls ∧ (∀ w ∈ bz_TB, w.before args s = true) ∧ (∀ w ∈ bz_NB, va_Nw w s) ∧ va_K D vwCl (bz_tys ca) s ∧ va_AO "BaizeCorps$Image" s ∧ (∀ q : Nat, s.heap.size ≤ q → A q) ∧ va_Z "BaizeCorps" "FIRST_CELLS" "[I" (.ref tb) A s s.heap ∧ va_T .int tb 3 (fun j => .int (cn_first j)) A s s.heap
abbrev cn_rm (fr lo mc ms : Nat) : Room := { frames := fr, cells := mc, slots := ms, locals := lo }
/-- a constructor's contract: on a new object (its class ci, its fields' defaults fs) it leaves the world WK, the new addresses are q 1, q 2 .. -/
def cn_R (l : Launch) (D : va_G) (ca : Nat → ClassId) (tb : Nat) (y : MethodName) (cc : ByteArray) (mL fr lo mc ms ci : Nat) (fs : List Value) (WK : Nat → (Nat → Nat) → va_W) : Prop := ∀ h0 sz : Nat, Met l y (cn_ws y cc mL) (cn_rm fr lo mc ms) (va_Pc [.ref h0] (cn_B D ca tb [(h0, .inr (ci, fs))] sz)) (va_Qv (fun _ : Nat → Nat => True) (fun q t => va_P D vwCl (WK h0 q) t.heap ∧ va_D (va_A [(h0, .inr (ci, fs))] sz) (WK h0 q)) (va_A [(h0, .inr (ci, fs))] sz)) mc ms (va_A [(h0, .inr (ci, fs))] sz)
theorem cn_D1 {A : Nat → Prop} {x : Nat × va_E} (h : A x.1) : va_D A [x] := by
  have key : ∀ (i : Nat) (p : Nat × va_E), [x][i]? = some p → i = 0 ∧ p = x := by
    intro i p hi
    have h1 : i < 1 := (List.getElem?_eq_some_iff.mp hi).1
    obtain rfl : i = 0 := by omega
    exact ⟨rfl, (Option.some.inj hi).symm⟩
  exact ⟨fun i j p q hi hj _ => (key i p hi).1.trans (key j q hj).1.symm, fun k q hk => by rw [(key k q hk).2]; exact h⟩
theorem cn_D0 {A : Nat → Prop} : va_D A [] := ⟨fun i j p q h => by simp at h, fun k q h => by simp at h⟩
section CN
variable {p : Program} {l : Launch} {e : Env} {R : Room} {s : State} {m : MethodId} {args : Array Value} {below : List Frame} {meth : Method} {c : Code} {Qf : State → Prop} {A : Nat → Prop} {D : va_G} {ca : Nat → ClassId} {tb nL cells slots : Nat} {own : String} {cc : ByteArray} {pc : Nat} {ls : Array Slot} {ws : va_W} {H : Heap} {locs : List Loc}
theorem cn_new {rest : List Value} {T : u_T} {N ci i j fr lo mc ms mL : Nat} {fs : List Value} {WK : Nat → (Nat → Nat) → va_W} {y : MethodName} {c2 : ByteArray} (F : cn_F own cc p s m args c A D ca tb nL) (hP : va_P D vwCl ws H) (hD : va_D A ws) (hS : va_S A s.heap H locs) (hM : cn_R l D ca tb y c2 mL fr lo mc ms ci fs WK) (hc : vwCl[ci]? = some (y.cls, T, N)) (hin : ∀ w ∈ u_ws y.cls T N, w ∈ bz_TB) (ty : Nat → FieldType) (hty : ∀ k, k < N → parseFieldDescriptor (T k).2.2.1 = some (ty k)) (hcl : Cond.classLink own i y.cls ∈ bz_TB) (hinst : Cond.instantiable y.cls N ∈ bz_TB) (hini : Cond.initialized y.cls ∈ bz_TB) (hfs : ∀ k, k < N → defaultValue (ty k) = vp_V fs k) (hlk : Cond.methodLink own j y ∈ bz_TB ∨ ∃ host, Cond.methodLinkNest own j y host ∈ bz_NB) (hi : Cond.instanceMethod y ∈ bz_TB) (hcode : Cond.code y c2 mL none ∈ bz_TB) (hy : y.name = "<init>") (hyc : y.cls ≠ "java/lang/invoke/MethodHandle" ∧ y.cls ≠ "java/lang/invoke/VarHandle" ∧ (parseMethodDescriptor y.desc).map (fun d => d.parameters.length) = some 0) (hfr : fr + 1 ≤ R.frames) (hlo : 8 + (mL + 11) + lo ≤ R.locals) (hce : cells + 1 + mc ≤ R.cells) (hsl : slots + N + ms ≤ R.slots) (hls : ls.size = nL) (hcat : (rest.map fun v => v.category).sum ≤ 7) (d0 : decode cc pc = .ok (.new i, 3)) (d1 : decode cc (pc + 3) = .ok (.dup, 1)) (d2 : decode cc (pc + 4) = .ok (.invokespecial j, 3))
    (kk : ∀ (a : Nat) (q : Nat → Nat) (H1 : Heap) (locs1 : List Loc), va_P D vwCl (ws ++ WK a q) H1 → va_D A (ws ++ WK a q) → va_S A s.heap H1 locs1 → W p l e R s m args below meth c H1 locs1 (cells + 1 + mc) (slots + N + ms) Qf (F0 m (pc + 7) ls (.ref a :: rest))) : W p l e R s m args below meth c H locs cells slots Qf (F0 m pc ls rest) := by
  obtain ⟨hx, hb, hml, hown, hts, hnw, hK, hAO, hA, hZ, hT⟩ := F
  refine va_new (ci := ci) (fs := fs) hx hb hts hin ty hty hown (hts _ hcl) (hts _ hinst) (hts _ hini) hK hP hD hS hA hc hfs (by omega) (by omega) d0 (fun a H2 hP2 hD2 hS2 => ?_)
  refine lv_dup hx hb d1 rfl ?_
  have hat : (ws ++ [(a, (.inr (ci, fs) : va_E))])[ws.length]? = some (a, .inr (ci, fs)) := by simp
  have hPc : va_P D vwCl [(a, .inr (ci, fs))] H2 := hP2.sub (ws' := [(a, .inr (ci, fs))]) [ws.length] (by simp)
  have hFc : ∀ q, va_A [(a, (.inr (ci, fs) : va_E))] H2.size q → A q := by
    intro q h
    rcases h with ⟨k, e, h⟩ | h
    · have h1 : k < 1 := (List.getElem?_eq_some_iff.mp h).1
      obtain rfl : k = 0 := by omega
      cases h
      exact hD2.2 _ _ hat
    · exact hA q (Nat.le_trans hS2.1 h)
  have hpic : ∀ U : State, U.heap = H2 → s.WarmedH U.vm → va_Pc [.ref a] (cn_B D ca tb [(a, .inr (ci, fs))] H2.size) (Value.ref a :: []).toArray U := by
    intro U hU hW
    have hk : ∀ q : Nat, q < s.heap.size → ¬ A q → U.heap[q]? = s.heap[q]? := fun q h1 h2 => by rw [hU]; exact hS2.2.1 q h1 h2
    exact ⟨rfl, by rw [hU], by rw [hU]; exact hPc, va_K.moved hW.alike hK, cn_D1 trivial, bz_NB_warm hW hnw, va_AO.moved hW.alike hAO, ((hZ.kept hk).moved hW.alike).narrow hFc, ((hT.kept hk).moved hW.alike).narrow hFc⟩
  have G : GoodIn bz_TB (cn_ws y c2 mL) := bz_good (fun w hw => (List.mem_cons.mp hw).elim (fun e => e ▸ hcode) (fun h => h))
  have hcat2 : ((Value.ref a :: rest).map fun v => v.category).sum ≤ 8 := by
    rw [List.map_cons, List.sum_cons]
    show 1 + _ ≤ 8
    omega
  have run : va_Run p l e R s m args below meth c H2 locs (cells + 1) (slots + N) mc ms (F0 m (pc + 3 + 1) ls (.ref a :: .ref a :: rest)) (.ref a :: rest) (va_Qv (fun _ : Nat → Nat => True) (fun q t => va_P D vwCl (WK a q) t.heap ∧ va_D (va_A [(a, .inr (ci, fs))] H2.size) (WK a q)) (va_A [(a, .inr (ci, fs))] H2.size) (Value.ref a :: []).toArray) (va_A [(a, .inr (ci, fs))] H2.size) := by
    rcases hlk with hl | ⟨host, hl⟩
    · exact va_runI (As := []) (rest := .ref a :: rest) ⟨hx, hb, hml, hown, hts⟩ (hM a H2.size) (cwI 0 hts G rfl rfl rfl (hts _ hini) (hts _ hl) (hts _ hi) hy hyc ⟨hfr, hlo⟩) ⟨cn_blind, hpic⟩ rfl rfl hls rfl (lv_room hcat2) d2 ⟨hce, hsl⟩
    · exact va_runIN (As := []) (rest := .ref a :: rest) ⟨hx, hb, hml, hown, hts⟩ (hM a H2.size) ⟨va_cnB 0 hts G rfl rfl rfl (hnw _ hl) (hts _ hini) hyc ⟨hfr, hlo⟩, hy, hts _ hi⟩ ⟨cn_blind, hpic⟩ rfl rfl hls rfl (lv_room hcat2) d2 ⟨hce, hsl⟩
  refine va_callv run hS2 (fun q _ h => hFc q h) hFc (fun q t H1 locs1 ht hvm _ hB hz1 hk1 hS1 => ?_)
  obtain ⟨hP1, hD1⟩ := hB
  rw [ht] at hP1
  have apart : ∀ (k : Nat) (x : Nat × va_E), ws[k]? = some x → x.1 < H2.size ∧ ¬ va_A [(a, (.inr (ci, fs) : va_E))] H2.size x.1 ∧ (ws ++ [(a, (.inr (ci, fs) : va_E))])[k]? = some x := by
    intro k x hx
    have hlt := (List.getElem?_eq_some_iff.mp hx).1
    have hq : (ws ++ [(a, (.inr (ci, fs) : va_E))])[k]? = some x := by rw [List.getElem?_append_left hlt]; exact hx
    have hl := (hP2 k x hq).lt
    refine ⟨hl, fun h => ?_, hq⟩
    rcases h with ⟨k2, e, h⟩ | h
    · have h1 : k2 < 1 := (List.getElem?_eq_some_iff.mp h).1
      obtain rfl : k2 = 0 := by omega
      have h2 : a = x.1 := congrArg Prod.fst (Option.some.inj h)
      have h3 := hD2.1 k ws.length x (a, .inr (ci, fs)) hq hat h2.symm
      omega
    · omega
  exact kk a q H1 locs1 (va_P.app (fun k x hx => (hP2 k x (apart k x hx).2.2).kept (hk1 x.1 (apart k x hx).1 (apart k x hx).2.1)) hP1) (va_D.app hD (hD1.weaken (fun k x _ h => hFc x.1 h)) (fun i j x z hx hz hxz => (apart i x hx).2.1 (by rw [hxz]; exact hD1.2 j z hz))) hS1
theorem cn_arr {rest : List Value} {atype : ArrayType} {ty : FieldType} {t : Nat} {a0 : vp_A} {n : Int32} {N' : Nat} (F : cn_F own cc p s m args c A D ca tb nL) (hP : va_P D vwCl ws H) (hD : va_D A ws) (hS : va_S A s.heap H locs) (hty : newarray.typeOf atype = ty) (ht : (bz_tys ca)[t]? = some (ca t, ty)) (hra : ∀ x, va_RA s x ty → s.vm.findClass ("[" ++ ty.toString) = some x) (harr : Cond.arrayClass ty ∈ bz_TB) (ha : ∀ cA : ClassId, vp_cell cA a0 = arrV cA N' (fun _ => defaultValue ty)) (hn : ¬ n < 0) (hN : n.toNatClampNeg = N') (hbytes : N' * componentBytes ty ≤ 536870912) (hcells : cells + 1 ≤ R.cells) (hslots : slots + N' ≤ R.slots) (hdg : decode cc pc = .ok (.newarray atype, 2))
    (kk : ∀ (q : Nat) (H1 : Heap), va_P D vwCl (ws ++ [(q, .inl (ca t, a0))]) H1 → va_D A (ws ++ [(q, .inl (ca t, a0))]) → va_S A s.heap H1 locs → W p l e R s m args below meth c H1 locs (cells + 1) (slots + N') Qf (F0 m (pc + 2) ls (.ref q :: rest))) : W p l e R s m args below meth c H locs cells slots Qf (F0 m pc ls (.int n :: rest)) := by
  obtain ⟨hx, hb, hml, hown, hts, hnw, hK, hAO, hA, hZ, hT⟩ := F
  refine va_newa hx hb (by rw [hty]; exact hts _ harr) hty hK hP hD hS hA ha hn hN hbytes hcells hslots hdg (fun q cA H1 hK' hP hD hS => ?_)
  have e1 := hra _ (hK'.2 (bz_tys ca).length (cA, ty) (by simp)).2
  have e2 := hra _ (hK.2 t _ ht).2
  obtain rfl : cA = ca t := Option.some.inj (e1.symm.trans e2)
  exact kk q H1 hP hD hS
theorem cn_put {h0 ci k idx N v : Nat} {C : String} {T : u_T} {fs : List Value} {ty : FieldType} {rest : List Value} (F : cn_F C cc p s m args c A D ca tb nL) (hP : va_P D vwCl ((h0, .inr (ci, fs)) :: ws) H) (hD : va_D A ((h0, .inr (ci, fs)) :: ws)) (hS : va_S A s.heap H locs) (hc : vwCl[ci]? = some (C, T, N)) (hin : ∀ w ∈ u_ws C T N, w ∈ bz_TB) (ty0 : Nat → FieldType) (hty : ∀ k, k < N → parseFieldDescriptor (T k).2.2.1 = some (ty0 k)) (hnm : ∀ a, a < N → ∀ b, b < N → a ≠ b → (T a).2.1 ≠ (T b).2.1) (hmn : meth.name = "<init>") (hk : k < N) (hlink : Cond.fieldLink C idx (T k).1 (T k).2.1 (T k).2.2.1 ∈ bz_TB) (hdecl : (T k).1 = C) (hfin : (T k).2.2.2 = true) (hd : parseFieldDescriptor (T k).2.2.1 = some ty) (hn : narrow ty (.ref v) = .ref v) (hfit : fits ty (.ref v) = true) (hl : k < fs.length) (hdg : decode cc pc = .ok (.putfield idx, 3))
    (kk : ∀ (H1 : Heap) (locs1 : List Loc), va_P D vwCl ((h0, .inr (ci, fs.set k (.ref v))) :: ws) H1 → va_D A ((h0, .inr (ci, fs.set k (.ref v))) :: ws) → va_S A s.heap H1 locs1 → W p l e R s m args below meth c H1 locs1 cells slots Qf (F0 m (pc + 3) ls rest)) : W p l e R s m args below meth c H locs cells slots Qf (F0 m pc ls (.ref v :: .ref h0 :: rest)) := by
  obtain ⟨hx, hb, hml, hown, hts, hnw, hK, hAO, hA, hZ, hT⟩ := F
  exact va_putF (C := C) (T := T) (N := N) (ci := ci) (ref := (T k).1) hx hb hts hin ty0 hty hnm hown hK hP hD hS 0 rfl hc k hk (hts _ hlink) (fun _ h => h) hfin hmn hdecl hd hn hfit hl hdg (fun H1 locs1 h1 h2 h3 => kk H1 locs1 h1 h2 h3)
theorem cn_obj {h0 idx : Nat} (F : cn_F own cc p s m args c A D ca tb nL) (hg : ls[0]? = some (.val (.ref h0))) (hls : ls.size = nL) (hlink : Cond.methodLink own idx objectInit ∈ bz_TB) (hinst : Cond.instanceMethod objectInit ∈ bz_TB) (hcode : Cond.code objectInit ⟨#[0xb1]⟩ 1 none ∈ bz_TB) (d0 : decode cc 0 = .ok (.aload_n 0, 1)) (d1 : decode cc 1 = .ok (.invokespecial idx, 3)) (hfr : 1 ≤ R.frames) (hlo : 12 ≤ R.locals) (kk : W p l e R s m args below meth c H locs cells slots Qf (F0 m 4 ls [])) : W p l e R s m args below meth c H locs cells slots Qf (F0 m 0 ls []) := by
  obtain ⟨hx, hb, hml, hown, hts, hnw, hK, hAO, hA, hZ, hT⟩ := F
  refine lv_aload_n hx hb d0 rfl hg ?_
  refine W.objInit hx hb hown (hts _ hlink) (hts _ hinst) (hts _ hcode) rfl (by rw [hml]; exact hls) rfl d1 hfr (by show 2 * 0 + 0 + 12 ≤ _; omega) ?_
  exact W.eq (g2 := F0 m 4 ls []) rfl kk
end CN
/-- a constructor's contract by its walk -/
theorem cn_of {l : Launch} {D : va_G} {ca : Nat → ClassId} {tb : Nat} {y : MethodName} {c2 : ByteArray} {mL fr lo mc ms ci : Nat} {fs : List Value} {WK : Nat → (Nat → Nat) → va_W} (hpn : plainName y.cls = true) (hmL : 1 ≤ mL) (hy : y.name = "<init>")
    (h : ∀ (p : Program) (e : Env) (s : State) (m : MethodId) (args : Array Value) (below : List Frame) (meth : Method) (c : Code) (A : Nat → Prop) (h0 : Nat) (ls : Array Slot), cn_F y.cls c2 p s m args c A D ca tb mL → meth.name = "<init>" → lv_has ls mL [(0, .ref h0)] → va_P D vwCl [(h0, .inr (ci, fs))] s.heap → va_D A [(h0, .inr (ci, fs))] → ∀ Qf : State → Prop, (∀ (q : Nat → Nat) (H : Heap) (locs : List Loc) (pc : Nat) (ls' : Array Slot), va_P D vwCl (WK h0 q) H → va_D A (WK h0 q) → va_S A s.heap H locs → decode c2 pc = .ok (.return_, 1) → W p l e (cn_rm fr lo mc ms) s m args below meth c H locs mc ms Qf (F0 m pc ls' [])) → W p l e (cn_rm fr lo mc ms) s m args below meth c s.heap [] 0 0 Qf (F0 m 0 ls [])) : cn_R l D ca tb y c2 mL fr lo mc ms ci fs WK := by
  intro h0 sz
  refine Met.ofW (cc := c2) (maxL := mL) (ret := none) hpn rfl ?_
  intro p e s m args below meth c s₁ B hml hv
  obtain ⟨rfl, hsz, hP, hK, hD0, hnw, hAO, hZ, hT⟩ := hv
  have hts := atoms_spec (ws := cn_ws y c2 mL) B.pre
  have hown : s.vm.findClass y.cls = some m.cls := findClass_of_methodNamed B.named
  have hlocks := B.notSynchronized
  have hin : meth.name = y.name := (name_of_methodNamed B.named B.method).1
  subst hsz
  have hl := lv_entry ([.ref h0]) (n := mL) hmL
  rw [lg_entry_eq]
  refine h p e s m _ below meth c (va_A [(h0, .inr (ci, fs))] s.heap.size) h0 _ ⟨B.exec, B.bytes, hml, hown, fun w hw => hts w (List.mem_cons_of_mem _ hw), hnw, hK, hAO, fun q hq => Or.inr hq, hZ, hT⟩ (hin.trans hy) hl hP hD0.self _ (fun q H locs pc ls' hP hD hS hd => ?_)
  exact W.vret B.exec B.bytes B.returns (fun t ht hW => ⟨⟨q, rfl, trivial, by rw [ht]; exact hP, hD⟩, hS.F ht⟩) hS.2.2 hd hlocks
