/-! PART 9ZZJ: making: the steps of constructors, over a world that grows -/

noncomputable section
/-- the cells that a constructor may write -/
def A1 (h0 sz : Nat) : Nat → Prop := fun q => q = h0 ∨ sz ≤ q
def AOO (U : State) : Prop := va_AO "GivenUp$Tray" U ∧ va_AO "GivenUp$Valley" U
theorem AOO.moved {u U : State} (hv : u.vm.Alike U.vm) (h : AOO u) : AOO U := ⟨h.1.moved hv, h.2.moved hv⟩
/-- a constructor's start and end -/
def PCI (D : va_G) (dA : Nat → ClassId) (ad0 : Nat → Nat → Nat) (h0 sz ci : Nat) (fs xs : List Value) : Array Value → State → Prop := va_Pc (.ref h0 :: xs) (fun U => U.heap.size = sz ∧ va_P D vwCl [(h0, .inr (ci, fs))] U.heap ∧ va_K D vwCl (TYS dA) U ∧ NST U ∧ EXT ad0 (A1 h0 sz) U U.heap ∧ AOO U)
def QCI (D : va_G) (dA : Nat → ClassId) (h0 sz k0 : Nat) (C : List (Nat × Nat)) (mm : MM) (Z : (Nat → Nat → Nat) → Prop) : Array Value → State → Outcome → State → Prop := fun _ st oc t => (oc = .returned none ∧ ∃ ad : Nat → Nat → Nat, h0 = ad k0 0 ∧ Z ad ∧ va_P D vwCl (WSC C dA ad mm) t.heap ∧ va_D (A1 h0 sz) (WSC C dA ad mm)) ∧ va_F (A1 h0 sz) st t
def CNI (l : Launch) (ad0 : Nat → Nat → Nat) (y : MethodName) (bytes : ByteArray) (nL : Nat) (rm : Room) (mc ms ci : Nat) (fs xs : List Value) (k0 : Nat) (C : List (Nat × Nat)) (mm : MM) (Z : (Nat → Nat → Nat) → Prop) : Prop := ∀ (D : va_G) (dA : Nat → ClassId) (h0 sz : Nat), Met l y (.code y bytes nL none :: TBL) rm (PCI D dA ad0 h0 sz ci fs xs) (QCI D dA h0 sz k0 C mm Z) mc ms (A1 h0 sz)
theorem PCI_blind {D : va_G} {dA : Nat → ClassId} {ad0 : Nat → Nat → Nat} {h0 sz ci : Nat} {fs xs : List Value} : FrameBlind (PCI D dA ad0 h0 sz ci fs xs) := fun a U g mk h => by
  obtain ⟨h1, h2, h3, h4, h5, h6, h7⟩ := h
  exact ⟨h1, h2, h3, va_K.moved (u := U) (U := U.calling g mk a) (Vm.Alike.refl U.vm) h4, NST.same (u := U) (U := U.calling g mk a) rfl h5, EXT.same (u := U) (U := U.calling g mk a) rfl h6, AOO.moved (u := U) (U := U.calling g mk a) (Vm.Alike.refl U.vm) h7⟩
theorem va_P_in {D : va_G} {cl : List vw_C} {ws ws' : va_W} {H : Heap} (h : va_P D cl ws H) (hs : ∀ x ∈ ws', x ∈ ws) : va_P D cl ws' H := fun k q hk => by
  obtain ⟨i, hi⟩ := List.getElem?_of_mem (hs q (List.mem_of_getElem? hk))
  exact h i q hi
section GX
variable {p : Program} {l : Launch} {e : Env} {R : Room} {s : State} {m : MethodId} {args : Array Value} {below : List Frame} {meth : Method} {c : Code} {Q : State → Prop} {nL : Nat} {D : va_G} {dA : Nat → ClassId} {A : Nat → Prop} {cc : ByteArray} {own : String} {ad0 : Nat → Nat → Nat}
/-- the machine goes on from here, over the world w -/
def GW (p : Program) (l : Launch) (e : Env) (R : Room) (s : State) (m : MethodId) (args : Array Value) (below : List Frame) (meth : Method) (c : Code) (Q : State → Prop) (nL : Nat) (D : va_G) (A : Nat → Prop) (cells slots : Nat) (w : va_W) (lv : List (Nat × Value)) (pc : Nat) (st : List Value) : Prop := ∀ (H : Heap) (locs : List Loc) (ls : Array Slot), va_P D vwCl w H → va_D A w → va_S A s.heap H locs → lv_has ls nL lv → W p l e R s m args below meth c H locs cells slots Q (F0 m pc ls st)
def CG (p : Program) (s : State) (m : MethodId) (args : Array Value) (c : Code) (cc : ByteArray) (own : String) (nL : Nat) (D : va_G) (dA : Nat → ClassId) (ad0 : Nat → Nat → Nat) (A : Nat → Prop) : Prop :=
  p.tables.exec = Jvm.exec ∧ c.code = cc ∧ c.maxLocals = nL ∧ s.vm.findClass own = some m.cls ∧ (∀ w ∈ TBL, w.before args s = true) ∧ va_K D vwCl (TYS dA) s ∧ NST s ∧ EXT ad0 A s s.heap ∧ AOO s ∧ (∀ q : Nat, s.heap.size ≤ q → A q)
theorem g_aload_n (hG : CG p s m args c cc own nL D dA ad0 A) {cells slots : Nat} {w : va_W} {lv : List (Nat × Value)} {pc i x : Nat} {st : List Value} {k : Fin 4} (hd : decode cc pc = .ok (.aload_n k, 1)) {pc' : Nat} (hpc : pc + 1 = pc') (hi : (k : Nat) = i) (j : Nat) (hj : lv[j]? = some (i, .ref x)) (kk : GW p l e R s m args below meth c Q nL D A cells slots w lv pc' (.ref x :: st)) : GW p l e R s m args below meth c Q nL D A cells slots w lv pc st := by
  subst hpc
  exact fun H locs ls hP hD hS hl => lv_aload_n hG.1 hG.2.1 hd hi (lv_at hl j hj) (kk H locs ls hP hD hS hl)
theorem g_iload_n (hG : CG p s m args c cc own nL D dA ad0 A) {cells slots : Nat} {w : va_W} {lv : List (Nat × Value)} {pc i : Nat} {x : Int32} {st : List Value} {k : Fin 4} (hd : decode cc pc = .ok (.iload_n k, 1)) {pc' : Nat} (hpc : pc + 1 = pc') (hi : (k : Nat) = i) (j : Nat) (hj : lv[j]? = some (i, .int x)) (kk : GW p l e R s m args below meth c Q nL D A cells slots w lv pc' (.int x :: st)) : GW p l e R s m args below meth c Q nL D A cells slots w lv pc st := by
  subst hpc
  exact fun H locs ls hP hD hS hl => lv_iload_n hG.1 hG.2.1 hd hi (lv_at hl j hj) (kk H locs ls hP hD hS hl)
theorem g_istore_n (hG : CG p s m args c cc own nL D dA ad0 A) {cells slots : Nat} {w : va_W} {lv : List (Nat × Value)} (lv' : List (Nat × Value)) {pc i : Nat} {x : Int32} {st : List Value} {k : Fin 4} (hd : decode cc pc = .ok (.istore_n k, 1)) {pc' : Nat} (hpc : pc + 1 = pc') (hi : (k : Nat) = i) (hn : i < nL) (hl' : (i, Value.int x) :: lv.filter (fun q => !(q.1 == i) && !(q.1 + 1 == i && q.2.category == 2)) = lv') (kk : GW p l e R s m args below meth c Q nL D A cells slots w lv' pc' st) : GW p l e R s m args below meth c Q nL D A cells slots w lv pc (.int x :: st) := by
  subst hpc
  exact fun H locs _ hP hD hS hl => lv_istore_n hG.1 hG.2.1 hd hi hl hn hl' (fun ls' h' => kk H locs ls' hP hD hS h')
theorem g_iinc (hG : CG p s m args c cc own nL D dA ad0 A) {cells slots : Nat} {w : va_W} {lv : List (Nat × Value)} (lv' : List (Nat × Value)) {pc i : Nat} {n : Int} {x v : Int32} {st : List Value} (hd : decode cc pc = .ok (.iinc i n, 3)) {pc' : Nat} (hpc : pc + 3 = pc') (j : Nat) (hj : lv[j]? = some (i, .int x)) (hv : x + Int32.ofInt n = v) (hn : i < nL) (hl' : (i, Value.int v) :: lv.filter (fun q => !(q.1 == i) && !(q.1 + 1 == i && q.2.category == 2)) = lv') (kk : GW p l e R s m args below meth c Q nL D A cells slots w lv' pc' st) : GW p l e R s m args below meth c Q nL D A cells slots w lv pc st := by
  subst hpc
  exact fun H locs _ hP hD hS hl => lv_iinc hG.1 hG.2.1 hd hl hj hv hn hl' (fun ls' h' => kk H locs ls' hP hD hS h')
theorem g_goto (hG : CG p s m args c cc own nL D dA ad0 A) {cells slots : Nat} {w : va_W} {lv : List (Nat × Value)} {pc : Nat} (tgt : Nat) {off : Int} {st : List Value} (hd : decode cc pc = .ok (.goto off, 3)) (ht : (pc : Int) + off = (tgt : Int)) (kk : GW p l e R s m args below meth c Q nL D A cells slots w lv tgt st) : GW p l e R s m args below meth c Q nL D A cells slots w lv pc st := fun H locs ls hP hD hS hl => lv_goto hG.1 hG.2.1 hd ht (kk H locs ls hP hD hS hl)
theorem g_icge_t (hG : CG p s m args c cc own nL D dA ad0 A) {cells slots : Nat} {w : va_W} {lv : List (Nat × Value)} {pc : Nat} (tgt : Nat) {off : Int} {x y : Int32} {st : List Value} (hd : decode cc pc = .ok (.if_icmp .ge off, 3)) (ht : (pc : Int) + off = (tgt : Int)) (hc : y ≤ x) (kk : GW p l e R s m args below meth c Q nL D A cells slots w lv tgt st) : GW p l e R s m args below meth c Q nL D A cells slots w lv pc (.int y :: .int x :: st) := fun H locs ls hP hD hS hl => lv_icmp_ge hG.1 hG.2.1 hd ht (fun _ => kk H locs ls hP hD hS hl) (fun z => absurd hc z)
theorem g_icge_f (hG : CG p s m args c cc own nL D dA ad0 A) {cells slots : Nat} {w : va_W} {lv : List (Nat × Value)} {pc : Nat} (tgt : Nat) {off : Int} {x y : Int32} {st : List Value} (hd : decode cc pc = .ok (.if_icmp .ge off, 3)) {pc' : Nat} (hpc : pc + 3 = pc') (ht : (pc : Int) + off = (tgt : Int)) (hc : ¬ y ≤ x) (kk : GW p l e R s m args below meth c Q nL D A cells slots w lv pc' st) : GW p l e R s m args below meth c Q nL D A cells slots w lv pc (.int y :: .int x :: st) := by
  subst hpc
  exact fun H locs ls hP hD hS hl => lv_icmp_ge hG.1 hG.2.1 hd ht (fun z => absurd z hc) (fun _ => kk H locs ls hP hD hS hl)
theorem g_iconst (hG : CG p s m args c cc own nL D dA ad0 A) {cells slots : Nat} {w : va_W} {lv : List (Nat × Value)} {pc : Nat} {n : Int} (v : Int32) {st : List Value} (hd : decode cc pc = .ok (.iconst n, 1)) {pc' : Nat} (hpc : pc + 1 = pc') (hv : Int32.ofInt n = v) (kk : GW p l e R s m args below meth c Q nL D A cells slots w lv pc' (.int v :: st)) : GW p l e R s m args below meth c Q nL D A cells slots w lv pc st := by
  subst hpc
  exact fun H locs ls hP hD hS hl => lv_iconst hG.1 hG.2.1 hd hv (kk H locs ls hP hD hS hl)
theorem g_bipush (hG : CG p s m args c cc own nL D dA ad0 A) {cells slots : Nat} {w : va_W} {lv : List (Nat × Value)} {pc : Nat} {n : Int} (v : Int32) {st : List Value} (hd : decode cc pc = .ok (.bipush n, 2)) {pc' : Nat} (hpc : pc + 2 = pc') (hv : (Int8.ofInt n).toInt32 = v) (kk : GW p l e R s m args below meth c Q nL D A cells slots w lv pc' (.int v :: st)) : GW p l e R s m args below meth c Q nL D A cells slots w lv pc st := by
  subst hpc
  exact fun H locs ls hP hD hS hl => lv_bipush hG.1 hG.2.1 hd hv (kk H locs ls hP hD hS hl)
theorem g_sipush (hG : CG p s m args c cc own nL D dA ad0 A) {cells slots : Nat} {w : va_W} {lv : List (Nat × Value)} {pc : Nat} {n : Int} (v : Int32) {st : List Value} (hd : decode cc pc = .ok (.sipush n, 3)) {pc' : Nat} (hpc : pc + 3 = pc') (hv : (Int16.ofInt n).toInt32 = v) (kk : GW p l e R s m args below meth c Q nL D A cells slots w lv pc' (.int v :: st)) : GW p l e R s m args below meth c Q nL D A cells slots w lv pc st := by
  subst hpc
  exact fun H locs ls hP hD hS hl => lv_sipush hG.1 hG.2.1 hd hv (kk H locs ls hP hD hS hl)
theorem g_lconst (hG : CG p s m args c cc own nL D dA ad0 A) {cells slots : Nat} {w : va_W} {lv : List (Nat × Value)} {pc : Nat} {n : Fin 2} (v : Int64) {st : List Value} (hd : decode cc pc = .ok (.lconst n, 1)) {pc' : Nat} (hpc : pc + 1 = pc') (hv : Int64.ofNat (n : Nat) = v) (kk : GW p l e R s m args below meth c Q nL D A cells slots w lv pc' (.long v :: st)) : GW p l e R s m args below meth c Q nL D A cells slots w lv pc st := by
  subst hpc
  exact fun H locs ls hP hD hS hl => lv_lconst hG.1 hG.2.1 hd hv (kk H locs ls hP hD hS hl)
theorem g_dup (hG : CG p s m args c cc own nL D dA ad0 A) {cells slots : Nat} {w : va_W} {lv : List (Nat × Value)} {pc x : Nat} {st : List Value} (hd : decode cc pc = .ok (.dup, 1)) {pc' : Nat} (hpc : pc + 1 = pc') (kk : GW p l e R s m args below meth c Q nL D A cells slots w lv pc' (.ref x :: .ref x :: st)) : GW p l e R s m args below meth c Q nL D A cells slots w lv pc (.ref x :: st) := by
  subst hpc
  exact fun H locs ls hP hD hS hl => lv_dup hG.1 hG.2.1 hd rfl (kk H locs ls hP hD hS hl)
theorem g_obj (hG : CG p s m args c cc own nL D dA ad0 A) {cells slots : Nat} {w : va_W} {lv : List (Nat × Value)} {pc idx x : Nat} {st : List Value} (hd : decode cc pc = .ok (.invokespecial idx, 3)) {pc' : Nat} (hpc : pc + 3 = pc') (hlk : Cond.methodLink own idx Lib.objectInit ∈ TBL) (hin : Cond.instanceMethod Lib.objectInit ∈ TBL) (hco : Cond.code Lib.objectInit ⟨#[0xb1]⟩ 1 none ∈ TBL) (hf : 1 ≤ R.frames) (hlo : (st.map fun v => v.category).sum + 12 ≤ R.locals) (kk : GW p l e R s m args below meth c Q nL D A cells slots w lv pc' st) : GW p l e R s m args below meth c Q nL D A cells slots w lv pc (.ref x :: st)   := by
  subst hpc
  intro H locs ls hP hD hS hl
  obtain ⟨hx, hb, hml, hown, hts, -⟩ := hG
  refine W.objInit hx hb hown (hts _ hlk) (hts _ hin) (hts _ hco) rfl (by rw [hml]; exact hl.1) rfl hd hf (by simpa [JFrame.monitorRoom, F0] using hlo) ?_
  exact kk H locs ls hP hD hS hl
/-- a new array: its class is the one that the tables name -/
theorem g_newa (hG : CG p s m args c cc own nL D dA ad0 A) {cells slots : Nat} {w : va_W} {lv : List (Nat × Value)} {pc : Nat} {st : List Value} {atype : ArrayType} {ty : FieldType} {n : Int32} (N' : Nat) (a0 : vp_A) (t0 : Nat) (hd : decode cc pc = .ok (.newarray atype, 2)) {pc' : Nat} (hpc : pc + 2 = pc') (hw : Cond.arrayClass (newarray.typeOf atype) ∈ TBL) (hty : newarray.typeOf atype = ty) (hob : ∀ Cn, ty ≠ .object Cn) (ht : (TYS dA)[t0]? = some (dA t0, ty)) (ha : ∀ cA : ClassId, vp_cell cA a0 = arrV cA N' (fun _ => defaultValue ty)) (hn : ¬ n < 0) (hN : n.toNatClampNeg = N') (hby : N' * componentBytes ty ≤ 536870912) (hce : cells + 1 ≤ R.cells) (hsl : slots + N' ≤ R.slots) (kk : ∀ q : Nat, GW p l e R s m args below meth c Q nL D A (cells + 1) (slots + N') (w ++ [(q, .inl (dA t0, a0))]) lv pc' (.ref q :: st)) : GW p l e R s m args below meth c Q nL D A cells slots w lv pc (.int n :: st)   := by
  subst hpc
  intro H locs ls hP hD hS hl
  obtain ⟨hx, hb, hml, hown, hts, hK, hN', hE, hO, hA⟩ := hG
  refine va_newa (a0 := a0) hx hb (hts _ hw) hty hK hP hD hS hA ha hn hN hby hce hsl hd (fun q cA H1 hK1 hP1 hD1 hS1 => ?_)
  have h1 := (hK1.2 (TYS dA).length (cA, ty) (by simp)).2
  have h2 := (hK.2 t0 _ ht).2
  have e : cA = dA t0 := by
    cases ty with
    | object Cn => exact absurd rfl (hob Cn)
    | _ => exact Option.some.inj (h1.symm.trans h2)
  subst e
  exact kk q H1 locs ls hP1 hD1 hS1 hl
/-- a new row of references -/
theorem g_newq (hG : CG p s m args c cc own nL D dA ad0 A) {cells slots : Nat} {w : va_W} {lv : List (Nat × Value)} {pc idx : Nat} {st : List Value} {Cn : String} {n : Int32} (N' : Nat) (t0 : Nat) (hd : decode cc pc = .ok (.anewarray idx, 3)) {pc' : Nat} (hpc : pc + 3 = pc') (hw : Cond.classLink own idx Cn ∈ TBL) (hao : va_AO Cn s) (ht : (TYS dA)[t0]? = some (dA t0, .object Cn)) (hn : ¬ n < 0) (hN : n.toNatClampNeg = N') (hby : N' * 4 ≤ 536870912) (hce : cells + 1 ≤ R.cells) (hsl : slots + N' ≤ R.slots) (kk : ∀ q : Nat, GW p l e R s m args below meth c Q nL D A (cells + 1) (slots + N') (w ++ [(q, .inl (dA t0, N', .inr (.inr (.inr (.inr (fun _ => none))))))]) lv pc' (.ref q :: st)) : GW p l e R s m args below meth c Q nL D A cells slots w lv pc (.int n :: st)   := by
  subst hpc
  intro H locs ls hP hD hS hl
  obtain ⟨hx, hb, hml, hown, hts, hK, hN', hE, hO, hA⟩ := hG
  refine va_newq hx hb hown (hts _ hw) hao hK hP hD hS hA hn hN hby hce hsl hd (fun q cA H1 hK1 hP1 hD1 hS1 => ?_)
  obtain ⟨k1, c1, a1, a2, a3, a4⟩ := (hK1.2 (TYS dA).length (cA, .object Cn) (by simp)).2
  obtain ⟨k2, c2, b1, b2, b3, b4⟩ := (hK.2 t0 _ ht).2
  have e : cA = dA t0 := Option.some.inj (a4.symm.trans b4)
  subst e
  exact kk q H1 locs ls hP1 hD1 hS1 hl
/-- a new object -/
theorem g_new (hG : CG p s m args c cc own nL D dA ad0 A) {cells slots : Nat} {w : va_W} {lv : List (Nat × Value)} {pc idx ci N : Nat} {st : List Value} {Cn : String} {T : u_T} {ty0 : Nat → FieldType} (fs : List Value) (hd : decode cc pc = .ok (.new idx, 3)) {pc' : Nat} (hpc : pc + 3 = pc') (hk : CLF ci Cn T N ty0) (hcl : Cond.classLink own idx Cn ∈ TBL) (hin : Cond.instantiable Cn N ∈ TBL) (hii : Cond.initialized Cn ∈ TBL) (hfs : (List.range N).map (fun j => defaultValue (ty0 j)) = fs) (hce : cells + 1 ≤ R.cells) (hsl : slots + N ≤ R.slots) (kk : ∀ q : Nat, GW p l e R s m args below meth c Q nL D A (cells + 1) (slots + N) (w ++ [(q, .inr (alen ci, fs))]) lv pc' (.ref q :: st)) : GW p l e R s m args below meth c Q nL D A cells slots w lv pc st   := by
  subst hpc
  intro H locs ls hP hD hS hl
  obtain ⟨hx, hb, hml, hown, hts, hK, hN', hE, hO, hA⟩ := hG
  obtain ⟨hso, hci, hnf, hinn, hty, hnm, hcn⟩ := hk
  refine va_new (ci := alen ci) (fs := fs) (C := Cn) (T := T) (N := N) hx hb hts hinn ty0 hty hown (hts _ hcl) (hts _ hin) (hts _ hii) hK hP hD hS hA hci (fun j hj => ?_) hce hsl hd (fun q H1 hP1 hD1 hS1 => ?_)
  · subst hfs
    unfold vp_V
    simp [hj]
  · exact kk q H1 locs ls hP1 hD1 hS1 hl
/-- the first cell's final field is written -/
theorem g_putF (hG : CG p s m args c cc own nL D dA ad0 A) {cells slots : Nat} {w : va_W} {lv : List (Nat × Value)} {pc idx ci N j h0 : Nat} {st : List Value} {T : u_T} {ty0 : Nat → FieldType} {fs : List Value} {v : Value} (fs' : List Value) (hin2 : meth.name = "<init>") (hd : decode cc pc = .ok (.putfield idx, 3)) {pc' : Nat} (hpc : pc + 3 = pc') (hk : CLF ci own T N ty0) (hj : j < N) (hfin : (T j).2.2.2 = true) (hn : narrow (ty0 j) v = v) (hfit : fits (ty0 j) v = true) (hlen : fs.length = N) (hfs : fs.set j v = fs') (hw : Cond.fieldLink own idx own (T j).2.1 (T j).2.2.1 ∈ TBL) (kk : GW p l e R s m args below meth c Q nL D A cells slots ((h0, .inr (alen ci, fs')) :: w) lv pc' st) : GW p l e R s m args below meth c Q nL D A cells slots ((h0, .inr (alen ci, fs)) :: w) lv pc (v :: .ref h0 :: st)   := by
  subst hpc
  intro H locs ls hP hD hS hl
  obtain ⟨hx, hb, hml, hown, hts, hK, hN', hE, hO, hA⟩ := hG
  obtain ⟨hso, hci, hnf, hinn, hty, hnm, hcn⟩ := hk
  refine va_putF (D := D) (ref := own) (ty := ty0 j) (v := v) hx hb hts hinn ty0 hty hnm hown hK hP hD hS 0 rfl hci j hj (hts _ hw) (fun x hx' => by rw [hcn j hj] at hx'; exact hx') hfin hin2 (hcn j hj) (hty j hj) hn hfit (by rw [hlen]; exact hj) hd (fun H1 locs1 hP1 hD1 hS1 => ?_)
  rw [hfs] at hP1 hD1
  exact kk H1 locs1 ls hP1 hD1 hS1 hl
/-- and one that is not final -/
theorem g_put (hG : CG p s m args c cc own nL D dA ad0 A) {cells slots : Nat} {w : va_W} {lv : List (Nat × Value)} {pc idx ci N j h0 : Nat} {st : List Value} {T : u_T} {ty0 : Nat → FieldType} {fs : List Value} {v : Value} (fs' : List Value) (hd : decode cc pc = .ok (.putfield idx, 3)) {pc' : Nat} (hpc : pc + 3 = pc') (hk : CLF ci own T N ty0) (hj : j < N) (hfin : (T j).2.2.2 = false) (hn : narrow (ty0 j) v = v) (hfit : fits (ty0 j) v = true) (hlen : fs.length = N) (hfs : fs.set j v = fs') (hw : Cond.fieldLink own idx own (T j).2.1 (T j).2.2.1 ∈ TBL) (kk : GW p l e R s m args below meth c Q nL D A cells slots ((h0, .inr (alen ci, fs')) :: w) lv pc' st) : GW p l e R s m args below meth c Q nL D A cells slots ((h0, .inr (alen ci, fs)) :: w) lv pc (v :: .ref h0 :: st)   := by
  subst hpc
  intro H locs ls hP hD hS hl
  obtain ⟨hx, hb, hml, hown, hts, hK, hN', hE, hO, hA⟩ := hG
  obtain ⟨hso, hci, hnf, hinn, hty, hnm, hcn⟩ := hk
  refine va_put (D := D) (ref := own) (ty := ty0 j) (v := v) hx hb hts hinn ty0 hty hnm hown hK hP hD hS 0 rfl hci j hj (hts _ hw) (fun x hx' => by rw [hcn j hj] at hx'; exact hx') hfin (hty j hj) hn hfit (by rw [hlen]; exact hj) hd (fun H1 locs1 hP1 hD1 hS1 => ?_)
  rw [hfs] at hP1 hD1
  exact kk H1 locs1 ls hP1 hD1 hS1 hl
/-- the first cell's field is read -/
theorem g_get (hG : CG p s m args c cc own nL D dA ad0 A) {cells slots : Nat} {w : va_W} {lv : List (Nat × Value)} {pc idx ci N j h0 : Nat} {st : List Value} {T : u_T} {ty0 : Nat → FieldType} {fs : List Value} {v : Value} (hd : decode cc pc = .ok (.getfield idx, 3)) {pc' : Nat} (hpc : pc + 3 = pc') (hk : CLF ci own T N ty0) (hj : j < N) (hv : fs[j]? = some v) (hw : Cond.fieldLink own idx own (T j).2.1 (T j).2.2.1 ∈ TBL) (kk : GW p l e R s m args below meth c Q nL D A cells slots ((h0, .inr (alen ci, fs)) :: w) lv pc' (v :: st)) : GW p l e R s m args below meth c Q nL D A cells slots ((h0, .inr (alen ci, fs)) :: w) lv pc (.ref h0 :: st)   := by
  subst hpc
  intro H locs ls hP hD hS hl
  obtain ⟨hx, hb, hml, hown, hts, hK, hN', hE, hO, hA⟩ := hG
  obtain ⟨hso, hci, hnf, hinn, hty, hnm, hcn⟩ := hk
  refine va_get (D := D) (ref := own) hx hb hts hinn hown hK hP 0 rfl hci j hj (hts _ hw) (fun x hx' => by rw [hcn j hj] at hx'; exact hx') hv hd ?_
  exact kk H locs ls hP hD hS hl
/-- an int of an array -/
theorem g_iast (hG : CG p s m args c cc own nL D dA ad0 A) {cells slots : Nat} {w : va_W} (w' : va_W) {lv : List (Nat × Value)} {pc a n : Nat} {st : List Value} {f : Nat → Int32} {i x : Int32} (q0 : Nat) (hd : decode cc pc = .ok (.iastore, 1)) {pc' : Nat} (hpc : pc + 1 = pc') (ha : w[q0]? = some (a, .inl (dA 0, n, .inl f))) (hin : vp_in i n) (hw' : w.set q0 (a, .inl (dA 0, n, .inl (upd f i.toNatClampNeg x))) = w') (kk : GW p l e R s m args below meth c Q nL D A cells slots w' lv pc' st) : GW p l e R s m args below meth c Q nL D A cells slots w lv pc (.int x :: .int i :: .ref a :: st)   := by
  subst hpc
  intro H locs ls hP hD hS hl
  obtain ⟨hx, hb, hml, hown, hts, hK, hN', hE, hO, hA⟩ := hG
  refine va_iast hx hb hK hP hD hS q0 0 ha rfl hin hd (fun H1 locs1 hP1 hD1 hS1 => ?_)
  rw [hw'] at hP1 hD1
  exact kk H1 locs1 ls hP1 hD1 hS1 hl
/-- an object comes into a row -/
theorem g_astq (hG : CG p s m args c cc own nL D dA ad0 A) {cells slots : Nat} {w : va_W} (w' : va_W) {lv : List (Nat × Value)} {pc a n v ci N : Nat} {st : List Value} {Cn : String} {T : u_T} {ty0 : Nat → FieldType} {vs : List Value} {f : Nat → Option Nat} {i : Int32} (q0 t0 : Nat) (hd : decode cc pc = .ok (.aastore, 1)) {pc' : Nat} (hpc : pc + 1 = pc') (hk : CLF ci Cn T N ty0) (ha : w[q0]? = some (a, .inl (dA t0, n, .inr (.inr (.inr (.inr f)))))) (ht : (TYS dA)[t0]? = some (dA t0, .object Cn)) (hv : (v, .inr (alen ci, vs)) ∈ w) (hin : vp_in i n) (hw' : w.set q0 (a, .inl (dA t0, n, .inr (.inr (.inr (.inr (va_up f i.toNatClampNeg (some v))))))) = w') (kk : GW p l e R s m args below meth c Q nL D A cells slots w' lv pc' st) : GW p l e R s m args below meth c Q nL D A cells slots w lv pc (.ref v :: .int i :: .ref a :: st)   := by
  subst hpc
  intro H locs ls hP hD hS hl
  obtain ⟨hx, hb, hml, hown, hts, hK, hN', hE, hO, hA⟩ := hG
  obtain ⟨hso, hci, hnf, hinn, hty, hnm, hcn⟩ := hk
  obtain ⟨qk, hqk⟩ := List.getElem?_of_mem hv
  refine va_astq (r := (Cn, T, N)) hx hb hK hP hD hS q0 t0 qk (alen ci) ha ht hqk hci hin hd (fun H1 locs1 hP1 hD1 hS1 => ?_)
  rw [hw'] at hP1 hD1
  exact kk H1 locs1 ls hP1 hD1 hS1 hl
/-- what is before a constructor's call, and what comes back -/
theorem g_join {wr : va_W} {h0 : Nat} {e0 : va_E} {w1 : va_W} {H H1 : Heap} (hP : va_P D vwCl (wr ++ [(h0, e0)]) H) (hD : va_D A (wr ++ [(h0, e0)])) (hsz : ∀ q, H.size ≤ q → A q) (hk : ∀ q : Nat, q < H.size → ¬ A1 h0 H.size q → H1[q]? = H[q]?) (hP1 : va_P D vwCl w1 H1) (hD1 : va_D (A1 h0 H.size) w1) : va_P D vwCl (wr ++ w1) H1 ∧ va_D A (wr ++ w1) := by
  have hin : ∀ (k : Nat) (q : Nat × va_E), wr[k]? = some q → (wr ++ [(h0, e0)])[k]? = some q := fun k q hq => by
    rw [List.getElem?_append_left (List.getElem?_eq_some_iff.mp hq).1]; exact hq
  have hlast : (wr ++ [(h0, e0)])[wr.length]? = some (h0, e0) := by simp
  have hne : ∀ (k : Nat) (q : Nat × va_E), wr[k]? = some q → q.1 < H.size ∧ ¬ A1 h0 H.size q.1 := fun k q hq => by
    have hlt := (hP k q (hin k q hq)).lt
    refine ⟨hlt, fun z => ?_⟩
    rcases z with z | z
    · have := hD.1 k wr.length q (h0, e0) (hin k q hq) hlast z
      have := (List.getElem?_eq_some_iff.mp hq).1
      omega
    · omega
  have hA1 : ∀ q, A1 h0 H.size q → A q := fun q z => z.elim (fun z => by rw [z]; exact hD.2 _ _ hlast) (hsz q)
  refine ⟨va_P.app (fun k q hq => ?_) hP1, va_D.app ⟨fun i j x y hi hj hxy => hD.1 i j x y (hin i x hi) (hin j y hj) hxy, fun k q hq => hD.2 k q (hin k q hq)⟩ (hD1.weaken (fun k q _ z => hA1 q.1 z)) (fun i j x y hx hy hxy => ?_)⟩
  · obtain ⟨g1, g2⟩ := hne k q hq
    exact (hP k q (hin k q hq)).kept (hk q.1 g1 g2)
  · exact (hne i x hx).2 (by rw [hxy]; exact hD1.2 j y hy)
theorem g_initgo {H : Heap} {locs : List Loc} {rest st0 : List Value} {pc cells slots mc ms : Nat} {arr : Array Slot} {A2 : Nat → Prop} {B : Outcome → State → Prop} (hr : va_Run p l e R s m args below meth c H locs cells slots mc ms (F0 m pc arr st0) rest (fun st oc t => B oc t ∧ va_F A2 st t) A2) (hS : va_S A s.heap H locs) (hA : ∀ q, A2 q → A q)
    (kk : ∀ (r : Option Value) (t : State) (H1 : Heap) (locs1 : List Loc), t.heap = H1 → B (.returned r) t → (∀ q : Nat, q < H.size → ¬ A2 q → H1[q]? = H[q]?) → va_S A s.heap H1 locs1 → W p l e R s m args below meth c H1 locs1 (cells + mc) (slots + ms) Q (F0 m (pc + 3) arr (r.toList ++ rest))) : W p l e R s m args below meth c H locs cells slots Q (F0 m pc arr st0) := by
  intro T hT X
  obtain ⟨v, st₀, t, T', L, h0, X', hL, e1, e2, ⟨hB, hz, hk⟩, st⟩ := hr T hT X
  rw [h0] at hz hk
  obtain ⟨t2, a1, b1⟩ := kk v t T'.heap (locs ++ L) e1.symm hB (fun q h1 h2 => by rw [e1]; exact hk q h1 h2)
    ⟨Nat.le_trans hS.1 (by rw [e1]; exact hz), fun q h1 h2 => by rw [e1, hk q (Nat.lt_of_lt_of_le h1 hS.1) (fun z => h2 (hA q z))]; exact hS.2.1 q h1 h2, fun q hq => by
      rcases List.mem_append.mp hq with h | h
      · exact hS.2.2 q h
      · exact hA _ (hL q h)⟩ T' rfl X'
  exact ⟨t2, st t2 a1, b1⟩
theorem g_pre (hG : CG p s m args c cc own nL D dA ad0 A) {wr : va_W} {h0 ci : Nat} {fs xs : List Value} {H : Heap} {locs : List Loc} (hP : va_P D vwCl (wr ++ [(h0, .inr (ci, fs))]) H) (hD : va_D A (wr ++ [(h0, .inr (ci, fs))])) (hS : va_S A s.heap H locs) : ∀ U : State, U.heap = H → s.WarmedH U.vm → PCI D dA ad0 h0 H.size ci fs xs (Value.ref h0 :: xs).toArray U := by
  intro U hU hW
  obtain ⟨hx, hb, hml, hown, hts, hK, hN', hE, hO, hA⟩ := hG
  have hlast : (wr ++ [(h0, .inr (ci, fs))])[wr.length]? = some (h0, (.inr (ci, fs) : va_E)) := by simp
  have hA1 : ∀ q, A1 h0 H.size q → A q := fun q z => z.elim (fun z => by rw [z]; exact hD.2 _ _ hlast) (fun z => hA q (Nat.le_trans hS.1 z))
  refine ⟨rfl, by rw [hU], by rw [hU]; exact va_P_in hP (fun x hx => List.mem_append_right _ hx), va_K.moved hW.alike hK, hN'.warm hW, ?_, hO.moved hW.alike⟩
  rw [hU]
  exact (hE.kept hS.2.1 hA1).warm hW
/-- a constructor is called, of a class's own or a plain one -/
theorem g_init (hG : CG p s m args c cc own nL D dA ad0 A) {cells slots : Nat} {w : va_W} {lv : List (Nat × Value)} {pc idx na mc ms ci nLy k0 h0 : Nat} {rest st0 fs xs : List Value} {y : MethodName} {bytes : ByteArray} {rm : Room} {C : List (Nat × Nat)} {mm : MM} {Z : (Nat → Nat → Nat) → Prop} (hc : CNI l ad0 y bytes nLy rm mc ms ci fs xs k0 C mm Z) (hd : decode cc pc = .ok (.invokespecial idx, 3)) {pc' : Nat} (hpc : pc + 3 = pc') (hcode : Cond.code y bytes nLy none ∈ TBL) (hini : Cond.initialized y.cls ∈ TBL) (hy : y.cls ≠ "java/lang/invoke/MethodHandle" ∧ y.cls ≠ "java/lang/invoke/VarHandle" ∧ (parseMethodDescriptor y.desc).map (fun d => d.parameters.length) = some na) (hy1 : y.name = "<init>") (hlk : Cond.methodLink own idx y ∈ TBL) (hin : Cond.instanceMethod y ∈ TBL) (hst : st0 = xs.reverse ++ .ref h0 :: rest) (hna : xs.length = na) (hcat : (rest.map fun v => v.category).sum ≤ 8) (hrm : rm.cells = mc ∧ rm.slots = ms ∧ rm.frames + 1 ≤ R.frames ∧ 8 + (nLy + 11) + rm.locals ≤ R.locals) (hroom : cells + mc ≤ R.cells ∧ slots + ms ≤ R.slots) (kk : ∀ ad : Nat → Nat → Nat, h0 = ad k0 0 → Z ad → GW p l e R s m args below meth c Q nL D A (cells + mc) (slots + ms) (w ++ WSC C dA ad mm) lv pc' rest) : GW p l e R s m args below meth c Q nL D A cells slots (w ++ [(h0, .inr (ci, fs))]) lv pc st0   := by
  subst hpc
  intro H locs ls hP hD hS hl
  have hG0 := hG
  obtain ⟨hx, hb, hml, hown, hts, hK, hN', hE, hO, hA⟩ := hG
  have hlast : (w ++ [(h0, .inr (ci, fs))])[w.length]? = some (h0, (.inr (ci, fs) : va_E)) := by simp
  have hsz : ∀ q, H.size ≤ q → A q := fun q z => hA q (Nat.le_trans hS.1 z)
  have hA1 : ∀ q, A1 h0 H.size q → A q := fun q z => z.elim (fun z => by rw [z]; exact hD.2 _ _ hlast) (hsz q)
  have hrun := va_runI (As := xs) (rest := rest) (e := e) (below := below) (meth := meth) (locs := locs) (cells := cells) (slots := slots) (g := F0 m pc ls st0) ⟨hx, hb, hml, hown, hts⟩ (hc D dA h0 H.size)
    (cwI na hts (TBL_goodIn hcode) rfl hrm.1 hrm.2.1 (hts _ hini) (hts _ hlk) (hts _ hin) hy1 hy hrm.2.2)
    ⟨PCI_blind, g_pre hG0 hP hD hS⟩ rfl hna hl.1 hst (lv_room hcat) hd hroom
  refine g_initgo (A2 := A1 h0 H.size) hrun hS hA1 (fun r t H1 locs1 ht hB hk hS1 => ?_)
  obtain ⟨e1, ad, e2, hz, hP1, hD1⟩ := hB
  cases e1
  rw [ht] at hP1
  obtain ⟨j1, j2⟩ := g_join hP hD hsz hk hP1 hD1
  exact kk ad e2 hz H1 locs1 ls j1 j2 hS1 hl
theorem g_initN (hG : CG p s m args c cc own nL D dA ad0 A) {cells slots : Nat} {w : va_W} {lv : List (Nat × Value)} {pc idx na mc ms ci nLy k0 h0 : Nat} {rest st0 fs xs : List Value} {y : MethodName} {bytes : ByteArray} {rm : Room} {C : List (Nat × Nat)} {mm : MM} {Z : (Nat → Nat → Nat) → Prop} (hc : CNI l ad0 y bytes nLy rm mc ms ci fs xs k0 C mm Z) (hd : decode cc pc = .ok (.invokespecial idx, 3)) {pc' : Nat} (hpc : pc + 3 = pc') (hcode : Cond.code y bytes nLy none ∈ TBL) (hini : Cond.initialized y.cls ∈ TBL) (hy : y.cls ≠ "java/lang/invoke/MethodHandle" ∧ y.cls ≠ "java/lang/invoke/VarHandle" ∧ (parseMethodDescriptor y.desc).map (fun d => d.parameters.length) = some na) (hy1 : y.name = "<init>") (hlk : ∃ host, (own, idx, y, host) ∈ NSL) (hin : Cond.instanceMethod y ∈ TBL) (hst : st0 = xs.reverse ++ .ref h0 :: rest) (hna : xs.length = na) (hcat : (rest.map fun v => v.category).sum ≤ 8) (hrm : rm.cells = mc ∧ rm.slots = ms ∧ rm.frames + 1 ≤ R.frames ∧ 8 + (nLy + 11) + rm.locals ≤ R.locals) (hroom : cells + mc ≤ R.cells ∧ slots + ms ≤ R.slots) (kk : ∀ ad : Nat → Nat → Nat, h0 = ad k0 0 → Z ad → GW p l e R s m args below meth c Q nL D A (cells + mc) (slots + ms) (w ++ WSC C dA ad mm) lv pc' rest) : GW p l e R s m args below meth c Q nL D A cells slots (w ++ [(h0, .inr (ci, fs))]) lv pc st0   := by
  subst hpc
  intro H locs ls hP hD hS hl
  have hG0 := hG
  obtain ⟨hx, hb, hml, hown, hts, hK, hN', hE, hO, hA⟩ := hG
  have hlast : (w ++ [(h0, .inr (ci, fs))])[w.length]? = some (h0, (.inr (ci, fs) : va_E)) := by simp
  have hsz : ∀ q, H.size ≤ q → A q := fun q z => hA q (Nat.le_trans hS.1 z)
  have hA1 : ∀ q, A1 h0 H.size q → A q := fun q z => z.elim (fun z => by rw [z]; exact hD.2 _ _ hlast) (hsz q)
  obtain ⟨host, hlk⟩ := hlk
  have hrun := va_runIN (As := xs) (rest := rest) (e := e) (below := below) (meth := meth) (locs := locs) (cells := cells) (slots := slots) (g := F0 m pc ls st0) ⟨hx, hb, hml, hown, hts⟩ (hc D dA h0 H.size)
    ⟨va_cnB na hts (TBL_goodIn hcode) rfl hrm.1 hrm.2.1 (hN' _ hlk) (hts _ hini) hy hrm.2.2, hy1, hts _ hin⟩
    ⟨PCI_blind, g_pre hG0 hP hD hS⟩ rfl hna hl.1 hst (lv_room hcat) hd hroom
  refine g_initgo (A2 := A1 h0 H.size) hrun hS hA1 (fun r t H1 locs1 ht hB hk hS1 => ?_)
  obtain ⟨e1, ad, e2, hz, hP1, hD1⟩ := hB
  cases e1
  rw [ht] at hP1
  obtain ⟨j1, j2⟩ := g_join hP hD hsz hk hP1 hD1
  exact kk ad e2 hz H1 locs1 ls j1 j2 hS1 hl
theorem k_newa (hG : CG p s m args c cc own nL D dA ad0 A) {cells slots : Nat} {w : va_W} {o : Nat × va_E} {lv : List (Nat × Value)} {pc : Nat} {st : List Value} {atype : ArrayType} {ty : FieldType} {n : Int32} (N' : Nat) (a0 : vp_A) (t0 : Nat) (hd : decode cc pc = .ok (.newarray atype, 2)) {pc' : Nat} (hpc : pc + 2 = pc') (hw : Cond.arrayClass (newarray.typeOf atype) ∈ TBL) (hty : newarray.typeOf atype = ty) (hob : ∀ Cn, ty ≠ .object Cn) (ht : (TYS dA)[t0]? = some (dA t0, ty)) (ha : ∀ cA : ClassId, vp_cell cA a0 = arrV cA N' (fun _ => defaultValue ty)) (hn : ¬ n < 0) (hN : n.toNatClampNeg = N') (hby : N' * componentBytes ty ≤ 536870912) (hce : cells + 1 ≤ R.cells) (hsl : slots + N' ≤ R.slots) (kk : ∀ q : Nat, GW p l e R s m args below meth c Q nL D A (cells + 1) (slots + N') (o :: (w ++ [(q, .inl (dA t0, a0))])) lv pc' (.ref q :: st)) : GW p l e R s m args below meth c Q nL D A cells slots (o :: w) lv pc (.int n :: st)   := g_newa (w := o :: w) hG N' a0 t0 hd hpc hw hty hob ht ha hn hN hby hce hsl kk
theorem k_newq (hG : CG p s m args c cc own nL D dA ad0 A) {cells slots : Nat} {w : va_W} {o : Nat × va_E} {lv : List (Nat × Value)} {pc idx : Nat} {st : List Value} {Cn : String} {n : Int32} (N' : Nat) (t0 : Nat) (hd : decode cc pc = .ok (.anewarray idx, 3)) {pc' : Nat} (hpc : pc + 3 = pc') (hw : Cond.classLink own idx Cn ∈ TBL) (hao : va_AO Cn s) (ht : (TYS dA)[t0]? = some (dA t0, .object Cn)) (hn : ¬ n < 0) (hN : n.toNatClampNeg = N') (hby : N' * 4 ≤ 536870912) (hce : cells + 1 ≤ R.cells) (hsl : slots + N' ≤ R.slots) (kk : ∀ q : Nat, GW p l e R s m args below meth c Q nL D A (cells + 1) (slots + N') (o :: (w ++ [(q, .inl (dA t0, N', .inr (.inr (.inr (.inr (fun _ => none))))))])) lv pc' (.ref q :: st)) : GW p l e R s m args below meth c Q nL D A cells slots (o :: w) lv pc (.int n :: st)   := g_newq (w := o :: w) hG N' t0 hd hpc hw hao ht hn hN hby hce hsl kk
theorem k_new (hG : CG p s m args c cc own nL D dA ad0 A) {cells slots : Nat} {w : va_W} {o : Nat × va_E} {lv : List (Nat × Value)} {pc idx ci N : Nat} {st : List Value} {Cn : String} {T : u_T} {ty0 : Nat → FieldType} (fs : List Value) (hd : decode cc pc = .ok (.new idx, 3)) {pc' : Nat} (hpc : pc + 3 = pc') (hk : CLF ci Cn T N ty0) (hcl : Cond.classLink own idx Cn ∈ TBL) (hin : Cond.instantiable Cn N ∈ TBL) (hii : Cond.initialized Cn ∈ TBL) (hfs : (List.range N).map (fun j => defaultValue (ty0 j)) = fs) (hce : cells + 1 ≤ R.cells) (hsl : slots + N ≤ R.slots) (kk : ∀ q : Nat, GW p l e R s m args below meth c Q nL D A (cells + 1) (slots + N) (o :: (w ++ [(q, .inr (alen ci, fs))])) lv pc' (.ref q :: st)) : GW p l e R s m args below meth c Q nL D A cells slots (o :: w) lv pc st   := g_new (w := o :: w) hG fs hd hpc hk hcl hin hii hfs hce hsl kk
theorem k_init (hG : CG p s m args c cc own nL D dA ad0 A) {cells slots : Nat} {w : va_W} {o : Nat × va_E} {lv : List (Nat × Value)} {pc idx na mc ms ci nLy k0 h0 : Nat} {rest st0 fs xs : List Value} {y : MethodName} {bytes : ByteArray} {rm : Room} {C : List (Nat × Nat)} {mm : MM} {Z : (Nat → Nat → Nat) → Prop} (hc : CNI l ad0 y bytes nLy rm mc ms ci fs xs k0 C mm Z) (hd : decode cc pc = .ok (.invokespecial idx, 3)) {pc' : Nat} (hpc : pc + 3 = pc') (hcode : Cond.code y bytes nLy none ∈ TBL) (hini : Cond.initialized y.cls ∈ TBL) (hy : y.cls ≠ "java/lang/invoke/MethodHandle" ∧ y.cls ≠ "java/lang/invoke/VarHandle" ∧ (parseMethodDescriptor y.desc).map (fun d => d.parameters.length) = some na) (hy1 : y.name = "<init>") (hlk : Cond.methodLink own idx y ∈ TBL) (hin : Cond.instanceMethod y ∈ TBL) (hst : st0 = xs.reverse ++ .ref h0 :: rest) (hna : xs.length = na) (hcat : (rest.map fun v => v.category).sum ≤ 8) (hrm : rm.cells = mc ∧ rm.slots = ms ∧ rm.frames + 1 ≤ R.frames ∧ 8 + (nLy + 11) + rm.locals ≤ R.locals) (hroom : cells + mc ≤ R.cells ∧ slots + ms ≤ R.slots) (kk : ∀ ad : Nat → Nat → Nat, h0 = ad k0 0 → Z ad → GW p l e R s m args below meth c Q nL D A (cells + mc) (slots + ms) (o :: (w ++ WSC C dA ad mm)) lv pc' rest) : GW p l e R s m args below meth c Q nL D A cells slots (o :: (w ++ [(h0, .inr (ci, fs))])) lv pc st0   := g_init (w := o :: w) hG hc hd hpc hcode hini hy hy1 hlk hin hst hna hcat hrm hroom kk
theorem k_initN (hG : CG p s m args c cc own nL D dA ad0 A) {cells slots : Nat} {w : va_W} {o : Nat × va_E} {lv : List (Nat × Value)} {pc idx na mc ms ci nLy k0 h0 : Nat} {rest st0 fs xs : List Value} {y : MethodName} {bytes : ByteArray} {rm : Room} {C : List (Nat × Nat)} {mm : MM} {Z : (Nat → Nat → Nat) → Prop} (hc : CNI l ad0 y bytes nLy rm mc ms ci fs xs k0 C mm Z) (hd : decode cc pc = .ok (.invokespecial idx, 3)) {pc' : Nat} (hpc : pc + 3 = pc') (hcode : Cond.code y bytes nLy none ∈ TBL) (hini : Cond.initialized y.cls ∈ TBL) (hy : y.cls ≠ "java/lang/invoke/MethodHandle" ∧ y.cls ≠ "java/lang/invoke/VarHandle" ∧ (parseMethodDescriptor y.desc).map (fun d => d.parameters.length) = some na) (hy1 : y.name = "<init>") (hlk : ∃ host, (own, idx, y, host) ∈ NSL) (hin : Cond.instanceMethod y ∈ TBL) (hst : st0 = xs.reverse ++ .ref h0 :: rest) (hna : xs.length = na) (hcat : (rest.map fun v => v.category).sum ≤ 8) (hrm : rm.cells = mc ∧ rm.slots = ms ∧ rm.frames + 1 ≤ R.frames ∧ 8 + (nLy + 11) + rm.locals ≤ R.locals) (hroom : cells + mc ≤ R.cells ∧ slots + ms ≤ R.slots) (kk : ∀ ad : Nat → Nat → Nat, h0 = ad k0 0 → Z ad → GW p l e R s m args below meth c Q nL D A (cells + mc) (slots + ms) (o :: (w ++ WSC C dA ad mm)) lv pc' rest) : GW p l e R s m args below meth c Q nL D A cells slots (o :: (w ++ [(h0, .inr (ci, fs))])) lv pc st0   := g_initN (w := o :: w) hG hc hd hpc hcode hini hy hy1 hlk hin hst hna hcat hrm hroom kk
/-- the end -/
theorem g_vret (hG : CG p s m args c cc own nL D dA ad0 A) {cells slots : Nat} {w : va_W} {lv : List (Nat × Value)} {pc h0 k0 : Nat} {C : List (Nat × Nat)} {mm : MM} {Z : (Nat → Nat → Nat) → Prop} (hd : decode cc pc = .ok (.return_, 1)) (hQ : Q = MQ below (QCI D dA h0 s.heap.size k0 C mm Z) args s cells slots (A1 h0 s.heap.size)) (hAe : A = A1 h0 s.heap.size) (hr : meth.sig.returnType = none) (hlk : meth.locks = false) (ad : Nat → Nat → Nat) (had : h0 = ad k0 0) (hZ : Z ad) (hw : w = WSC C dA ad mm) : GW p l e R s m args below meth c Q nL D A cells slots w lv pc [] := by
  intro H locs ls hP hD hS hl
  subst hw
  subst hQ
  subst hAe
  exact W.vret hG.1 hG.2.1 hr (fun t ht _ => ⟨⟨rfl, ad, had, hZ, by rw [ht]; exact hP, hD⟩, hS.F ht⟩) hS.2.2 hd hlk
/-- the rest of a constructor, walked by the small machine over the made part -/
theorem g_tail (hG : CG p s m args c cc own nL D dA ad0 A) {cells slots : Nat} {lv : List (Nat × Value)} {C : List (Nat × Nat)} {ad : Nat → Nat → Nat} {mm : MM} {P : List StpT} {pcs : Nat → Nat} {Pre : PreT} {Fn : FnT} {as : List MV} (hvc : VC P nL Pre Fn) (hE : EXT ad A s s.heap) (hY : CHY C) (hSL : CXC C p s m args c cc own nL D dA ad A → SL (fun r m' => (r, m') = Fn mm as) (XKC C p l e R s m args below meth c cells slots Q nL D dA ad A pcs) 0 P) (hom : okm mm) (hoa : oksC C as) (hpre : Pre mm as) (hlv : lv = lv_args 0 (as.map (cv ad))) : GW p l e R s m args below meth c Q nL D A cells slots (WSC C dA ad mm) lv (pcs 0) [] := by
  intro H locs ls hP hD hS hl
  obtain ⟨hx, hb, hml, hown, hts, hK, hN', -, hO, hA⟩ := hG
  have hAW : ∀ q, AWC C ad s.heap.size q → A q := fun q z => z.elim (fun ⟨c0, hc, e0⟩ => by
    obtain ⟨k, hk⟩ := List.getElem?_of_mem hc
    have h1 := hD.2 k (ad c0.1 c0.2, cE dA ad mm c0) (WS_atC hk)
    rw [e0]; exact h1) (hA q)
  obtain ⟨hlen, hv⟩ := hvc mm as hom (fun v hv => okvC_okv hY (hoa v hv)) hpre
  have hX := hv _ (RUN_of (hSL ⟨hx, hb, hml, hown, hts, hK, hN', hE, hAW, hY⟩))
  exact hX (by unfold lsOf; rw [List.length_append, List.length_replicate]; omega) (fun i v hv => lsA_okC _ as i v hoa hv) (fun v hv => by cases hv) hom H locs ls hP hD hS hl.1 ⟨hl.2.1, fun i v hv => by
    have h3 := lsA_at ad _ as 0 i v hv
    rw [Nat.zero_add] at h3
    exact hl.2.2 _ (by rw [hlv]; exact h3)⟩
theorem g_tailret (hG : CG p s m args c cc own nL D dA ad0 A) {cells slots n : Nat} {C : List (Nat × Nat)} {ad : Nat → Nat → Nat} {mm mm' : MM} {pcs : Nat → Nat} {RR : RetP} {h0 k0 : Nat} {Z : (Nat → Nat → Nat) → Prop} (hd : decode cc (pcs n) = .ok (.return_, 1)) (hQ : Q = MQ below (QCI D dA h0 s.heap.size k0 C mm' Z) args s cells slots (A1 h0 s.heap.size)) (hAe : A = A1 h0 s.heap.size) (hr : meth.sig.returnType = none) (hlk : meth.locks = false) (had : h0 = ad k0 0) (hZ : Z ad) (hRR : ∀ r m', RR r m' → m' = mm') : SND RR (XKC C p l e R s m args below meth c cells slots Q nL D dA ad A pcs) n s_vret := by
  refine ⟨mo_s_vret, fun ls st mm h => ?_⟩
  intro hl hol hos hom H locs arr hP hD hS hz hL
  unfold s_vret at h
  split at h
  · have e := hRR _ _ h
    subst e
    exact g_vret hG hd hQ hAe hr hlk ad had hZ rfl H locs arr (lv := []) hP hD hS ⟨hz, hL.1, fun q hq => by cases hq⟩
  · exact h.elim
end GX
theorem CNI_of {l : Launch} {ad0 : Nat → Nat → Nat} {y : MethodName} {bytes : ByteArray} {nL : Nat} {rm : Room} {mc ms ci : Nat} {fs xs : List Value} {k0 : Nat} {C : List (Nat × Nat)} {mm : MM} {Z : (Nat → Nat → Nat) → Prop} {own : String} (hy : plainName y.cls = true) (hown : y.cls = own) (hyn : y.name = "<init>") (hlen : (lg_sl (Value.null :: xs)).length ≤ nL)
    (h : ∀ (p : Program) (e : Env) (s : State) (m : MethodId) (args : Array Value) (below : List Frame) (meth : Method) (c : Code) (D : va_G) (dA : Nat → ClassId) (h0 : Nat), CG p s m args c bytes own nL D dA ad0 (A1 h0 s.heap.size) → meth.name = "<init>" → meth.sig.returnType = none → meth.locks = false → GW p l e rm s m args below meth c (MQ below (QCI D dA h0 s.heap.size k0 C mm Z) args s mc ms (A1 h0 s.heap.size)) nL D (A1 h0 s.heap.size) 0 0 [(h0, .inr (ci, fs))] (lv_args 0 (.ref h0 :: xs)) 0 []) : CNI l ad0 y bytes nL rm mc ms ci fs xs k0 C mm Z := by
  intro D dA h0 sz
  refine Met.ofW (cc := bytes) (maxL := nL) (ret := none) hy rfl ?_
  intro p e s m args below meth c s₁ B hml hv
  obtain ⟨rfl, hsz, hP, hK, hN, hE, hO⟩ := hv
  subst hsz
  subst hown
  have hts := atoms_spec (ws := Cond.code y bytes nL none :: TBL) B.pre
  have hG : CG p s m (Value.ref h0 :: xs).toArray c bytes y.cls nL D dA ad0 (A1 h0 s.heap.size) := ⟨B.exec, B.bytes, hml, findClass_of_methodNamed B.named, fun w hw => hts w (List.mem_cons_of_mem _ hw), hK, hN, hE, hO, fun _ z => Or.inr z⟩
  have hl := lv_entry (.ref h0 :: xs) (n := nL) hlen
  rw [lg_entry_eq]
  exact h p e s m _ below meth c D dA h0 hG ((name_of_methodNamed B.named B.method).1.trans hyn) B.returns B.notSynchronized s.heap [] _ hP ⟨fun i j x y hi hj _ => by
    have h1 := (List.getElem?_eq_some_iff.mp hi).1
    have h2 := (List.getElem?_eq_some_iff.mp hj).1
    simp only [List.length_singleton] at h1 h2
    omega, fun k q hk => by
    have h1 := (List.getElem?_eq_some_iff.mp hk).1
    simp only [List.length_singleton] at h1
    rw [show k = 0 by omega] at hk
    cases hk
    exact Or.inl rfl⟩ va_S.rf hl

end
