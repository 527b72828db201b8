/-! PART 9ZZH: the same steps over a part of the world: the cells of a list C alone -/

noncomputable section
/-- a list of cells that is a part of the world, each once, with what its fields point to -/
def CHY (C : List (Nat × Nat)) : Prop := (∀ i, i < C.length → ∀ j, j < C.length → C[i]? = C[j]? → i = j) ∧ (∀ q ∈ C, (sh q.1).1 ≤ 5 ∧ q.2 < cnt q.1) ∧ (∀ q ∈ C, (sh q.1).1 = 0 → ∀ j, j < nf q.1 → (ft q.1 j).1 = 2 → ((ft q.1 j).2.1, q.2) ∈ C)
def okvC (C : List (Nat × Nat)) : MV → Prop
  | Sum.inl _ => True
  | Sum.inr (Sum.inl _) => True
  | Sum.inr (Sum.inr q) => q ∈ C ∨ ((q.1 = 72 ∨ q.1 = 73) ∧ q.2 < 2)
def oklC (C : List (Nat × Nat)) (ls : LsT) : Prop := ∀ i v, lg ls i = some v → okvC C v
def oksC (C : List (Nat × Nat)) (st : List MV) : Prop := ∀ v ∈ st, okvC C v
theorem okvC_okv {C : List (Nat × Nat)} (hY : CHY C) {v : MV} (h : okvC C v) : okv v := by
  rcases v with x | x | ⟨k, g⟩
  · trivial
  · trivial
  · rcases h with h | ⟨h, h2⟩
    · exact (hY.2.1 _ h).2
    · show g < cnt k
      have h2 : g < 2 := h2
      have h : k = 72 ∨ k = 73 := h
      rcases h with rfl | rfl
      · exact h2
      · exact h2
theorem memC {C : List (Nat × Nat)} (hY : CHY C) {k g : Nat} (h : okvC C (Sum.inr (Sum.inr (k, g)))) (hs : (sh k).1 ≤ 5) : ∃ q0 : Nat, C[q0]? = some (k, g) := by
  rcases h with h | ⟨h, -⟩
  · exact List.getElem?_of_mem h
  · exfalso
    have h : k = 72 ∨ k = 73 := h
    rcases h with rfl | rfl
    · exact absurd hs (by decide)
    · exact absurd hs (by decide)
theorem okC_str {C : List (Nat × Nat)} (hY : CHY C) {k g : Nat} (h : okvC C (Sum.inr (Sum.inr (k, g)))) (hk : k = 72 ∨ k = 73) : g < 2 := by
  rcases h with h | ⟨-, h⟩
  · exfalso
    have h1 := (hY.2.1 _ h).1
    have h1 : (sh k).1 ≤ 5 := h1
    rcases hk with rfl | rfl
    · exact absurd h1 (by decide)
    · exact absurd h1 (by decide)
  · exact h
theorem okC_fld {C : List (Nat × Nat)} (hY : CHY C) {k g j t b0 : Nat} (h : okvC C (Sum.inr (Sum.inr (k, g)))) (hso : (sh k).1 = 0) (hj : j < nf k) (hf : ft k j = (2, t, b0)) : okvC C (Sum.inr (Sum.inr (t, g))) := by
  obtain ⟨q0, hq⟩ := memC hY h (by rw [hso]; exact Nat.zero_le 5)
  have h1 := hY.2.2 _ (List.mem_of_getElem? hq) hso j hj (by show (ft k j).1 = 2; rw [hf])
  refine Or.inl ?_
  have h2 : ((ft k j).2.1, g) ∈ C := h1
  rw [hf] at h2
  exact h2
def WSC (C : List (Nat × Nat)) (dA : Nat → ClassId) (ad : Nat → Nat → Nat) (mm : MM) : va_W := C.map (fun q => (ad q.1 q.2, cE dA ad mm q))
theorem WS_atC {C : List (Nat × Nat)} {dA : Nat → ClassId} {ad : Nat → Nat → Nat} {mm : MM} {q0 : Nat} {q : Nat × Nat} (h : C[q0]? = some q) : (WSC C dA ad mm)[q0]? = some (ad q.1 q.2, cE dA ad mm q) := by
  unfold WSC
  rw [List.getElem?_map, h]
  rfl
theorem WS_setC {C : List (Nat × Nat)} (hY : CHY C) {dA : Nat → ClassId} {ad : Nat → Nat → Nat} {mm mm' : MM} {q0 : Nat} {q : Nat × Nat} (h : C[q0]? = some q) (ho : ∀ r : Nat × Nat, r ∈ C → r ≠ q → cE dA ad mm' r = cE dA ad mm r) : (WSC C dA ad mm).set q0 (ad q.1 q.2, cE dA ad mm' q) = WSC C dA ad mm' := by
  apply List.ext_getElem?
  intro i
  have hlt : q0 < (WSC C dA ad mm).length := by
    have := (List.getElem?_eq_some_iff.mp h).1
    simpa [WSC] using this
  by_cases hi : i = q0
  · subst hi
    rw [List.getElem?_set_self hlt, WS_atC h]
  · rw [List.getElem?_set_ne (Ne.symm hi)]
    unfold WSC
    rw [List.getElem?_map, List.getElem?_map]
    cases hc : C[i]? with
    | none => rfl
    | some r =>
      have hr : r ≠ q := fun e => hi (hY.1 i (List.getElem?_eq_some_iff.mp hc).1 q0 (List.getElem?_eq_some_iff.mp h).1 (by rw [hc, h, e]))
      show some (_, _) = some (_, _)
      rw [ho r (List.mem_of_getElem? hc) hr]
theorem WS_DC {C : List (Nat × Nat)} {dA : Nat → ClassId} {ad : Nat → Nat → Nat} {mm mm' : MM} {A : Nat → Prop} (h : va_D A (WSC C dA ad mm)) : va_D A (WSC C dA ad mm') := by
  have key : ∀ (k : Nat) (q : Nat × va_E), (WSC C dA ad mm')[k]? = some q → ∃ q' : Nat × va_E, (WSC C dA ad mm)[k]? = some q' ∧ q'.1 = q.1 := by
    intro k q hq
    unfold WSC at hq ⊢
    rw [List.getElem?_map] at hq ⊢
    cases hc : C[k]? with
    | none => rw [hc] at hq; cases hq
    | some r => rw [hc] at hq; cases hq; exact ⟨_, rfl, rfl⟩
  refine ⟨fun i j x y hi hj hxy => ?_, fun k q hk => ?_⟩
  · obtain ⟨x', h1, h2⟩ := key i x hi
    obtain ⟨y', h3, h4⟩ := key j y hj
    exact h.1 i j x' y' h1 h3 (by rw [h2, h4]; exact hxy)
  · obtain ⟨q', h1, h2⟩ := key k q hk
    rw [← h2]
    exact h.2 k q' h1
def AWC (C : List (Nat × Nat)) (ad : Nat → Nat → Nat) (sz : Nat) : Nat → Prop := fun q => (∃ c ∈ C, q = ad c.1 c.2) ∨ sz ≤ q
theorem AW_DC {C : List (Nat × Nat)} {dA : Nat → ClassId} {ad : Nat → Nat → Nat} {mm : MM} {sz : Nat} (h : va_D (fun _ => True) (WSC C dA ad mm)) : va_D (AWC C ad sz) (WSC C dA ad mm) := by
  refine ⟨h.1, fun k q hk => Or.inl ?_⟩
  unfold WSC at hk
  rw [List.getElem?_map] at hk
  cases hc : C[k]? with
  | none => rw [hc] at hk; cases hk
  | some r => rw [hc] at hk; cases hk; exact ⟨r, List.mem_of_getElem? hc, rfl⟩
theorem okl_lpC {C : List (Nat × Nat)} {ls : LsT} {i : Nat} {v : Option MV} (h : oklC C ls) (hv : ∀ w, v = some w → okvC C w) : oklC C (lp ls i v) := by
  intro j w hw
  rw [lg_lp] at hw
  by_cases q : j = i ∧ i < ls.length
  · rw [if_pos q] at hw; exact hv w hw
  · rw [if_neg q] at hw; exact h j w hw
theorem oks_cC {C : List (Nat × Nat)} {v : MV} {st : List MV} (h : okvC C v) (hs : oksC C st) : oksC C (v :: st) := fun w hw => by
  rcases List.mem_cons.mp hw with rfl | q
  · exact h
  · exact hs w q
theorem oks_tC {C : List (Nat × Nat)} {v : MV} {st : List MV} (h : oksC C (v :: st)) : oksC C st := fun w hw => h w (List.mem_cons_of_mem _ hw)
theorem oks_hC {C : List (Nat × Nat)} {v : MV} {st : List MV} (h : oksC C (v :: st)) : okvC C v := h v List.mem_cons_self
theorem lsA_okC {C : List (Nat × Nat)} (z : Nat) : ∀ (as : List MV) (i : Nat) (v : MV), oksC C as → lg (lsA as ++ List.replicate z none) i = some v → okvC C v
  | [], i, v, _, h => by
    rw [show lsA [] ++ List.replicate z none = List.replicate z none from rfl, lg_rep] at h
    cases h
  | w :: r, i, v, ho, h => by
    rcases w with x | x | x
    · cases i with
      | zero => cases h; exact oks_hC ho
      | succ i => exact lsA_okC z r i v (oks_tC ho) h
    · cases i with
      | zero => cases h; exact oks_hC ho
      | succ i =>
        cases i with
        | zero => cases h
        | succ i => exact lsA_okC z r i v (oks_tC ho) h
    · cases i with
      | zero => cases h; exact oks_hC ho
      | succ i => exact lsA_okC z r i v (oks_tC ho) h
def WLDC (C : List (Nat × Nat)) (D : va_G) (dA : Nat → ClassId) (ad : Nat → Nat → Nat) (A : Nat → Prop) (mm : MM) (U : State) : Prop :=
  va_P D vwCl (WSC C dA ad mm) U.heap ∧ va_K D vwCl (TYS dA) U ∧ va_D (fun _ => True) (WSC C dA ad mm) ∧ NST U ∧ EXT ad A U U.heap
def XKC (C : List (Nat × Nat)) (p : Program) (l : Launch) (e : Env) (R : Room) (s : State) (m : MethodId) (args : Array Value) (below : List Frame) (meth : Method) (c : Code) (cells slots : Nat) (Q : State → Prop) (nL : Nat) (D : va_G) (dA : Nat → ClassId) (ad : Nat → Nat → Nat) (A : Nat → Prop) (pcs : Nat → Nat) : KonT := fun i ls st mm =>
  ls.length = nL → oklC C ls → oksC C st → okm mm → ∀ (H : Heap) (locs : List Loc) (arr : Array Slot), va_P D vwCl (WSC C dA ad mm) H → va_D A (WSC C dA ad mm) → va_S A s.heap H locs → arr.size = nL → LH ad arr ls →
    W p l e R s m args below meth c H locs cells slots Q (F0 m (pcs i) arr (st.map (cv ad)))
def CXC (C : List (Nat × Nat)) (p : Program) (s : State) (m : MethodId) (args : Array Value) (c : Code) (cc : ByteArray) (own : String) (nL : Nat) (D : va_G) (dA : Nat → ClassId) (ad : Nat → Nat → Nat) (A : Nat → Prop) : Prop :=
  p.tables.exec = Jvm.exec ∧ c.code = cc ∧ c.maxLocals = nL ∧ s.vm.findClass own = some m.cls ∧ (∀ w ∈ TBL, w.before args s = true) ∧ va_K D vwCl (TYS dA) s ∧ NST s ∧ EXT ad A s s.heap ∧ (∀ q, AWC C ad s.heap.size q → A q) ∧ CHY C
def PCOC (C : List (Nat × Nat)) (D : va_G) (dA : Nat → ClassId) (ad : Nat → Nat → Nat) (mm : MM) (as : List MV) (sz : Nat) : Array Value → State → Prop := va_Pc (as.map (cv ad)) (fun U => U.heap.size = sz ∧ WLDC C D dA ad (AWC C ad sz) mm U)
def QCOC (C : List (Nat × Nat)) (D : va_G) (dA : Nat → ClassId) (ad : Nat → Nat → Nat) (sz : Nat) (RR : RetP) : Array Value → State → Outcome → State → Prop := fun _ st oc t => (∃ (r : Option MV) (mm' : MM), oc = .returned (r.map (cv ad)) ∧ RR r mm' ∧ okm mm' ∧ (∀ v, r = some v → okvC C v) ∧ va_P D vwCl (WSC C dA ad mm') t.heap) ∧ va_F (AWC C ad sz) st t
def CONC (C : List (Nat × Nat)) (l : Launch) (y : MethodName) (cc : ByteArray) (nL : Nat) (ret : Option FieldType) (rm : Room) (Pre : PreT) (Fn : FnT) : Prop := ∀ (D : va_G) (dA : Nat → ClassId) (ad : Nat → Nat → Nat) (mm : MM) (as : List MV) (sz : Nat), okm mm → oksC C as → Pre mm as → Met l y (.code y cc nL ret :: TBL) rm (PCOC C D dA ad mm as sz) (QCOC C D dA ad sz (fun r m' => (r, m') = Fn mm as)) 0 0 (AWC C ad sz)
theorem WLD_callingC {C : List (Nat × Nat)} {D : va_G} {dA : Nat → ClassId} {ad : Nat → Nat → Nat} {A : Nat → Prop} {mm : MM} {U : State} {g : JFrame} {mk : MethodId} {a : Array Value} (h : WLDC C D dA ad A mm U) : WLDC C D dA ad A mm (U.calling g mk a) := by
  obtain ⟨h1, h2, h3, h4, h5⟩ := h
  exact ⟨h1, va_K.moved (u := U) (U := U.calling g mk a) (Vm.Alike.refl U.vm) h2, h3, NST.same (u := U) (U := U.calling g mk a) rfl h4, EXT.same (u := U) (U := U.calling g mk a) rfl h5⟩
theorem PCO_blindC {C : List (Nat × Nat)} {D : va_G} {dA : Nat → ClassId} {ad : Nat → Nat → Nat} {mm : MM} {as : List MV} {sz : Nat} : FrameBlind (PCOC C D dA ad mm as sz) := fun _ _ _ _ h => ⟨h.1, h.2.1, WLD_callingC h.2.2⟩
def RTXC (C : List (Nat × Nat)) (s : State) (m : MethodId) (args : Array Value) (below : List Frame) (meth : Method) (cells slots : Nat) (Q : State → Prop) (D : va_G) (dA : Nat → ClassId) (ad : Nat → Nat → Nat) (A : Nat → Prop) (RR : RetP) (ret : Option FieldType) : Prop :=
  cells = 0 ∧ slots = 0 ∧ A = AWC C ad s.heap.size ∧ Q = MQ below (QCOC C D dA ad s.heap.size RR) args s 0 0 (AWC C ad s.heap.size) ∧ meth.sig.returnType = ret ∧ meth.locks = false
theorem RTX_roomC {C : List (Nat × Nat)} {R : Room} {s : State} {m : MethodId} {args : Array Value} {below : List Frame} {meth : Method} {cells slots : Nat} {Q : State → Prop} {D : va_G} {dA : Nat → ClassId} {ad : Nat → Nat → Nat} {A : Nat → Prop} {RR : RetP} {ret : Option FieldType} (h : RTXC C s m args below meth cells slots Q D dA ad A RR ret) : cells ≤ R.cells ∧ slots ≤ R.slots := ⟨by rw [h.1]; exact Nat.zero_le _, by rw [h.2.1]; exact Nat.zero_le _⟩
section FWC
variable {C : List (Nat × Nat)} {p : Program} {l : Launch} {e : Env} {R : Room} {s : State} {m : MethodId} {args : Array Value} {below : List Frame} {meth : Method} {c : Code} {cells slots : Nat} {Q : State → Prop} {nL : Nat} {D : va_G} {dA : Nat → ClassId} {ad : Nat → Nat → Nat} {A : Nat → Prop} {pcs : Nat → Nat} {cc : ByteArray} {own : String} {RR : RetP}
theorem AW_subC {H : Heap} {locs : List Loc} (hS : va_S A s.heap H locs) (hAW : ∀ q, AWC C ad s.heap.size q → A q) : ∀ q, AWC C ad H.size q → A q := fun q h => hAW q (h.elim Or.inl (fun z => Or.inr (Nat.le_trans hS.1 z)))
theorem PCO_atC {H : Heap} {locs : List Loc} {mm : MM} {as : List MV} (hK : va_K D vwCl (TYS dA) s) (hN : NST s) (hE : EXT ad A s s.heap) (hAW : ∀ q, AWC C ad s.heap.size q → A q) (hP : va_P D vwCl (WSC C dA ad mm) H) (hD : va_D A (WSC C dA ad mm)) (hS : va_S A s.heap H locs) : ∀ U : State, U.heap = H → s.WarmedH U.vm → PCOC C D dA ad mm as H.size (as.map (cv ad)).toArray U := by
  intro U hU hW
  refine ⟨rfl, by rw [hU], by rw [hU]; exact hP, va_K.moved hW.alike hK, hD.weaken (fun _ _ _ _ => trivial), hN.warm hW, ?_⟩
  rw [hU]
  exact ((hE.kept hS.2.1 (AW_subC hS hAW)).warm hW)
theorem sc_aload_n (hC : CXC C p s m args c cc own nL D dA ad A) {n i : Nat} {k : Fin 4} (hd : decode cc (pcs n) = .ok (.aload_n k, 1)) (hn : pcs (n + 1) = pcs n + 1) (hk : (k : Nat) = i) : SND RR (XKC C p l e R s m args below meth c cells slots Q nL D dA ad A pcs) n (s_aload i) := by
  refine ⟨mo_s_aload, fun ls st mm h => ?_⟩
  obtain ⟨hx, hb, hml, hown, hts, hK, hN, hE, hAW, hY⟩ := hC
  intro hl hol hos hom H locs arr hP hD hS hz hL
  unfold s_aload at h
  split at h
  · rename_i x he
    have hv := hL.2 i _ he
    have k1 := h hl hol (oks_cC (hol _ _ he) hos) hom H locs arr hP hD hS hz hL
    rw [hn] at k1
    exact lv_aload_n hx hb hd hk hv k1
  · exact h.elim
theorem sc_bipush (hC : CXC C p s m args c cc own nL D dA ad A) {n : Nat} {z : Int} {x : Int32} (hd : decode cc (pcs n) = .ok (.bipush z, 2)) (hn : pcs (n + 1) = pcs n + 2) (hv : (Int8.ofInt z).toInt32 = x) : SND RR (XKC C p l e R s m args below meth c cells slots Q nL D dA ad A pcs) n (s_ic x) := by
  refine ⟨mo_s_ic, fun ls st mm h => ?_⟩
  obtain ⟨hx, hb, hml, hown, hts, hK, hN, hE, hAW, hY⟩ := hC
  intro hl hol hos hom H locs arr hP hD hS hz hL
  have k1 := h hl hol (oks_cC (v := Sum.inl x) trivial hos) hom H locs arr hP hD hS hz hL
  rw [hn] at k1
  exact lv_bipush hx hb hd hv k1
theorem sc_callS (hC : CXC C p s m args c cc own nL D dA ad A) {n na idx : Nat} {y : MethodName} {bytes : ByteArray} {mL : Nat} {ret : Option FieldType} {rm : Room} {Pre : PreT} {Fn : FnT} (hcon : CONC C l y bytes mL ret rm Pre Fn) (hd : decode cc (pcs n) = .ok (.invokestatic idx, 3)) (hn : pcs (n + 1) = pcs n + 3) (hcode : Cond.code y bytes mL ret ∈ TBL) (hini : Cond.initialized y.cls ∈ TBL) (hy : y.cls ≠ "java/lang/invoke/MethodHandle" ∧ y.cls ≠ "java/lang/invoke/VarHandle" ∧ (parseMethodDescriptor y.desc).map (fun d => d.parameters.length) = some na) (hrm : rm.cells = 0 ∧ rm.slots = 0 ∧ rm.frames + 1 ≤ R.frames ∧ 8 + (mL + 11) + rm.locals ≤ R.locals) (hroom : cells ≤ R.cells ∧ slots ≤ R.slots)  (hlk : Cond.methodLink own idx y ∈ TBL) (hstat : Cond.static y ∈ TBL) : SND RR (XKC C p l e R s m args below meth c cells slots Q nL D dA ad A pcs) n (s_callS na Pre Fn) := by
  refine ⟨mo_s_callS, fun ls st mm h => ?_⟩
  obtain ⟨hx, hb, hml, hown, hts, hK, hN, hE, hAW, hY⟩ := hC
  intro hl hol hos hom H locs arr hP hD hS hz hL
  unfold s_callS at h
  split at h
  · rename_i as st' hpop
    obtain ⟨hst0, hlen⟩ := popn_spec hpop
    cases q2 : (Nat.ble (csum st') 8) <;> rw [q2] at h
    · exact h.elim
    obtain ⟨hpre, h⟩ := h
    have hos' : ∀ v ∈ as.reverse ++ st', okvC C v := by rw [← hst0]; exact hos
    have hoa : oksC C as := fun v hv => hos' v (List.mem_append_left _ (List.mem_reverse.mpr hv))
    have hst : ∀ v ∈ st', okvC C v := fun v hv => hos' v (List.mem_append_right _ hv)
    have hrun := va_runS (As := as.map (cv ad)) (rest := st'.map (cv ad)) (e := e) (below := below) (meth := meth) (locs := locs) (cells := cells) (slots := slots) (g := F0 m (pcs n) arr (st.map (cv ad))) ⟨hx, hb, hml, hown, hts⟩ (hcon D dA ad mm _ H.size hom hoa hpre)
      ⟨callB_of na hts (TBL_goodIn hcode) rfl hrm.1 hrm.2.1 (hts _ hini) (hts _ hlk) hy hrm.2.2, hts _ hstat⟩
      ⟨PCO_blindC, PCO_atC (as := as) hK hN hE hAW hP hD hS⟩ rfl (by rw [List.length_map]; exact hlen) hz (by show st.map (cv ad) = _; rw [hst0, List.map_append, List.map_reverse]) (lv_room (by rw [csum_map]; exact Nat.le_of_ble_eq_true q2)) hd hroom
    refine call_go (A1 := AWC C ad H.size) hrun hS (AW_subC hS hAW) (fun r t H1 locs1 ht hB hS1 => ?_)
    obtain ⟨r', mm', e1, e2, hom', hv', hP1⟩ := hB
    cases e1
    rw [ht] at hP1
    rw [← e2] at h
    have k1 := h hl hol (fun v hv => by
      rcases List.mem_append.mp hv with q | q
      · exact hv' v (by cases r' with
          | none => cases q
          | some w => rw [List.mem_singleton.mp q])
      · exact hst v q) hom' H1 locs1 arr hP1 (WS_DC hD) hS1 hz hL
    rw [hn] at k1
    rw [List.map_append] at k1
    cases r' <;> exact k1
  · exact h.elim
theorem sc_callV (hC : CXC C p s m args c cc own nL D dA ad A) {n k na idx : Nat} {y : MethodName} {bytes : ByteArray} {mL : Nat} {ret : Option FieldType} {rm : Room} {Pre : PreT} {Fn : FnT} (hcon : CONC C l y bytes mL ret rm Pre Fn) (hd : decode cc (pcs n) = .ok (.invokevirtual idx, 3)) (hn : pcs (n + 1) = pcs n + 3) (hcode : Cond.code y bytes mL ret ∈ TBL) (hini : Cond.initialized y.cls ∈ TBL) (hy : y.cls ≠ "java/lang/invoke/MethodHandle" ∧ y.cls ≠ "java/lang/invoke/VarHandle" ∧ (parseMethodDescriptor y.desc).map (fun d => d.parameters.length) = some na) (hrm : rm.cells = 0 ∧ rm.slots = 0 ∧ rm.frames + 1 ≤ R.frames ∧ 8 + (mL + 11) + rm.locals ≤ R.locals) (hroom : cells ≤ R.cells ∧ slots ≤ R.slots)  (hlk : Cond.methodLink own idx y ∈ TBL) (hin : Cond.instanceMethod y ∈ TBL) (hsel : Cond.selects y.cls y y ∈ TBL) {T : u_T} {N : Nat} {ty0 : Nat → FieldType} (hk : CLF k y.cls T N ty0) : SND RR (XKC C p l e R s m args below meth c cells slots Q nL D dA ad A pcs) n (s_callV k na Pre Fn) := by
  refine ⟨mo_s_callV, fun ls st mm h => ?_⟩
  obtain ⟨hx, hb, hml, hown, hts, hK, hN, hE, hAW, hY⟩ := hC
  intro hl hol hos hom H locs arr hP hD hS hz hL
  unfold s_callV at h
  split at h
  · rename_i as k' g st' hpop
    obtain ⟨hst0, hlen⟩ := popn_spec hpop
    cases q : (Nat.beq k' k && Nat.ble (csum st') 8) <;> rw [q] at h
    · exact h.elim
    obtain ⟨q1, q2⟩ := Bool.and_eq_true_iff.mp q
    have e0 := Nat.eq_of_beq_eq_true q1
    subst e0
    obtain ⟨hpre, h⟩ := h
    have hos' : ∀ v ∈ as.reverse ++ (Sum.inr (Sum.inr (k', g)) :: st'), okvC C v := by rw [← hst0]; exact hos
    have hoa : oksC C (Sum.inr (Sum.inr (k', g)) :: as) := oks_cC (hos' _ (List.mem_append_right _ List.mem_cons_self)) (fun v hv => hos' v (List.mem_append_left _ (List.mem_reverse.mpr hv)))
    have hst : ∀ v ∈ st', okvC C v := fun v hv => hos' v (List.mem_append_right _ (List.mem_cons_of_mem _ hv))
    obtain ⟨hso, hcl, hnf, hin', hty, hnm, hcn⟩ := hk
    obtain ⟨q0, hq0⟩ := memC hY (k := k') (g := g) (oks_hC hoa) (by rw [hso]; exact Nat.zero_le 5)
    have he := WS_atC (dA := dA) (ad := ad) (mm := mm) hq0
    rw [cE_obj hso] at he
    have hrun := va_runV (As := as.map (cv ad)) (rest := st'.map (cv ad)) (e := e) (below := below) (meth := meth) (locs := locs) (cells := cells) (slots := slots) (g := F0 m (pcs n) arr (st.map (cv ad))) ⟨hx, hb, hml, hown, hts⟩ (hcon D dA ad mm _ H.size hom hoa hpre)
      ⟨callB_of na hts (TBL_goodIn hcode) rfl hrm.1 hrm.2.1 (hts _ hini) (hts _ hlk) hy hrm.2.2, hts _ hin, hts _ hsel⟩
      ⟨PCO_blindC, va_recv hK hP hcl he, PCO_atC (as := Sum.inr (Sum.inr (k', g)) :: as) hK hN hE hAW hP hD hS⟩ rfl (by rw [List.length_map]; exact hlen) hz (by show st.map (cv ad) = _; rw [hst0, List.map_append, List.map_reverse]; rfl) (lv_room (by rw [csum_map]; exact Nat.le_of_ble_eq_true q2)) hd hroom
    refine call_go (A1 := AWC C ad H.size) hrun hS (AW_subC hS hAW) (fun r t H1 locs1 ht hB hS1 => ?_)
    obtain ⟨r', mm', e1, e2, hom', hv', hP1⟩ := hB
    cases e1
    rw [ht] at hP1
    rw [← e2] at h
    have k1 := h hl hol (fun v hv => by
      rcases List.mem_append.mp hv with q | q
      · exact hv' v (by cases r' with
          | none => cases q
          | some w => rw [List.mem_singleton.mp q])
      · exact hst v q) hom' H1 locs1 arr hP1 (WS_DC hD) hS1 hz hL
    rw [hn] at k1
    rw [List.map_append] at k1
    cases r' <;> exact k1
  · exact h.elim
theorem sc_goto (hC : CXC C p s m args c cc own nL D dA ad A) {n t : Nat} {off : Int} (hd : decode cc (pcs n) = .ok (.goto off, 3)) (ht : (pcs n : Int) + off = (pcs t : Int)) : SND RR (XKC C p l e R s m args below meth c cells slots Q nL D dA ad A pcs) n (s_goto t) := by
  refine ⟨mo_s_goto, fun ls st mm h => ?_⟩
  obtain ⟨hx, hb, hml, hown, hts, hK, hN, hE, hAW, hY⟩ := hC
  intro hl hol hos hom H locs arr hP hD hS hz hL
  exact lv_goto hx hb hd ht (h hl hol hos hom H locs arr hP hD hS hz hL)
theorem sc_iadd (hC : CXC C p s m args c cc own nL D dA ad A) {n : Nat} (hd : decode cc (pcs n) = .ok (.iadd, 1)) (hn : pcs (n + 1) = pcs n + 1) : SND RR (XKC C p l e R s m args below meth c cells slots Q nL D dA ad A pcs) n s_iadd := by
  refine ⟨mo_s_iadd, fun ls st mm h => ?_⟩
  obtain ⟨hx, hb, hml, hown, hts, hK, hN, hE, hAW, hY⟩ := hC
  intro hl hol hos hom H locs arr hP hD hS hz hL
  unfold s_iadd at h
  split at h
  · have k1 := h hl hol (oks_cC (v := _) trivial (oks_tC (oks_tC hos))) hom H locs arr hP hD hS hz hL
    rw [hn] at k1
    exact lv_iadd hx hb hd  k1
  · exact h.elim
theorem sc_iand (hC : CXC C p s m args c cc own nL D dA ad A) {n : Nat} (hd : decode cc (pcs n) = .ok (.iand, 1)) (hn : pcs (n + 1) = pcs n + 1) : SND RR (XKC C p l e R s m args below meth c cells slots Q nL D dA ad A pcs) n s_iand := by
  refine ⟨mo_s_iand, fun ls st mm h => ?_⟩
  obtain ⟨hx, hb, hml, hown, hts, hK, hN, hE, hAW, hY⟩ := hC
  intro hl hol hos hom H locs arr hP hD hS hz hL
  unfold s_iand at h
  split at h
  · have k1 := h hl hol (oks_cC (v := _) trivial (oks_tC (oks_tC hos))) hom H locs arr hP hD hS hz hL
    rw [hn] at k1
    exact lv_iand hx hb hd  k1
  · exact h.elim
theorem sc_icge (hC : CXC C p s m args c cc own nL D dA ad A) {n t : Nat} {off : Int} (hd : decode cc (pcs n) = .ok (.if_icmp .ge off, 3)) (hn : pcs (n + 1) = pcs n + 3) (ht : (pcs n : Int) + off = (pcs t : Int)) : SND RR (XKC C p l e R s m args below meth c cells slots Q nL D dA ad A pcs) n (s_icge t) := by
  refine ⟨mo_s_icge, fun ls st mm h => ?_⟩
  obtain ⟨hx, hb, hml, hown, hts, hK, hN, hE, hAW, hY⟩ := hC
  intro hl hol hos hom H locs arr hP hD hS hz hL
  unfold s_icge at h
  split at h
  · refine lv_icmp_ge hx hb hd ht (fun z => h.1 z hl hol (oks_tC (oks_tC hos)) hom H locs arr hP hD hS hz hL) (fun z => ?_)
    have k1 := h.2 z hl hol (oks_tC (oks_tC hos)) hom H locs arr hP hD hS hz hL
    rw [hn] at k1
    exact k1
  · exact h.elim
theorem sc_icne (hC : CXC C p s m args c cc own nL D dA ad A) {n t : Nat} {off : Int} (hd : decode cc (pcs n) = .ok (.if_icmp .ne off, 3)) (hn : pcs (n + 1) = pcs n + 3) (ht : (pcs n : Int) + off = (pcs t : Int)) : SND RR (XKC C p l e R s m args below meth c cells slots Q nL D dA ad A pcs) n (s_icne t) := by
  refine ⟨mo_s_icne, fun ls st mm h => ?_⟩
  obtain ⟨hx, hb, hml, hown, hts, hK, hN, hE, hAW, hY⟩ := hC
  intro hl hol hos hom H locs arr hP hD hS hz hL
  unfold s_icne at h
  split at h
  · refine lv_icmp_ne hx hb hd ht (fun z => h.1 z hl hol (oks_tC (oks_tC hos)) hom H locs arr hP hD hS hz hL) (fun z => ?_)
    have k1 := h.2 z hl hol (oks_tC (oks_tC hos)) hom H locs arr hP hD hS hz hL
    rw [hn] at k1
    exact k1
  · exact h.elim
theorem sc_iclt (hC : CXC C p s m args c cc own nL D dA ad A) {n t : Nat} {off : Int} (hd : decode cc (pcs n) = .ok (.if_icmp .lt off, 3)) (hn : pcs (n + 1) = pcs n + 3) (ht : (pcs n : Int) + off = (pcs t : Int)) : SND RR (XKC C p l e R s m args below meth c cells slots Q nL D dA ad A pcs) n (s_iclt t) := by
  refine ⟨mo_s_iclt, fun ls st mm h => ?_⟩
  obtain ⟨hx, hb, hml, hown, hts, hK, hN, hE, hAW, hY⟩ := hC
  intro hl hol hos hom H locs arr hP hD hS hz hL
  unfold s_iclt at h
  split at h
  · refine lv_icmp_lt hx hb hd ht (fun z => h.1 z hl hol (oks_tC (oks_tC hos)) hom H locs arr hP hD hS hz hL) (fun z => ?_)
    have k1 := h.2 z hl hol (oks_tC (oks_tC hos)) hom H locs arr hP hD hS hz hL
    rw [hn] at k1
    exact k1
  · exact h.elim
theorem sc_iconst (hC : CXC C p s m args c cc own nL D dA ad A) {n : Nat} {z : Int} {x : Int32} (hd : decode cc (pcs n) = .ok (.iconst z, 1)) (hn : pcs (n + 1) = pcs n + 1) (hv : Int32.ofInt z = x) : SND RR (XKC C p l e R s m args below meth c cells slots Q nL D dA ad A pcs) n (s_ic x) := by
  refine ⟨mo_s_ic, fun ls st mm h => ?_⟩
  obtain ⟨hx, hb, hml, hown, hts, hK, hN, hE, hAW, hY⟩ := hC
  intro hl hol hos hom H locs arr hP hD hS hz hL
  have k1 := h hl hol (oks_cC (v := Sum.inl x) trivial hos) hom H locs arr hP hD hS hz hL
  rw [hn] at k1
  exact lv_iconst hx hb hd hv k1
theorem sc_ifeq (hC : CXC C p s m args c cc own nL D dA ad A) {n t : Nat} {off : Int} (hd : decode cc (pcs n) = .ok (.ifCond .eq off, 3)) (hn : pcs (n + 1) = pcs n + 3) (ht : (pcs n : Int) + off = (pcs t : Int)) : SND RR (XKC C p l e R s m args below meth c cells slots Q nL D dA ad A pcs) n (s_ifeq t) := by
  refine ⟨mo_s_ifeq, fun ls st mm h => ?_⟩
  obtain ⟨hx, hb, hml, hown, hts, hK, hN, hE, hAW, hY⟩ := hC
  intro hl hol hos hom H locs arr hP hD hS hz hL
  unfold s_ifeq at h
  split at h
  · refine lv_if_eq hx hb hd ht (fun z => h.1 z hl hol (oks_tC hos) hom H locs arr hP hD hS hz hL) (fun z => ?_)
    have k1 := h.2 z hl hol (oks_tC hos) hom H locs arr hP hD hS hz hL
    rw [hn] at k1
    exact k1
  · exact h.elim
theorem sc_iflt (hC : CXC C p s m args c cc own nL D dA ad A) {n t : Nat} {off : Int} (hd : decode cc (pcs n) = .ok (.ifCond .lt off, 3)) (hn : pcs (n + 1) = pcs n + 3) (ht : (pcs n : Int) + off = (pcs t : Int)) : SND RR (XKC C p l e R s m args below meth c cells slots Q nL D dA ad A pcs) n (s_iflt t) := by
  refine ⟨mo_s_iflt, fun ls st mm h => ?_⟩
  obtain ⟨hx, hb, hml, hown, hts, hK, hN, hE, hAW, hY⟩ := hC
  intro hl hol hos hom H locs arr hP hD hS hz hL
  unfold s_iflt at h
  split at h
  · refine lv_if_lt hx hb hd ht (fun z => h.1 z hl hol (oks_tC hos) hom H locs arr hP hD hS hz hL) (fun z => ?_)
    have k1 := h.2 z hl hol (oks_tC hos) hom H locs arr hP hD hS hz hL
    rw [hn] at k1
    exact k1
  · exact h.elim
theorem sc_ifne (hC : CXC C p s m args c cc own nL D dA ad A) {n t : Nat} {off : Int} (hd : decode cc (pcs n) = .ok (.ifCond .ne off, 3)) (hn : pcs (n + 1) = pcs n + 3) (ht : (pcs n : Int) + off = (pcs t : Int)) : SND RR (XKC C p l e R s m args below meth c cells slots Q nL D dA ad A pcs) n (s_ifne t) := by
  refine ⟨mo_s_ifne, fun ls st mm h => ?_⟩
  obtain ⟨hx, hb, hml, hown, hts, hK, hN, hE, hAW, hY⟩ := hC
  intro hl hol hos hom H locs arr hP hD hS hz hL
  unfold s_ifne at h
  split at h
  · refine lv_if_ne hx hb hd ht (fun z => h.1 z hl hol (oks_tC hos) hom H locs arr hP hD hS hz hL) (fun z => ?_)
    have k1 := h.2 z hl hol (oks_tC hos) hom H locs arr hP hD hS hz hL
    rw [hn] at k1
    exact k1
  · exact h.elim
theorem sc_iinc (hC : CXC C p s m args c cc own nL D dA ad A) {n i : Nat} {z : Int} {x : Int32} (hd : decode cc (pcs n) = .ok (.iinc i z, 3)) (hn : pcs (n + 1) = pcs n + 3) (hv : Int32.ofInt z = x) (hin : i < nL) : SND RR (XKC C p l e R s m args below meth c cells slots Q nL D dA ad A pcs) n (s_iinc i x) := by
  refine ⟨mo_s_iinc, fun ls st mm h => ?_⟩
  obtain ⟨hx, hb, hml, hown, hts, hK, hN, hE, hAW, hY⟩ := hC
  intro hl hol hos hom H locs arr hP hD hS hz hL
  unfold s_iinc at h
  split at h
  · rename_i y he
    split at h
    · exact h.elim
    · rename_i hne
      obtain ⟨k, hk⟩ := List.getElem?_of_mem (lvl_mem (ad := ad) he)
      refine lv_iinc (v := y + x) hx hb hd (lvl_has hL hz) (k := k) hk (by rw [hv]) hin rfl (fun arr' ha => ?_)
      have k1 := h (by rw [lp_len]; exact hl) (okl_lpC hol (fun w hw => by cases hw; exact trivial)) hos hom H locs arr' hP hD hS ha.1 (LH_st1 rfl hl hin (fun w hw => by
        rcases w with w | w | w
        · rfl
        · exact absurd hw (hne w)
        · rfl) ha)
      rw [hn] at k1
      exact k1
  · exact h.elim
theorem sc_iload (hC : CXC C p s m args c cc own nL D dA ad A) {n i : Nat} (hd : decode cc (pcs n) = .ok (.iload i, 2)) (hn : pcs (n + 1) = pcs n + 2) : SND RR (XKC C p l e R s m args below meth c cells slots Q nL D dA ad A pcs) n (s_iload i) := by
  refine ⟨mo_s_iload, fun ls st mm h => ?_⟩
  obtain ⟨hx, hb, hml, hown, hts, hK, hN, hE, hAW, hY⟩ := hC
  intro hl hol hos hom H locs arr hP hD hS hz hL
  unfold s_iload at h
  split at h
  · rename_i x he
    have hv := hL.2 i _ he
    have k1 := h hl hol (oks_cC (hol _ _ he) hos) hom H locs arr hP hD hS hz hL
    rw [hn] at k1
    exact lv_iload hx hb hd hv k1
  · exact h.elim
theorem sc_iload_n (hC : CXC C p s m args c cc own nL D dA ad A) {n i : Nat} {k : Fin 4} (hd : decode cc (pcs n) = .ok (.iload_n k, 1)) (hn : pcs (n + 1) = pcs n + 1) (hk : (k : Nat) = i) : SND RR (XKC C p l e R s m args below meth c cells slots Q nL D dA ad A pcs) n (s_iload i) := by
  refine ⟨mo_s_iload, fun ls st mm h => ?_⟩
  obtain ⟨hx, hb, hml, hown, hts, hK, hN, hE, hAW, hY⟩ := hC
  intro hl hol hos hom H locs arr hP hD hS hz hL
  unfold s_iload at h
  split at h
  · rename_i x he
    have hv := hL.2 i _ he
    have k1 := h hl hol (oks_cC (hol _ _ he) hos) hom H locs arr hP hD hS hz hL
    rw [hn] at k1
    exact lv_iload_n hx hb hd hk hv k1
  · exact h.elim
theorem sc_iret (hC : CXC C p s m args c cc own nL D dA ad A) {n : Nat} (hR : RTXC C s m args below meth cells slots Q D dA ad A RR (some .int)) (hd : decode cc (pcs n) = .ok (.ireturn, 1)) : SND RR (XKC C p l e R s m args below meth c cells slots Q nL D dA ad A pcs) n s_iret := by
  refine ⟨mo_s_iret, fun ls st mm h => ?_⟩
  obtain ⟨hx, hb, hml, hown, hts, hK, hN, hE, hAW, hY⟩ := hC
  intro hl hol hos hom H locs arr hP hD hS hz hL
  obtain ⟨rfl, rfl, rfl, rfl, hrt, hlk⟩ := hR
  unfold s_iret at h
  split at h
  · rename_i x
    exact W.iret hx hb hrt (fun t ht hW => ⟨⟨some (Sum.inl x), mm, rfl, h, hom, fun v hv => by cases hv <;> exact trivial, by rw [ht]; exact hP⟩, hS.F ht⟩) hS.2.2 hd hlk
  · exact h.elim
theorem sc_ishr (hC : CXC C p s m args c cc own nL D dA ad A) {n : Nat} (hd : decode cc (pcs n) = .ok (.ishr, 1)) (hn : pcs (n + 1) = pcs n + 1) : SND RR (XKC C p l e R s m args below meth c cells slots Q nL D dA ad A pcs) n s_ishr := by
  refine ⟨mo_s_ishr, fun ls st mm h => ?_⟩
  obtain ⟨hx, hb, hml, hown, hts, hK, hN, hE, hAW, hY⟩ := hC
  intro hl hol hos hom H locs arr hP hD hS hz hL
  unfold s_ishr at h
  split at h
  · have k1 := h hl hol (oks_cC (v := _) trivial (oks_tC (oks_tC hos))) hom H locs arr hP hD hS hz hL
    rw [hn] at k1
    exact lv_ishr hx hb hd  k1
  · exact h.elim
theorem sc_istore (hC : CXC C p s m args c cc own nL D dA ad A) {n i : Nat} (hd : decode cc (pcs n) = .ok (.istore i, 2)) (hn : pcs (n + 1) = pcs n + 2) (hin : i < nL) : SND RR (XKC C p l e R s m args below meth c cells slots Q nL D dA ad A pcs) n (s_istore i) := by
  refine ⟨mo_s_istore, fun ls st mm h => ?_⟩
  obtain ⟨hx, hb, hml, hown, hts, hK, hN, hE, hAW, hY⟩ := hC
  intro hl hol hos hom H locs arr hP hD hS hz hL
  unfold s_istore at h
  split at h
  · rename_i x st'
    split at h
    · exact h.elim
    · rename_i hne
      refine lv_istore hx hb hd (lvl_has hL hz) hin rfl (fun arr' ha => ?_)
      have k1 := h (by rw [lp_len]; exact hl) (okl_lpC hol (fun w hw => by cases hw; exact oks_hC hos)) (oks_tC hos) hom H locs arr' hP hD hS ha.1 (LH_st1 rfl hl hin (fun w hw => by
        rcases w with w | w | w
        · rfl
        · exact absurd hw (hne w)
        · rfl) ha)
      rw [hn] at k1
      exact k1
  · exact h.elim
theorem sc_istore_n (hC : CXC C p s m args c cc own nL D dA ad A) {n i : Nat} {k : Fin 4} (hd : decode cc (pcs n) = .ok (.istore_n k, 1)) (hn : pcs (n + 1) = pcs n + 1) (hk : (k : Nat) = i) (hin : i < nL) : SND RR (XKC C p l e R s m args below meth c cells slots Q nL D dA ad A pcs) n (s_istore i) := by
  refine ⟨mo_s_istore, fun ls st mm h => ?_⟩
  obtain ⟨hx, hb, hml, hown, hts, hK, hN, hE, hAW, hY⟩ := hC
  intro hl hol hos hom H locs arr hP hD hS hz hL
  unfold s_istore at h
  split at h
  · rename_i x st'
    split at h
    · exact h.elim
    · rename_i hne
      refine lv_istore_n hx hb hd hk (lvl_has hL hz) hin rfl (fun arr' ha => ?_)
      have k1 := h (by rw [lp_len]; exact hl) (okl_lpC hol (fun w hw => by cases hw; exact oks_hC hos)) (oks_tC hos) hom H locs arr' hP hD hS ha.1 (LH_st1 rfl hl hin (fun w hw => by
        rcases w with w | w | w
        · rfl
        · exact absurd hw (hne w)
        · rfl) ha)
      rw [hn] at k1
      exact k1
  · exact h.elim
theorem sc_lconst (hC : CXC C p s m args c cc own nL D dA ad A) {n : Nat} {z : Fin 2} {x : Int64} (hd : decode cc (pcs n) = .ok (.lconst z, 1)) (hn : pcs (n + 1) = pcs n + 1) (hv : Int64.ofNat (z : Nat) = x) : SND RR (XKC C p l e R s m args below meth c cells slots Q nL D dA ad A pcs) n (s_lc x) := by
  refine ⟨mo_s_lc, fun ls st mm h => ?_⟩
  obtain ⟨hx, hb, hml, hown, hts, hK, hN, hE, hAW, hY⟩ := hC
  intro hl hol hos hom H locs arr hP hD hS hz hL
  have k1 := h hl hol (oks_cC (v := Sum.inr (Sum.inl x)) trivial hos) hom H locs arr hP hD hS hz hL
  rw [hn] at k1
  exact lv_lconst hx hb hd hv k1
theorem sc_lload_n (hC : CXC C p s m args c cc own nL D dA ad A) {n i : Nat} {k : Fin 4} (hd : decode cc (pcs n) = .ok (.lload_n k, 1)) (hn : pcs (n + 1) = pcs n + 1) (hk : (k : Nat) = i) : SND RR (XKC C p l e R s m args below meth c cells slots Q nL D dA ad A pcs) n (s_lload i) := by
  refine ⟨mo_s_lload, fun ls st mm h => ?_⟩
  obtain ⟨hx, hb, hml, hown, hts, hK, hN, hE, hAW, hY⟩ := hC
  intro hl hol hos hom H locs arr hP hD hS hz hL
  unfold s_lload at h
  split at h
  · rename_i x he
    have hv := hL.2 i _ he
    have k1 := h hl hol (oks_cC (hol _ _ he) hos) hom H locs arr hP hD hS hz hL
    rw [hn] at k1
    exact lv_lload_n hx hb hd hk hv k1
  · exact h.elim
theorem sc_nret (hC : CXC C p s m args c cc own nL D dA ad A) {n : Nat} {ty : FieldType} (hR : RTXC C s m args below meth cells slots Q D dA ad A RR (some ty)) (hd : decode cc (pcs n) = .ok (.ireturn, 1)) : SND RR (XKC C p l e R s m args below meth c cells slots Q nL D dA ad A pcs) n (s_nret ty) := by
  refine ⟨mo_s_nret, fun ls st mm h => ?_⟩
  obtain ⟨hx, hb, hml, hown, hts, hK, hN, hE, hAW, hY⟩ := hC
  intro hl hol hos hom H locs arr hP hD hS hz hL
  obtain ⟨rfl, rfl, rfl, rfl, hrt, hlk⟩ := hR
  unfold s_nret at h
  split at h
  · obtain ⟨hna, h⟩ := h
    rename_i x
    exact W.zret hx hb hrt hna (fun t ht hW => ⟨⟨some (Sum.inl x), mm, rfl, h, hom, fun v hv => by cases hv <;> exact trivial, by rw [ht]; exact hP⟩, hS.F ht⟩) hS.2.2 hd hlk
  · exact h.elim
theorem sc_sipush (hC : CXC C p s m args c cc own nL D dA ad A) {n : Nat} {z : Int} {x : Int32} (hd : decode cc (pcs n) = .ok (.sipush z, 3)) (hn : pcs (n + 1) = pcs n + 3) (hv : (Int16.ofInt z).toInt32 = x) : SND RR (XKC C p l e R s m args below meth c cells slots Q nL D dA ad A pcs) n (s_ic x) := by
  refine ⟨mo_s_ic, fun ls st mm h => ?_⟩
  obtain ⟨hx, hb, hml, hown, hts, hK, hN, hE, hAW, hY⟩ := hC
  intro hl hol hos hom H locs arr hP hD hS hz hL
  have k1 := h hl hol (oks_cC (v := Sum.inl x) trivial hos) hom H locs arr hP hD hS hz hL
  rw [hn] at k1
  exact lv_sipush hx hb hd hv k1
theorem sc_vret (hC : CXC C p s m args c cc own nL D dA ad A) {n : Nat} (hR : RTXC C s m args below meth cells slots Q D dA ad A RR none) (hd : decode cc (pcs n) = .ok (.return_, 1)) : SND RR (XKC C p l e R s m args below meth c cells slots Q nL D dA ad A pcs) n s_vret := by
  refine ⟨mo_s_vret, fun ls st mm h => ?_⟩
  obtain ⟨hx, hb, hml, hown, hts, hK, hN, hE, hAW, hY⟩ := hC
  intro hl hol hos hom H locs arr hP hD hS hz hL
  obtain ⟨rfl, rfl, rfl, rfl, hrt, hlk⟩ := hR
  unfold s_vret at h
  split at h
  · exact W.vret hx hb hrt (fun t ht hW => ⟨⟨none, mm, rfl, h, hom, fun v hv => by cases hv <;> exact trivial, by rw [ht]; exact hP⟩, hS.F ht⟩) hS.2.2 hd hlk
  · exact h.elim
theorem sc_zret (hC : CXC C p s m args c cc own nL D dA ad A) {n : Nat} (hR : RTXC C s m args below meth cells slots Q D dA ad A RR (some .boolean)) (hd : decode cc (pcs n) = .ok (.ireturn, 1)) : SND RR (XKC C p l e R s m args below meth c cells slots Q nL D dA ad A pcs) n s_zret := by
  refine ⟨mo_s_zret, fun ls st mm h => ?_⟩
  obtain ⟨hx, hb, hml, hown, hts, hK, hN, hE, hAW, hY⟩ := hC
  intro hl hol hos hom H locs arr hP hD hS hz hL
  obtain ⟨rfl, rfl, rfl, rfl, hrt, hlk⟩ := hR
  unfold s_zret at h
  split at h
  · obtain ⟨hz1, h⟩ := h
    rename_i x
    exact W.zret hx hb hrt (by rcases hz1 with z | z <;> rw [z] <;> rfl) (fun t ht hW => ⟨⟨some (Sum.inl x), mm, rfl, h, hom, fun v hv => by cases hv <;> exact trivial, by rw [ht]; exact hP⟩, hS.F ht⟩) hS.2.2 hd hlk
  · exact h.elim
theorem sc_alen (hC : CXC C p s m args c cc own nL D dA ad A) {n : Nat} (hd : decode cc (pcs n) = .ok (.arraylength, 1)) (hn : pcs (n + 1) = pcs n + 1) : SND RR (XKC C p l e R s m args below meth c cells slots Q nL D dA ad A pcs) n s_alen := by
  refine ⟨mo_s_alen, fun ls st mm h => ?_⟩
  obtain ⟨hx, hb, hml, hown, hts, hK, hN, hE, hAW, hY⟩ := hC
  intro hl hol hos hom H locs arr hP hD hS hz hL
  unfold s_alen at h
  split at h
  · rename_i k g st'
    cases q : (Nat.ble 1 (sh k).1 && Nat.ble (sh k).1 3) <;> rw [q] at h
    · exact h.elim
    · obtain ⟨q1, q2⟩ := Bool.and_eq_true_iff.mp q
      have h1 := Nat.le_of_ble_eq_true q1
      have h2 := Nat.le_of_ble_eq_true q2
      obtain ⟨q0, hq0⟩ := memC hY (k := k) (g := g) (oks_hC hos) (by omega)
      have he := WS_atC (dA := dA) (ad := ad) (mm := mm) hq0
      have k1 := h hl hol (oks_cC (v := Sum.inl (Int32.ofNat (alen k))) trivial (oks_tC hos)) hom H locs arr hP hD hS hz hL
      rw [hn] at k1
      rcases (show (sh k).1 = 1 ∨ (sh k).1 = 2 ∨ (sh k).1 = 3 by omega) with e | e | e
      · rw [cE_int e] at he
        exact va_alen hx hb hK hP q0 0 he rfl rfl hd k1
      · rw [cE_long e] at he
        exact va_alen hx hb hK hP q0 1 he rfl rfl hd k1
      · rw [cE_byte e] at he
        exact va_alen hx hb hK hP q0 2 he rfl rfl hd k1
  · exact h.elim
theorem sc_iast (hC : CXC C p s m args c cc own nL D dA ad A) {n : Nat} (hd : decode cc (pcs n) = .ok (.iastore, 1)) (hn : pcs (n + 1) = pcs n + 1) : SND RR (XKC C p l e R s m args below meth c cells slots Q nL D dA ad A pcs) n s_iast := by
  refine ⟨mo_s_iast, fun ls st mm h => ?_⟩
  obtain ⟨hx, hb, hml, hown, hts, hK, hN, hE, hAW, hY⟩ := hC
  intro hl hol hos hom H locs arr hP hD hS hz hL
  unfold s_iast at h
  split at h
  · rename_i x i k g st'
    cases q : Nat.beq (sh k).1 1 <;> rw [q] at h
    · exact h.elim
    · have hso := Nat.eq_of_beq_eq_true q
      obtain ⟨hin, h⟩ := h
      have hin := inb_of hin
      obtain ⟨q0, hq0⟩ := memC hY (oks_hC (oks_tC (oks_tC hos))) (by rw [hso]; decide)
      have he := WS_atC (dA := dA) (ad := ad) (mm := mm) hq0
      rw [cE_int hso] at he
      refine va_iast hx hb hK hP hD hS q0 0 he rfl hin hd (fun H1 locs1 hP1 hD1 hS1 => ?_)
      have hws := WS_setC hY (dA := dA) (ad := ad) (mm := mm) (mm' := mRow mm k g (upd (mm.1 k g) i.toNatClampNeg x)) hq0 (fun r _ hr => mRow_other r hr)
      rw [cE_int hso, mRow_row] at hws
      have k1 := h hl hol (oks_tC (oks_tC (oks_tC hos))) hom H1 locs1 arr (by rw [← hws]; exact hP1) (by rw [← hws]; exact hD1) hS1 hz hL
      rw [hn] at k1
      exact k1
  · exact h.elim
theorem sc_last (hC : CXC C p s m args c cc own nL D dA ad A) {n : Nat} (hd : decode cc (pcs n) = .ok (.lastore, 1)) (hn : pcs (n + 1) = pcs n + 1) : SND RR (XKC C p l e R s m args below meth c cells slots Q nL D dA ad A pcs) n s_last := by
  refine ⟨mo_s_last, fun ls st mm h => ?_⟩
  obtain ⟨hx, hb, hml, hown, hts, hK, hN, hE, hAW, hY⟩ := hC
  intro hl hol hos hom H locs arr hP hD hS hz hL
  unfold s_last at h
  split at h
  · rename_i x i k g st'
    cases q : Nat.beq (sh k).1 2 <;> rw [q] at h
    · exact h.elim
    · have hso := Nat.eq_of_beq_eq_true q
      obtain ⟨hin, h⟩ := h
      have hin := inb_of hin
      obtain ⟨q0, hq0⟩ := memC hY (oks_hC (oks_tC (oks_tC hos))) (by rw [hso]; decide)
      have he := WS_atC (dA := dA) (ad := ad) (mm := mm) hq0
      rw [cE_long hso] at he
      refine va_last hx hb hK hP hD hS q0 1 he rfl hin hd (fun H1 locs1 hP1 hD1 hS1 => ?_)
      have hws := WS_setC hY (dA := dA) (ad := ad) (mm := mm) (mm' := mRowL mm k g (vp_updL (mm.2.1 k g) i.toNatClampNeg x)) hq0 (fun r _ hr => mRowL_other r hr)
      rw [cE_long hso, mRowL_row] at hws
      have k1 := h hl hol (oks_tC (oks_tC (oks_tC hos))) hom H1 locs1 arr (by rw [← hws]; exact hP1) (by rw [← hws]; exact hD1) hS1 hz hL
      rw [hn] at k1
      exact k1
  · exact h.elim
theorem sc_lald (hC : CXC C p s m args c cc own nL D dA ad A) {n : Nat} (hd : decode cc (pcs n) = .ok (.laload, 1)) (hn : pcs (n + 1) = pcs n + 1) : SND RR (XKC C p l e R s m args below meth c cells slots Q nL D dA ad A pcs) n s_lald := by
  refine ⟨mo_s_lald, fun ls st mm h => ?_⟩
  obtain ⟨hx, hb, hml, hown, hts, hK, hN, hE, hAW, hY⟩ := hC
  intro hl hol hos hom H locs arr hP hD hS hz hL
  unfold s_lald at h
  split at h
  · rename_i i k g st'
    cases q : Nat.beq (sh k).1 2 <;> rw [q] at h
    · exact h.elim
    · have hso := Nat.eq_of_beq_eq_true q
      obtain ⟨hin, h⟩ := h
      have hin := inb_of hin
      obtain ⟨q0, hq0⟩ := memC hY (oks_hC (oks_tC hos)) (by rw [hso]; decide)
      have he := WS_atC (dA := dA) (ad := ad) (mm := mm) hq0
      rw [cE_long hso] at he
      have k1 := h hl hol (oks_cC trivial (oks_tC (oks_tC hos))) hom H locs arr hP hD hS hz hL
      rw [hn] at k1
      exact va_lald hx hb hK hP q0 1 he rfl hin hd k1
  · exact h.elim
theorem sc_getR (hC : CXC C p s m args c cc own nL D dA ad A) {n k j t b0 idx N : Nat} {Cn : String} {T : u_T} {ty0 : Nat → FieldType} (hd : decode cc (pcs n) = .ok (.getfield idx, 3)) (hn : pcs (n + 1) = pcs n + 3) (hk : CLF k Cn T N ty0) (hj : j < N) (hf : ft k j = (2, t, b0)) (hct : cnt k ≤ cnt t) (hw : Cond.fieldLink own idx Cn (T j).2.1 (T j).2.2.1 ∈ TBL) : SND RR (XKC C p l e R s m args below meth c cells slots Q nL D dA ad A pcs) n (s_getR k j t) := by
  refine ⟨mo_s_getR, fun ls st mm h => ?_⟩
  obtain ⟨hx, hb, hml, hown, hts, hK, hN, hE, hAW, hY⟩ := hC
  intro hl hol hos hom H locs arr hP hD hS hz hL
  unfold s_getR at h
  split at h
  · rename_i k' g st'
    cases q : Nat.beq k' k <;> rw [q] at h
    · exact h.elim
    · have e := Nat.eq_of_beq_eq_true q
      subst e
      obtain ⟨hso, hcl, hnf, hin, hty, hnm, hcn⟩ := hk
      obtain ⟨q0, hq0⟩ := memC hY (oks_hC hos) (by rw [hso]; exact Nat.zero_le 5)
      have he := WS_atC (dA := dA) (ad := ad) (mm := mm) hq0
      rw [cE_obj hso] at he
      have k1 := h hl hol (oks_cC (show okvC C (Sum.inr (Sum.inr (t, g))) from okC_fld hY (oks_hC hos) hso (by rw [hnf]; exact hj) hf) (oks_tC hos)) hom H locs arr hP hD hS hz hL
      rw [hn] at k1
      refine va_get (D := D) (ref := Cn) hx hb hts hin hown hK hP q0 he hcl j hj (hts _ hw) (fun x hx' => by rw [hcn j hj] at hx'; exact hx') (v := fv ad mm k' g j) (range_at (by rw [hnf]; exact hj)) hd ?_
      rw [fv_same hf]
      exact k1
  · exact h.elim
theorem sc_putI (hC : CXC C p s m args c cc own nL D dA ad A) {n k j a0 b0 idx N : Nat} {Cn : String} {T : u_T} {ty0 : Nat → FieldType} (hd : decode cc (pcs n) = .ok (.putfield idx, 3)) (hn : pcs (n + 1) = pcs n + 3) (hk : CLF k Cn T N ty0) (hj : j < N) (hf : ft k j = (0, a0, b0)) (hfin : (T j).2.2.2 = false) (htj : ty0 j = .int) (hw : Cond.fieldLink own idx Cn (T j).2.1 (T j).2.2.1 ∈ TBL) : SND RR (XKC C p l e R s m args below meth c cells slots Q nL D dA ad A pcs) n (s_putI k j) := by
  refine ⟨mo_s_putI, fun ls st mm h => ?_⟩
  obtain ⟨hx, hb, hml, hown, hts, hK, hN, hE, hAW, hY⟩ := hC
  intro hl hol hos hom H locs arr hP hD hS hz hL
  unfold s_putI at h
  split at h
  · rename_i x k' g st'
    cases q : Nat.beq k' k <;> rw [q] at h
    · exact h.elim
    · have e := Nat.eq_of_beq_eq_true q
      subst e
      obtain ⟨hso, hcl, hnf, hin, hty, hnm, hcn⟩ := hk
      obtain ⟨q0, hq0⟩ := memC hY (oks_hC (oks_tC hos)) (by rw [hso]; exact Nat.zero_le 5)
      have he := WS_atC (dA := dA) (ad := ad) (mm := mm) hq0
      rw [cE_obj hso] at he
      refine va_put (D := D) (ref := Cn) (ty := .int) (v := .int x) hx hb hts hin ty0 hty hnm hown hK hP hD hS q0 he hcl j hj (hts _ hw) (fun x hx' => by rw [hcn j hj] at hx'; exact hx') hfin (by rw [hty j hj, htj]) (vp_nar_int x) rfl (by simpa [hnf] using hj) hd (fun H1 locs1 hP1 hD1 hS1 => ?_)
      have hws : (WSC C dA ad mm).set q0 (ad k' g, .inr (alen k', ((List.range (nf k')).map (fv ad mm k' g)).set j (.int x))) = WSC C dA ad (mI mm k' g j x) := by
        have e1 : fv ad (mI mm k' g j x) k' g j = .int x := by
          rw [fv_int hf]
          simp [mI, mL, mRow_row, upd, vp_updL]
        have e2 := range_set (f := fv ad mm k' g) (f' := fv ad (mI mm k' g j x) k' g) (n := nf k') (by rw [hnf]; exact hj) (fun i _ hi => fv_mI hi)
        rw [e1] at e2
        rw [e2, ← cE_obj (dA := dA) hso]
        exact WS_setC hY hq0 (fun r _ hr => mRow_other r hr)
      have k1 := h hl hol (oks_tC (oks_tC hos)) hom H1 locs1 arr (by rw [← hws]; exact hP1) (by rw [← hws]; exact hD1) hS1 hz hL
      rw [hn] at k1
      exact k1
  · exact h.elim
theorem sc_putZ (hC : CXC C p s m args c cc own nL D dA ad A) {n k j a0 b0 idx N : Nat} {Cn : String} {T : u_T} {ty0 : Nat → FieldType} (hd : decode cc (pcs n) = .ok (.putfield idx, 3)) (hn : pcs (n + 1) = pcs n + 3) (hk : CLF k Cn T N ty0) (hj : j < N) (hf : ft k j = (0, a0, b0)) (hfin : (T j).2.2.2 = false) (htj : ty0 j = .boolean) (hw : Cond.fieldLink own idx Cn (T j).2.1 (T j).2.2.1 ∈ TBL) : SND RR (XKC C p l e R s m args below meth c cells slots Q nL D dA ad A pcs) n (s_putZ k j) := by
  refine ⟨mo_s_putZ, fun ls st mm h => ?_⟩
  obtain ⟨hx, hb, hml, hown, hts, hK, hN, hE, hAW, hY⟩ := hC
  intro hl hol hos hom H locs arr hP hD hS hz hL
  unfold s_putZ at h
  split at h
  · rename_i x k' g st'
    cases q : Nat.beq k' k <;> rw [q] at h
    · exact h.elim
    · have e := Nat.eq_of_beq_eq_true q
      subst e
      obtain ⟨hpre, h⟩ := h
      obtain ⟨hso, hcl, hnf, hin, hty, hnm, hcn⟩ := hk
      obtain ⟨q0, hq0⟩ := memC hY (oks_hC (oks_tC hos)) (by rw [hso]; exact Nat.zero_le 5)
      have he := WS_atC (dA := dA) (ad := ad) (mm := mm) hq0
      rw [cE_obj hso] at he
      refine va_put (D := D) (ref := Cn) (ty := .boolean) (v := .int x) hx hb hts hin ty0 hty hnm hown hK hP hD hS q0 he hcl j hj (hts _ hw) (fun x hx' => by rw [hcn j hj] at hx'; exact hx') hfin (by rw [hty j hj, htj]) (by rcases hpre with z | z <;> rw [z] <;> rfl) (by rcases hpre with z | z <;> rw [z] <;> rfl) (by simpa [hnf] using hj) hd (fun H1 locs1 hP1 hD1 hS1 => ?_)
      have hws : (WSC C dA ad mm).set q0 (ad k' g, .inr (alen k', ((List.range (nf k')).map (fv ad mm k' g)).set j (.int x))) = WSC C dA ad (mI mm k' g j x) := by
        have e1 : fv ad (mI mm k' g j x) k' g j = .int x := by
          rw [fv_int hf]
          simp [mI, mL, mRow_row, upd, vp_updL]
        have e2 := range_set (f := fv ad mm k' g) (f' := fv ad (mI mm k' g j x) k' g) (n := nf k') (by rw [hnf]; exact hj) (fun i _ hi => fv_mI hi)
        rw [e1] at e2
        rw [e2, ← cE_obj (dA := dA) hso]
        exact WS_setC hY hq0 (fun r _ hr => mRow_other r hr)
      have k1 := h hl hol (oks_tC (oks_tC hos)) hom H1 locs1 arr (by rw [← hws]; exact hP1) (by rw [← hws]; exact hD1) hS1 hz hL
      rw [hn] at k1
      exact k1
  · exact h.elim
theorem sc_isub (hC : CXC C p s m args c cc own nL D dA ad A) {n : Nat} (hd : decode cc (pcs n) = .ok (.isub, 1)) (hn : pcs (n + 1) = pcs n + 1) : SND RR (XKC C p l e R s m args below meth c cells slots Q nL D dA ad A pcs) n s_isub := by
  refine ⟨mo_s_isub, fun ls st mm h => ?_⟩
  obtain ⟨hx, hb, hml, hown, hts, hK, hN, hE, hAW, hY⟩ := hC
  intro hl hol hos hom H locs arr hP hD hS hz hL
  unfold s_isub at h
  split at h
  · have k1 := h hl hol (oks_cC (v := _) trivial (oks_tC (oks_tC hos))) hom H locs arr hP hD hS hz hL
    rw [hn] at k1
    exact lv_isub hx hb hd  k1
  · exact h.elim
theorem sc_i2l (hC : CXC C p s m args c cc own nL D dA ad A) {n : Nat} (hd : decode cc (pcs n) = .ok (.i2l, 1)) (hn : pcs (n + 1) = pcs n + 1) : SND RR (XKC C p l e R s m args below meth c cells slots Q nL D dA ad A pcs) n s_i2l := by
  refine ⟨mo_s_i2l, fun ls st mm h => ?_⟩
  obtain ⟨hx, hb, hml, hown, hts, hK, hN, hE, hAW, hY⟩ := hC
  intro hl hol hos hom H locs arr hP hD hS hz hL
  unfold s_i2l at h
  split at h
  · have k1 := h hl hol (oks_cC (v := _) trivial (oks_tC hos)) hom H locs arr hP hD hS hz hL
    rw [hn] at k1
    exact lv_i2l hx hb hd rfl k1
  · exact h.elim
theorem sc_ladd (hC : CXC C p s m args c cc own nL D dA ad A) {n : Nat} (hd : decode cc (pcs n) = .ok (.ladd, 1)) (hn : pcs (n + 1) = pcs n + 1) : SND RR (XKC C p l e R s m args below meth c cells slots Q nL D dA ad A pcs) n s_ladd := by
  refine ⟨mo_s_ladd, fun ls st mm h => ?_⟩
  obtain ⟨hx, hb, hml, hown, hts, hK, hN, hE, hAW, hY⟩ := hC
  intro hl hol hos hom H locs arr hP hD hS hz hL
  unfold s_ladd at h
  split at h
  · have k1 := h hl hol (oks_cC (v := _) trivial (oks_tC (oks_tC hos))) hom H locs arr hP hD hS hz hL
    rw [hn] at k1
    exact lv_ladd hx hb hd  k1
  · exact h.elim
theorem sc_lmul (hC : CXC C p s m args c cc own nL D dA ad A) {n : Nat} (hd : decode cc (pcs n) = .ok (.lmul, 1)) (hn : pcs (n + 1) = pcs n + 1) : SND RR (XKC C p l e R s m args below meth c cells slots Q nL D dA ad A pcs) n s_lmul := by
  refine ⟨mo_s_lmul, fun ls st mm h => ?_⟩
  obtain ⟨hx, hb, hml, hown, hts, hK, hN, hE, hAW, hY⟩ := hC
  intro hl hol hos hom H locs arr hP hD hS hz hL
  unfold s_lmul at h
  split at h
  · have k1 := h hl hol (oks_cC (v := _) trivial (oks_tC (oks_tC hos))) hom H locs arr hP hD hS hz hL
    rw [hn] at k1
    exact lv_lmul hx hb hd  k1
  · exact h.elim
theorem sc_ldc2 (hC : CXC C p s m args c cc own nL D dA ad A) {n idx : Nat} {x : Int64} (hd : decode cc (pcs n) = .ok (.ldc2_w idx, 3)) (hn : pcs (n + 1) = pcs n + 3) (hw : Cond.constantLong own idx x ∈ TBL) : SND RR (XKC C p l e R s m args below meth c cells slots Q nL D dA ad A pcs) n (s_lc x) := by
  refine ⟨mo_s_lc, fun ls st mm h => ?_⟩
  obtain ⟨hx, hb, hml, hown, hts, hK, hN, hE, hAW, hY⟩ := hC
  intro hl hol hos hom H locs arr hP hD hS hz hL
  have k1 := h hl hol (oks_cC (v := Sum.inr (Sum.inl x)) trivial hos) hom H locs arr hP hD hS hz hL
  rw [hn] at k1
  exact lv_ldc2 hx hb hown (hts _ hw) hd k1
theorem sc_no {n : Nat} : SND RR (XKC C p l e R s m args below meth c cells slots Q nL D dA ad A pcs) n s_no := ⟨mo_s_no, fun _ _ _ h => h.elim⟩
theorem sc_ldS0 (hC : CXC C p s m args c cc own nL D dA ad A) {n : Nat} (hd : decode cc (pcs n) = .ok (.ldc 48, 2)) (hn : pcs (n + 1) = pcs n + 2) (ho : own = "GivenUp$Text") : SND RR (XKC C p l e R s m args below meth c cells slots Q nL D dA ad A pcs) n (s_ldS 0) := by
  refine ⟨mo_s_ldS, fun ls st mm h => ?_⟩
  obtain ⟨hx, hb, hml, hown, hts, hK, hN, hE, hAW, hY⟩ := hC
  intro hl hol hos hom H locs arr hP hD hS hz hL
  have k1 := h hl hol (oks_cC (v := Sum.inr (Sum.inr (72, 0))) (Or.inr ⟨Or.inl rfl, (by decide : (0 : Nat) < 2)⟩) hos) hom H locs arr hP hD hS hz hL
  rw [hn] at k1
  subst ho
  exact va_ldcS hx hb hown hE.2.1 hd k1
theorem sc_sval (hC : CXC C p s m args c cc own nL D dA ad A) {n : Nat} (hd : decode cc (pcs n) = .ok (.getfield 9, 3)) (hn : pcs (n + 1) = pcs n + 3) (ho : own = "java/lang/String") (hw : Cond.fieldLink "java/lang/String" 9 "java/lang/String" "value" "[B" ∈ TBL) : SND RR (XKC C p l e R s m args below meth c cells slots Q nL D dA ad A pcs) n s_sval := by
  refine ⟨mo_s_sval, fun ls st mm h => ?_⟩
  obtain ⟨hx, hb, hml, hown, hts, hK, hN, hE, hAW, hY⟩ := hC
  intro hl hol hos hom H locs arr hP hD hS hz hL
  unfold s_sval at h
  split at h
  · rename_i k g st'
    cases q : Nat.beq k 72 <;> rw [q] at h
    · exact h.elim
    · have e := Nat.eq_of_beq_eq_true q
      subst e
      have hg : g < 2 := okC_str hY (oks_hC hos) (by omega)
      have k1 := h hl hol (oks_cC (v := Sum.inr (Sum.inr (73, g))) (Or.inr ⟨Or.inr rfl, hg⟩) (oks_tC hos)) hom H locs arr hP hD hS hz hL
      rw [hn] at k1
      subst ho
      exact vk_getf hx hb (hE.1.1 g hg).2.2.1 hS hown (hts _ hw) (fun _ z => z) hd k1
  · exact h.elim
theorem sc_scod (hC : CXC C p s m args c cc own nL D dA ad A) {n : Nat} (hd : decode cc (pcs n) = .ok (.getfield 15, 3)) (hn : pcs (n + 1) = pcs n + 3) (ho : own = "java/lang/String") (hw : Cond.fieldLink "java/lang/String" 15 "java/lang/String" "coder" "B" ∈ TBL) : SND RR (XKC C p l e R s m args below meth c cells slots Q nL D dA ad A pcs) n s_scod := by
  refine ⟨mo_s_scod, fun ls st mm h => ?_⟩
  obtain ⟨hx, hb, hml, hown, hts, hK, hN, hE, hAW, hY⟩ := hC
  intro hl hol hos hom H locs arr hP hD hS hz hL
  unfold s_scod at h
  split at h
  · rename_i k g st'
    cases q : Nat.beq k 72 <;> rw [q] at h
    · exact h.elim
    · have e := Nat.eq_of_beq_eq_true q
      subst e
      have hg : g < 2 := okC_str hY (oks_hC hos) (by omega)
      have k1 := h hl hol (oks_cC (v := Sum.inl 0) trivial (oks_tC hos)) hom H locs arr hP hD hS hz hL
      rw [hn] at k1
      subst ho
      exact vk_getf hx hb (hE.1.1 g hg).2.1 hS hown (hts _ hw) (fun _ z => z) hd k1
  · exact h.elim
theorem sc_slen (hC : CXC C p s m args c cc own nL D dA ad A) {n : Nat} (hd : decode cc (pcs n) = .ok (.arraylength, 1)) (hn : pcs (n + 1) = pcs n + 1) : SND RR (XKC C p l e R s m args below meth c cells slots Q nL D dA ad A pcs) n s_slen := by
  refine ⟨mo_s_slen, fun ls st mm h => ?_⟩
  obtain ⟨hx, hb, hml, hown, hts, hK, hN, hE, hAW, hY⟩ := hC
  intro hl hol hos hom H locs arr hP hD hS hz hL
  unfold s_slen at h
  split at h
  · rename_i k g st'
    cases q : Nat.beq k 73 <;> rw [q] at h
    · exact h.elim
    · have e := Nat.eq_of_beq_eq_true q
      subst e
      have hg : g < 2 := okC_str hY (oks_hC hos) (by omega)
      have k1 := h hl hol (oks_cC (v := Sum.inl (nI (slen g))) trivial (oks_tC hos)) hom H locs arr hP hD hS hz hL
      rw [hn] at k1
      exact va_tlen hx hb (hE.1.1 g hg).2.2.2 hS (v := nI (slen g)) rfl hd k1
  · exact h.elim
theorem sc_sbal (hC : CXC C p s m args c cc own nL D dA ad A) {n : Nat} (hd : decode cc (pcs n) = .ok (.baload, 1)) (hn : pcs (n + 1) = pcs n + 1) : SND RR (XKC C p l e R s m args below meth c cells slots Q nL D dA ad A pcs) n s_sbal := by
  refine ⟨mo_s_sbal, fun ls st mm h => ?_⟩
  obtain ⟨hx, hb, hml, hown, hts, hK, hN, hE, hAW, hY⟩ := hC
  intro hl hol hos hom H locs arr hP hD hS hz hL
  unfold s_sbal at h
  split at h
  · rename_i i k g st'
    cases q : Nat.beq k 73 <;> rw [q] at h
    · exact h.elim
    · have e := Nat.eq_of_beq_eq_true q
      subst e
      have hg : g < 2 := okC_str hY (oks_hC (oks_tC hos)) (by omega)
      obtain ⟨h1, h2⟩ := h
      have k1 := h2 hl hol (oks_cC (v := Sum.inl (sbyt g i.toNatClampNeg)) trivial (oks_tC (oks_tC hos))) hom H locs arr hP hD hS hz hL
      rw [hn] at k1
      exact va_tb hx hb (hE.1.1 g hg).2.2.2 hS (inb_of h1) (v := .int (sbyt g i.toNatClampNeg)) rfl hd k1
  · exact h.elim
theorem sc_gsZ (hC : CXC C p s m args c cc own nL D dA ad A) {n : Nat} (hd : decode cc (pcs n) = .ok (.getstatic 38, 3)) (hn : pcs (n + 1) = pcs n + 3) (ho : own = "java/lang/String") (hw : Cond.fieldLink "java/lang/String" 38 "java/lang/String" "COMPACT_STRINGS" "Z" ∈ TBL) : SND RR (XKC C p l e R s m args below meth c cells slots Q nL D dA ad A pcs) n s_gsZ := by
  refine ⟨mo_s_gsZ, fun ls st mm h => ?_⟩
  obtain ⟨hx, hb, hml, hown, hts, hK, hN, hE, hAW, hY⟩ := hC
  intro hl hol hos hom H locs arr hP hD hS hz hL
  have k1 := h hl hol (oks_cC (v := Sum.inl 1) trivial hos) hom H locs arr hP hD hS hz hL
  rw [hn] at k1
  subst ho
  exact va_gets hx hb hE.2.2.2.1 hS hown (hts _ hw) (fun _ z => z) hd k1
theorem sc_i2c (hC : CXC C p s m args c cc own nL D dA ad A) {n : Nat} (hd : decode cc (pcs n) = .ok (.i2c, 1)) (hn : pcs (n + 1) = pcs n + 1) : SND RR (XKC C p l e R s m args below meth c cells slots Q nL D dA ad A pcs) n s_i2c := by
  refine ⟨mo_s_i2c, fun ls st mm h => ?_⟩
  obtain ⟨hx, hb, hml, hown, hts, hK, hN, hE, hAW, hY⟩ := hC
  intro hl hol hos hom H locs arr hP hD hS hz hL
  unfold s_i2c at h
  split at h
  · have k1 := h hl hol (oks_cC (v := _) trivial (oks_tC hos)) hom H locs arr hP hD hS hz hL
    rw [hn] at k1
    exact lv_i2c hx hb hd rfl k1
  · exact h.elim
theorem sc_callT (hC : CXC C p s m args c cc own nL D dA ad A) {n na idx : Nat} {y : MethodName} {bytes : ByteArray} {mL : Nat} {ret : Option FieldType} {rm : Room} {Pre : PreT} {Fn : FnT} (hcon : CONC C l y bytes mL ret rm Pre Fn) (hd : decode cc (pcs n) = .ok (.invokevirtual idx, 3)) (hn : pcs (n + 1) = pcs n + 3) (hcode : Cond.code y bytes mL ret ∈ TBL) (hini : Cond.initialized y.cls ∈ TBL) (hy : y.cls ≠ "java/lang/invoke/MethodHandle" ∧ y.cls ≠ "java/lang/invoke/VarHandle" ∧ (parseMethodDescriptor y.desc).map (fun d => d.parameters.length) = some na) (hrm : rm.cells = 0 ∧ rm.slots = 0 ∧ rm.frames + 1 ≤ R.frames ∧ 8 + (mL + 11) + rm.locals ≤ R.locals) (hroom : cells ≤ R.cells ∧ slots ≤ R.slots)  (hlk : Cond.methodLink own idx y ∈ TBL) (hin : Cond.instanceMethod y ∈ TBL) (hsel : Cond.selects y.cls y y ∈ TBL) (hk : y.cls = "java/lang/String") : SND RR (XKC C p l e R s m args below meth c cells slots Q nL D dA ad A pcs) n (s_callT na Pre Fn) := by
  refine ⟨mo_s_callT, fun ls st mm h => ?_⟩
  obtain ⟨hx, hb, hml, hown, hts, hK, hN, hE, hAW, hY⟩ := hC
  intro hl hol hos hom H locs arr hP hD hS hz hL
  unfold s_callT at h
  split at h
  · rename_i as k' g st' hpop
    obtain ⟨hst0, hlen⟩ := popn_spec hpop
    cases q : (Nat.beq k' 72 && Nat.ble (csum st') 8) <;> rw [q] at h
    · exact h.elim
    obtain ⟨q1, q2⟩ := Bool.and_eq_true_iff.mp q
    have e0 := Nat.eq_of_beq_eq_true q1
    subst e0
    obtain ⟨hpre, h⟩ := h
    have hos' : ∀ v ∈ as.reverse ++ (Sum.inr (Sum.inr (72, g)) :: st'), okvC C v := by rw [← hst0]; exact hos
    have hoa : oksC C (Sum.inr (Sum.inr (72, g)) :: as) := oks_cC (hos' _ (List.mem_append_right _ List.mem_cons_self)) (fun v hv => hos' v (List.mem_append_left _ (List.mem_reverse.mpr hv)))
    have hst : ∀ v ∈ st', okvC C v := fun v hv => hos' v (List.mem_append_right _ (List.mem_cons_of_mem _ hv))
    have hg : g < 2 := okC_str hY (oks_hC hoa) (by omega)
    have hrun := va_runV (As := as.map (cv ad)) (rest := st'.map (cv ad)) (e := e) (below := below) (meth := meth) (locs := locs) (cells := cells) (slots := slots) (g := F0 m (pcs n) arr (st.map (cv ad))) ⟨hx, hb, hml, hown, hts⟩ (hcon D dA ad mm _ H.size hom hoa hpre)
      ⟨callB_of na hts (TBL_goodIn hcode) rfl hrm.1 hrm.2.1 (hts _ hini) (hts _ hlk) hy hrm.2.2, hts _ hin, hts _ hsel⟩
      ⟨PCO_blindC, (show ∃ cell : Cell, H[ad 72 g]? = some cell ∧ cell.vm.isStatics = false ∧ s.vm.findClass y.cls = some cell.cls by rw [hk]; exact vk_recv hE.1 hg hS), PCO_atC (as := Sum.inr (Sum.inr (72, g)) :: as) hK hN hE hAW hP hD hS⟩ rfl (by rw [List.length_map]; exact hlen) hz (by show st.map (cv ad) = _; rw [hst0, List.map_append, List.map_reverse]; rfl) (lv_room (by rw [csum_map]; exact Nat.le_of_ble_eq_true q2)) hd hroom
    refine call_go (A1 := AWC C ad H.size) hrun hS (AW_subC hS hAW) (fun r t H1 locs1 ht hB hS1 => ?_)
    obtain ⟨r', mm', e1, e2, hom', hv', hP1⟩ := hB
    cases e1
    rw [ht] at hP1
    rw [← e2] at h
    have k1 := h hl hol (fun v hv => by
      rcases List.mem_append.mp hv with q | q
      · exact hv' v (by cases r' with
          | none => cases q
          | some w => rw [List.mem_singleton.mp q])
      · exact hst v q) hom' H1 locs1 arr hP1 (WS_DC hD) hS1 hz hL
    rw [hn] at k1
    rw [List.map_append] at k1
    cases r' <;> exact k1
  · exact h.elim
end FWC
def SNDALLC (C : List (Nat × Nat)) (l : Launch) (cc : ByteArray) (own : String) (nL : Nat) (ret : Option FieldType) (rm : Room) (P : List StpT) (pcs : Nat → Nat) : Prop := ∀ (p : Program) (e : Env) (s : State) (m : MethodId) (args : Array Value) (below : List Frame) (meth : Method) (c : Code) (cells slots : Nat) (Q : State → Prop) (D : va_G) (dA : Nat → ClassId) (ad : Nat → Nat → Nat) (A : Nat → Prop) (RR : RetP), CXC C p s m args c cc own nL D dA ad A → RTXC C s m args below meth cells slots Q D dA ad A RR ret → SL RR (XKC C p l e rm s m args below meth c cells slots Q nL D dA ad A pcs) 0 P
theorem CON_ofC {C : List (Nat × Nat)} (hY : CHY C) {l : Launch} {y : MethodName} {cc : ByteArray} {nL : Nat} {ret : Option FieldType} {rm : Room} {Pre : PreT} {Fn : FnT} {P : List StpT} {pcs : Nat → Nat} {own : String} (hy : plainName y.cls = true) (hown : y.cls = own) (hp0 : pcs 0 = 0) (hs : SNDALLC C l cc own nL ret rm P pcs) (hvc : VC P nL Pre Fn) : CONC C l y cc nL ret rm Pre Fn := by
  intro D dA ad mm as sz hom hoa hpre
  obtain ⟨hlen, hvc⟩ := hvc mm as hom (fun v hv => okvC_okv hY (hoa v hv)) hpre
  refine Met.ofW (cc := cc) (maxL := nL) (ret := ret) hy rfl ?_
  intro p e s m args below meth c s₁ B hml hv
  obtain ⟨rfl, hsz, hP, hK, hD0, hN, hE⟩ := hv
  subst hsz
  subst hown
  have hts := atoms_spec (ws := Cond.code y cc nL ret :: TBL) B.pre
  have hC : CXC C p s m (as.map (cv ad)).toArray c cc y.cls nL D dA ad (AWC C ad s.heap.size) := ⟨B.exec, B.bytes, hml, findClass_of_methodNamed B.named, fun w hw => hts w (List.mem_cons_of_mem _ hw), hK, hN, hE, fun _ h => h, hY⟩
  have hX := hvc _ (RUN_of (hs p e s m _ below meth c 0 0 _ D dA ad (AWC C ad s.heap.size) (fun r m' => (r, m') = Fn mm as) hC ⟨rfl, rfl, rfl, rfl, B.returns, B.notSynchronized⟩))
  have hl := lv_entry (as.map (cv ad)) (n := nL) (by rw [lsA_len]; exact hlen)
  rw [lg_entry_eq]
  have hW := hX (by unfold lsOf; rw [List.length_append, List.length_replicate]; omega) (fun i v hv => lsA_okC _ as i v hoa hv) (fun v hv => by cases hv) hom s.heap [] _ hP (AW_DC hD0) va_S.rf hl.1 ⟨hl.2.1, fun i v hv => by
    have h3 := lsA_at ad _ as 0 i v hv
    rw [Nat.zero_add] at h3
    exact hl.2.2 _ h3⟩
  rw [hp0] at hW
  exact hW
theorem CON_ofFC {C : List (Nat × Nat)} (hY : CHY C) {l : Launch} {y : MethodName} {cc : ByteArray} {nL : Nat} {ret : Option FieldType} {rm : Room} {Pre : PreT} {Fn : FnT} {P : List StpT} {pcs : Nat → Nat} {own : String} (hy : plainFor y = true) (hown : y.cls = own) (hp0 : pcs 0 = 0) (hs : SNDALLC C l cc own nL ret rm P pcs) (hvc : VC P nL Pre Fn) : CONC C l y cc nL ret rm Pre Fn := by
  intro D dA ad mm as sz hom hoa hpre
  obtain ⟨hlen, hvc⟩ := hvc mm as hom (fun v hv => okvC_okv hY (hoa v hv)) hpre
  refine Met_ofWF (cc := cc) (maxL := nL) (ret := ret) hy rfl ?_
  intro p e s m args below meth c s₁ B hml hv
  obtain ⟨rfl, hsz, hP, hK, hD0, hN, hE⟩ := hv
  subst hsz
  subst hown
  have hts := atoms_spec (ws := Cond.code y cc nL ret :: TBL) B.pre
  have hC : CXC C p s m (as.map (cv ad)).toArray c cc y.cls nL D dA ad (AWC C ad s.heap.size) := ⟨B.exec, B.bytes, hml, findClass_of_methodNamed B.named, fun w hw => hts w (List.mem_cons_of_mem _ hw), hK, hN, hE, fun _ h => h, hY⟩
  have hX := hvc _ (RUN_of (hs p e s m _ below meth c 0 0 _ D dA ad (AWC C ad s.heap.size) (fun r m' => (r, m') = Fn mm as) hC ⟨rfl, rfl, rfl, rfl, B.returns, B.notSynchronized⟩))
  have hl := lv_entry (as.map (cv ad)) (n := nL) (by rw [lsA_len]; exact hlen)
  rw [lg_entry_eq]
  have hW := hX (by unfold lsOf; rw [List.length_append, List.length_replicate]; omega) (fun i v hv => lsA_okC _ as i v hoa hv) (fun v hv => by cases hv) hom s.heap [] _ hP (AW_DC hD0) va_S.rf hl.1 ⟨hl.2.1, fun i v hv => by
    have h3 := lsA_at ad _ as 0 i v hv
    rw [Nat.zero_add] at h3
    exact hl.2.2 _ h3⟩
  rw [hp0] at hW
  exact hW

end
