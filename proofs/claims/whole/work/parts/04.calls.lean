/-! PART 04: calls, returns, contracts -/
def popn : Nat → List MV → List MV → Option (List MV × List MV)
  | 0, acc, st => some (acc, st)
  | n + 1, acc, v :: st => popn n (v :: acc) st
  | _ + 1, _, [] => none
theorem popn_gen : ∀ (n : Nat) (acc st as st' : List MV), popn n acc st = some (as, st') → ∃ pre : List MV, as = pre ++ acc ∧ st = pre.reverse ++ st' ∧ pre.length = n
  | 0, acc, st, as, st', h => by
    cases h
    exact ⟨[], rfl, rfl, rfl⟩
  | n + 1, acc, v :: st, as, st', h => by
    obtain ⟨pre, h1, h2, h3⟩ := popn_gen n (v :: acc) st as st' h
    exact ⟨pre ++ [v], by rw [h1]; simp, by rw [h2]; simp, by simp [h3]⟩
  | n + 1, acc, [], as, st', h => by cases h
theorem popn_spec {n : Nat} {st as st' : List MV} (h : popn n [] st = some (as, st')) : st = as.reverse ++ st' ∧ as.length = n := by
  obtain ⟨pre, h1, h2, h3⟩ := popn_gen n [] st as st' h
  rw [List.append_nil] at h1
  subst h1
  exact ⟨h2, h3⟩
abbrev PreT : Type := MM → List MV → Prop
abbrev FnT : Type := MM → List MV → Option MV × MM
def PCO (D : va_G) (dA : Nat → ClassId) (ad : Nat → Nat → Nat) (mm : MM) (as : List MV) (sz : Nat) : Array Value → State → Prop := va_Pc (as.map (cv ad)) (fun U => U.heap.size = sz ∧ WLD D dA ad (AW ad sz) mm U)
def QCO (D : va_G) (dA : Nat → ClassId) (ad : Nat → Nat → Nat) (sz : Nat) (RR : RetP) : Array Value → State → Outcome → State → Prop := fun _ st oc t => (∃ (r : Option MV) (mm' : MM), oc = .returned (r.map (cv ad)) ∧ RR r mm' ∧ okm mm' ∧ (∀ v, r = some v → okv v) ∧ va_P D vwCl (WS dA ad mm') t.heap) ∧ va_F (AW ad sz) st t
/-- a contract: from any world and arguments that fit, what it answers and how it leaves the world -/
def CON (l : Launch) (y : MethodName) (cc : ByteArray) (nL : Nat) (ret : Option FieldType) (rm : Room) (Pre : PreT) (Fn : FnT) : Prop := ∀ (D : va_G) (dA : Nat → ClassId) (ad : Nat → Nat → Nat) (mm : MM) (as : List MV) (sz : Nat), okm mm → oks as → Pre mm as → Met l y (.code y cc nL ret :: TBL) rm (PCO D dA ad mm as sz) (QCO D dA ad sz (fun r m' => (r, m') = Fn mm as)) 0 0 (AW ad sz)
theorem WLD_calling {D : va_G} {dA : Nat → ClassId} {ad : Nat → Nat → Nat} {A : Nat → Prop} {mm : MM} {U : State} {g : JFrame} {mk : MethodId} {a : Array Value} (h : WLD D dA ad A mm U) : WLD D dA ad A mm (U.calling g mk a) := by
  obtain ⟨h1, h2, h3, h4, h5⟩ := h
  exact ⟨h1, va_K.moved (u := U) (U := U.calling g mk a) (Vm.Alike.refl U.vm) h2, h3, NST.same (u := U) (U := U.calling g mk a) rfl h4, EXT.same (u := U) (U := U.calling g mk a) rfl h5⟩
theorem PCO_blind {D : va_G} {dA : Nat → ClassId} {ad : Nat → Nat → Nat} {mm : MM} {as : List MV} {sz : Nat} : FrameBlind (PCO D dA ad mm as sz) := fun _ _ _ _ h => ⟨h.1, h.2.1, WLD_calling h.2.2⟩
section FW4
variable {p : Program} {l : Launch} {e : Env} {R : Room} {s : State} {m : MethodId} {args : Array Value} {below : List Frame} {meth : Method} {c : Code} {cells slots : Nat} {Q : State → Prop} {nL : Nat} {D : va_G} {dA : Nat → ClassId} {ad : Nat → Nat → Nat} {A : Nat → Prop} {pcs : Nat → Nat} {cc : ByteArray} {own : String} {RR : RetP}
theorem call_go {H : Heap} {locs : List Loc} {rest st0 : List Value} {pc : Nat} {arr : Array Slot} {A1 : Nat → Prop} {B : Outcome → State → Prop} (hr : va_Run p l e R s m args below meth c H locs cells slots 0 0 (F0 m pc arr st0) rest (fun st oc t => B oc t ∧ va_F A1 st t) A1) (hS : va_S A s.heap H locs) (hA : ∀ q, A1 q → A q)
    (kk : ∀ (r : Option Value) (t : State) (H1 : Heap) (locs1 : List Loc), t.heap = H1 → B (.returned r) t → va_S A s.heap H1 locs1 → W p l e R s m args below meth c H1 locs1 cells slots Q (F0 m (pc + 3) arr (r.toList ++ rest))) : W p l e R s m args below meth c H locs cells slots Q (F0 m pc arr st0) := by
  intro T hT X
  obtain ⟨v, st₀, t, T', L, h0, X', hL, e1, e2, ⟨hB, hz, hk⟩, st⟩ := hr T hT X
  rw [h0] at hz hk
  obtain ⟨t2, a1, b1⟩ := kk v t T'.heap (locs ++ L) e1.symm hB
    ⟨Nat.le_trans hS.1 (by rw [e1]; exact hz), fun q h1 h2 => by rw [e1, hk q (Nat.lt_of_lt_of_le h1 hS.1) (fun z => h2 (hA q z))]; exact hS.2.1 q h1 h2, fun q hq => by
      rcases List.mem_append.mp hq with h | h
      · exact hS.2.2 q h
      · exact hA _ (hL q h)⟩ T' rfl X'
  exact ⟨t2, st t2 a1, b1⟩
theorem AW_sub {H : Heap} {locs : List Loc} (hS : va_S A s.heap H locs) (hAW : ∀ q, AW ad s.heap.size q → A q) : ∀ q, AW ad H.size q → A q := fun q h => hAW q (h.elim Or.inl (fun z => Or.inr (Nat.le_trans hS.1 z)))
/-- what the callee finds -/
theorem PCO_at {H : Heap} {locs : List Loc} {mm : MM} {as : List MV} (hK : va_K D vwCl (TYS dA) s) (hN : NST s) (hE : EXT ad A s s.heap) (hAW : ∀ q, AW ad s.heap.size q → A q) (hP : va_P D vwCl (WS dA ad mm) H) (hD : va_D A (WS dA ad mm)) (hS : va_S A s.heap H locs) : ∀ U : State, U.heap = H → s.WarmedH U.vm → PCO D dA ad mm as H.size (as.map (cv ad)).toArray U := by
  intro U hU hW
  refine ⟨rfl, by rw [hU], by rw [hU]; exact hP, va_K.moved hW.alike hK, hD.weaken (fun _ _ _ _ => trivial), hN.warm hW, ?_⟩
  rw [hU]
  exact ((hE.kept hS.2.1 (AW_sub hS hAW)).warm hW)
theorem TBL_goodIn {y : MethodName} {bytes : ByteArray} {maxL : Nat} {ret : Option FieldType} (h : Cond.code y bytes maxL ret ∈ TBL) : GoodIn TBL (.code y bytes maxL ret :: TBL) := by
  intro w hw
  rcases List.mem_cons.mp hw with rfl | q
  · exact ⟨h, good_of_word (TBL_good h)⟩
  · exact ⟨q, good_of_word (TBL_good q)⟩

def s_callV (k na : Nat) (Pre : PreT) (Fn : FnT) : StpT := fun _ K n ls st m => match popn na [] st with
  | some (as, Sum.inr (Sum.inr (k', g)) :: st') => cond (Nat.beq k' k && Nat.ble (csum st') 8) (Pre m (Sum.inr (Sum.inr (k', g)) :: as) ∧ K (n + 1) ls ((Fn m (Sum.inr (Sum.inr (k', g)) :: as)).1.toList ++ st') (Fn m (Sum.inr (Sum.inr (k', g)) :: as)).2) False
  | _ => False
theorem mo_s_callV {k na : Nat} {Pre : PreT} {Fn : FnT} : monoS (s_callV k na Pre Fn) := by
  intro R K K' h n ls st m hs
  unfold s_callV at hs ⊢
  split at hs
  · cases q : (Nat.beq _ k && Nat.ble _ 8) <;> rw [q] at hs
    · exact hs
    · exact ⟨hs.1, h _ _ _ _ hs.2⟩
  · exact hs
def s_callS (na : Nat) (Pre : PreT) (Fn : FnT) : StpT := fun _ K n ls st m => match popn na [] st with
  | some (as, st') => cond (Nat.ble (csum st') 8) (Pre m as ∧ K (n + 1) ls ((Fn m as).1.toList ++ st') (Fn m as).2) False
  | _ => False
theorem mo_s_callS {na : Nat} {Pre : PreT} {Fn : FnT} : monoS (s_callS na Pre Fn) := by
  intro R K K' h n ls st m hs
  unfold s_callS at hs ⊢
  split at hs
  · cases q : (Nat.ble _ 8) <;> rw [q] at hs
    · exact hs
    · exact ⟨hs.1, h _ _ _ _ hs.2⟩
  · exact hs
theorem st_callV (hC : CX p s m args c cc own nL D dA ad A) {n k na idx : Nat} {y : MethodName} {bytes : ByteArray} {mL : Nat} {ret : Option FieldType} {rm : Room} {Pre : PreT} {Fn : FnT} (hcon : CON l y bytes mL ret rm Pre Fn) (hd : decode cc (pcs n) = .ok (.invokevirtual idx, 3)) (hn : pcs (n + 1) = pcs n + 3) (hcode : Cond.code y bytes mL ret ∈ TBL) (hini : Cond.initialized y.cls ∈ TBL) (hy : y.cls ≠ "java/lang/invoke/MethodHandle" ∧ y.cls ≠ "java/lang/invoke/VarHandle" ∧ (parseMethodDescriptor y.desc).map (fun d => d.parameters.length) = some na) (hrm : rm.cells = 0 ∧ rm.slots = 0 ∧ rm.frames + 1 ≤ R.frames ∧ 8 + (mL + 11) + rm.locals ≤ R.locals) (hroom : cells ≤ R.cells ∧ slots ≤ R.slots)  (hlk : Cond.methodLink own idx y ∈ TBL) (hin : Cond.instanceMethod y ∈ TBL) (hsel : Cond.selects y.cls y y ∈ TBL) {T : u_T} {N : Nat} {ty0 : Nat → FieldType} (hk : CLF k y.cls T N ty0) : SND RR (XK p l e R s m args below meth c cells slots Q nL D dA ad A pcs) n (s_callV k na Pre Fn) := by
  refine ⟨mo_s_callV, fun ls st mm h => ?_⟩
  obtain ⟨hx, hb, hml, hown, hts, hK, hN, hE, hAW⟩ := hC
  intro hl hol hos hom H locs arr hP hD hS hz hL
  unfold s_callV at h
  split at h
  · rename_i as k' g st' hpop
    obtain ⟨hst0, hlen⟩ := popn_spec hpop
    cases q : (Nat.beq k' k && Nat.ble (csum st') 8) <;> rw [q] at h
    · exact h.elim
    obtain ⟨q1, q2⟩ := Bool.and_eq_true_iff.mp q
    have e0 := Nat.eq_of_beq_eq_true q1
    subst e0
    obtain ⟨hpre, h⟩ := h
    have hos' : ∀ v ∈ as.reverse ++ (Sum.inr (Sum.inr (k', g)) :: st'), okv v := by rw [← hst0]; exact hos
    have hoa : oks (Sum.inr (Sum.inr (k', g)) :: as) := oks_c (hos' _ (List.mem_append_right _ List.mem_cons_self)) (fun v hv => hos' v (List.mem_append_left _ (List.mem_reverse.mpr hv)))
    have hst : ∀ v ∈ st', okv v := fun v hv => hos' v (List.mem_append_right _ (List.mem_cons_of_mem _ hv))
    obtain ⟨hso, hcl, hnf, hin', hty, hnm, hcn⟩ := hk
    obtain ⟨q0, hq0⟩ := CELLS_mem (k := k') (g := g) (oks_h hoa) (by rw [hso]; exact Nat.zero_le 5)
    have he := WS_at (dA := dA) (ad := ad) (mm := mm) hq0
    rw [cE_obj hso] at he
    have hrun := va_runV (As := as.map (cv ad)) (rest := st'.map (cv ad)) (e := e) (below := below) (meth := meth) (locs := locs) (cells := cells) (slots := slots) (g := F0 m (pcs n) arr (st.map (cv ad))) ⟨hx, hb, hml, hown, hts⟩ (hcon D dA ad mm _ H.size hom hoa hpre)
      ⟨callB_of na hts (TBL_goodIn hcode) rfl hrm.1 hrm.2.1 (hts _ hini) (hts _ hlk) hy hrm.2.2, hts _ hin, hts _ hsel⟩
      ⟨PCO_blind, va_recv hK hP hcl he, PCO_at (as := Sum.inr (Sum.inr (k', g)) :: as) hK hN hE hAW hP hD hS⟩ rfl (by rw [List.length_map]; exact hlen) hz (by show st.map (cv ad) = _; rw [hst0, List.map_append, List.map_reverse]; rfl) (lv_room (by rw [csum_map]; exact Nat.le_of_ble_eq_true q2)) hd hroom
    refine call_go (A1 := AW ad H.size) hrun hS (AW_sub hS hAW) (fun r t H1 locs1 ht hB hS1 => ?_)
    obtain ⟨r', mm', e1, e2, hom', hv', hP1⟩ := hB
    cases e1
    rw [ht] at hP1
    rw [← e2] at h
    have k1 := h hl hol (fun v hv => by
      rcases List.mem_append.mp hv with q | q
      · exact hv' v (by cases r' with
          | none => cases q
          | some w => rw [List.mem_singleton.mp q])
      · exact hst v q) hom' H1 locs1 arr hP1 (WS_D hD) hS1 hz hL
    rw [hn] at k1
    rw [List.map_append] at k1
    cases r' <;> exact k1
  · exact h.elim
theorem st_callS (hC : CX p s m args c cc own nL D dA ad A) {n na idx : Nat} {y : MethodName} {bytes : ByteArray} {mL : Nat} {ret : Option FieldType} {rm : Room} {Pre : PreT} {Fn : FnT} (hcon : CON l y bytes mL ret rm Pre Fn) (hd : decode cc (pcs n) = .ok (.invokestatic idx, 3)) (hn : pcs (n + 1) = pcs n + 3) (hcode : Cond.code y bytes mL ret ∈ TBL) (hini : Cond.initialized y.cls ∈ TBL) (hy : y.cls ≠ "java/lang/invoke/MethodHandle" ∧ y.cls ≠ "java/lang/invoke/VarHandle" ∧ (parseMethodDescriptor y.desc).map (fun d => d.parameters.length) = some na) (hrm : rm.cells = 0 ∧ rm.slots = 0 ∧ rm.frames + 1 ≤ R.frames ∧ 8 + (mL + 11) + rm.locals ≤ R.locals) (hroom : cells ≤ R.cells ∧ slots ≤ R.slots)  (hlk : Cond.methodLink own idx y ∈ TBL) (hstat : Cond.static y ∈ TBL) : SND RR (XK p l e R s m args below meth c cells slots Q nL D dA ad A pcs) n (s_callS na Pre Fn) := by
  refine ⟨mo_s_callS, fun ls st mm h => ?_⟩
  obtain ⟨hx, hb, hml, hown, hts, hK, hN, hE, hAW⟩ := hC
  intro hl hol hos hom H locs arr hP hD hS hz hL
  unfold s_callS at h
  split at h
  · rename_i as st' hpop
    obtain ⟨hst0, hlen⟩ := popn_spec hpop
    cases q2 : (Nat.ble (csum st') 8) <;> rw [q2] at h
    · exact h.elim
    obtain ⟨hpre, h⟩ := h
    have hos' : ∀ v ∈ as.reverse ++ st', okv v := by rw [← hst0]; exact hos
    have hoa : oks as := fun v hv => hos' v (List.mem_append_left _ (List.mem_reverse.mpr hv))
    have hst : ∀ v ∈ st', okv v := fun v hv => hos' v (List.mem_append_right _ hv)
    have hrun := va_runS (As := as.map (cv ad)) (rest := st'.map (cv ad)) (e := e) (below := below) (meth := meth) (locs := locs) (cells := cells) (slots := slots) (g := F0 m (pcs n) arr (st.map (cv ad))) ⟨hx, hb, hml, hown, hts⟩ (hcon D dA ad mm _ H.size hom hoa hpre)
      ⟨callB_of na hts (TBL_goodIn hcode) rfl hrm.1 hrm.2.1 (hts _ hini) (hts _ hlk) hy hrm.2.2, hts _ hstat⟩
      ⟨PCO_blind, PCO_at (as := as) hK hN hE hAW hP hD hS⟩ rfl (by rw [List.length_map]; exact hlen) hz (by show st.map (cv ad) = _; rw [hst0, List.map_append, List.map_reverse]) (lv_room (by rw [csum_map]; exact Nat.le_of_ble_eq_true q2)) hd hroom
    refine call_go (A1 := AW ad H.size) hrun hS (AW_sub hS hAW) (fun r t H1 locs1 ht hB hS1 => ?_)
    obtain ⟨r', mm', e1, e2, hom', hv', hP1⟩ := hB
    cases e1
    rw [ht] at hP1
    rw [← e2] at h
    have k1 := h hl hol (fun v hv => by
      rcases List.mem_append.mp hv with q | q
      · exact hv' v (by cases r' with
          | none => cases q
          | some w => rw [List.mem_singleton.mp q])
      · exact hst v q) hom' H1 locs1 arr hP1 (WS_D hD) hS1 hz hL
    rw [hn] at k1
    rw [List.map_append] at k1
    cases r' <;> exact k1
  · exact h.elim
theorem st_callSN (hC : CX p s m args c cc own nL D dA ad A) {n na idx : Nat} {y : MethodName} {bytes : ByteArray} {mL : Nat} {ret : Option FieldType} {rm : Room} {Pre : PreT} {Fn : FnT} (hcon : CON l y bytes mL ret rm Pre Fn) (hd : decode cc (pcs n) = .ok (.invokestatic idx, 3)) (hn : pcs (n + 1) = pcs n + 3) (hcode : Cond.code y bytes mL ret ∈ TBL) (hini : Cond.initialized y.cls ∈ TBL) (hy : y.cls ≠ "java/lang/invoke/MethodHandle" ∧ y.cls ≠ "java/lang/invoke/VarHandle" ∧ (parseMethodDescriptor y.desc).map (fun d => d.parameters.length) = some na) (hrm : rm.cells = 0 ∧ rm.slots = 0 ∧ rm.frames + 1 ≤ R.frames ∧ 8 + (mL + 11) + rm.locals ≤ R.locals) (hroom : cells ≤ R.cells ∧ slots ≤ R.slots)  (hlk : ∃ host, (own, idx, y, host) ∈ NSL) (hstat : Cond.static y ∈ TBL) : SND RR (XK p l e R s m args below meth c cells slots Q nL D dA ad A pcs) n (s_callS na Pre Fn) := by
  refine ⟨mo_s_callS, fun ls st mm h => ?_⟩
  obtain ⟨hx, hb, hml, hown, hts, hK, hN, hE, hAW⟩ := hC
  intro hl hol hos hom H locs arr hP hD hS hz hL
  unfold s_callS at h
  split at h
  · rename_i as st' hpop
    obtain ⟨hst0, hlen⟩ := popn_spec hpop
    cases q2 : (Nat.ble (csum st') 8) <;> rw [q2] at h
    · exact h.elim
    obtain ⟨hpre, h⟩ := h
    have hos' : ∀ v ∈ as.reverse ++ st', okv v := by rw [← hst0]; exact hos
    have hoa : oks as := fun v hv => hos' v (List.mem_append_left _ (List.mem_reverse.mpr hv))
    have hst : ∀ v ∈ st', okv v := fun v hv => hos' v (List.mem_append_right _ hv)
    obtain ⟨host, hlk⟩ := hlk
    have hrun := va_runSN (As := as.map (cv ad)) (rest := st'.map (cv ad)) (e := e) (below := below) (meth := meth) (locs := locs) (cells := cells) (slots := slots) (g := F0 m (pcs n) arr (st.map (cv ad))) ⟨hx, hb, hml, hown, hts⟩ (hcon D dA ad mm _ H.size hom hoa hpre)
      ⟨va_cnB na hts (TBL_goodIn hcode) rfl hrm.1 hrm.2.1 (hN _ hlk) (hts _ hini) hy hrm.2.2, hts _ hstat, trivial⟩
      ⟨PCO_blind, PCO_at (as := as) hK hN hE hAW hP hD hS⟩ rfl (by rw [List.length_map]; exact hlen) hz (by show st.map (cv ad) = _; rw [hst0, List.map_append, List.map_reverse]) (lv_room (by rw [csum_map]; exact Nat.le_of_ble_eq_true q2)) hd hroom
    refine call_go (A1 := AW ad H.size) hrun hS (AW_sub hS hAW) (fun r t H1 locs1 ht hB hS1 => ?_)
    obtain ⟨r', mm', e1, e2, hom', hv', hP1⟩ := hB
    cases e1
    rw [ht] at hP1
    rw [← e2] at h
    have k1 := h hl hol (fun v hv => by
      rcases List.mem_append.mp hv with q | q
      · exact hv' v (by cases r' with
          | none => cases q
          | some w => rw [List.mem_singleton.mp q])
      · exact hst v q) hom' H1 locs1 arr hP1 (WS_D hD) hS1 hz hL
    rw [hn] at k1
    rw [List.map_append] at k1
    cases r' <;> exact k1
  · exact h.elim
/-- what a method's body ends in -/
def RTX (s : State) (m : MethodId) (args : Array Value) (below : List Frame) (meth : Method) (cells slots : Nat) (Q : State → Prop) (D : va_G) (dA : Nat → ClassId) (ad : Nat → Nat → Nat) (A : Nat → Prop) (RR : RetP) (ret : Option FieldType) : Prop :=
  cells = 0 ∧ slots = 0 ∧ A = AW ad s.heap.size ∧ Q = MQ below (QCO D dA ad s.heap.size RR) args s 0 0 (AW ad s.heap.size) ∧ meth.sig.returnType = ret ∧ meth.locks = false
def s_nret (ty : FieldType) : StpT := fun R _ _ _ st m => match st with
  | [Sum.inl x] => narrow ty (.int x) = .int x ∧ R (some (Sum.inl x)) m
  | _ => False
def s_iret : StpT := fun R _ _ _ st m => match st with
  | [Sum.inl x] => R (some (Sum.inl x)) m
  | _ => False
def s_zret : StpT := fun R _ _ _ st m => match st with
  | [Sum.inl x] => (x = 0 ∨ x = 1) ∧ R (some (Sum.inl x)) m
  | _ => False
def s_lret : StpT := fun R _ _ _ st m => match st with
  | [Sum.inr (Sum.inl x)] => R (some (Sum.inr (Sum.inl x))) m
  | _ => False
def s_vret : StpT := fun R _ _ _ st m => match st with
  | [] => R none m
  | _ => False
theorem mo_s_nret {ty : FieldType} : monoS (s_nret ty) := fun _ _ _ _ _ _ _ _ hs => hs
theorem mo_s_iret : monoS (s_iret) := fun _ _ _ _ _ _ _ _ hs => hs
theorem mo_s_zret : monoS (s_zret) := fun _ _ _ _ _ _ _ _ hs => hs
theorem mo_s_lret : monoS (s_lret) := fun _ _ _ _ _ _ _ _ hs => hs
theorem mo_s_vret : monoS (s_vret) := fun _ _ _ _ _ _ _ _ hs => hs
theorem st_nret (hC : CX p s m args c cc own nL D dA ad A) {n : Nat} {ty : FieldType} (hR : RTX s m args below meth cells slots Q D dA ad A RR (some ty)) (hd : decode cc (pcs n) = .ok (.ireturn, 1)) : SND RR (XK p l e R s m args below meth c cells slots Q nL D dA ad A pcs) n (s_nret ty) := by
  refine ⟨mo_s_nret, fun ls st mm h => ?_⟩
  obtain ⟨hx, hb, hml, hown, hts, hK, hN, hE, hAW⟩ := hC
  intro hl hol hos hom H locs arr hP hD hS hz hL
  obtain ⟨rfl, rfl, rfl, rfl, hrt, hlk⟩ := hR
  unfold s_nret at h
  split at h
  · obtain ⟨hna, h⟩ := h
    rename_i x
    exact W.zret hx hb hrt hna (fun t ht hW => ⟨⟨some (Sum.inl x), mm, rfl, h, hom, fun v hv => by cases hv <;> exact trivial, by rw [ht]; exact hP⟩, hS.F ht⟩) hS.2.2 hd hlk
  · exact h.elim
theorem st_iret (hC : CX p s m args c cc own nL D dA ad A) {n : Nat} (hR : RTX s m args below meth cells slots Q D dA ad A RR (some .int)) (hd : decode cc (pcs n) = .ok (.ireturn, 1)) : SND RR (XK p l e R s m args below meth c cells slots Q nL D dA ad A pcs) n s_iret := by
  refine ⟨mo_s_iret, fun ls st mm h => ?_⟩
  obtain ⟨hx, hb, hml, hown, hts, hK, hN, hE, hAW⟩ := hC
  intro hl hol hos hom H locs arr hP hD hS hz hL
  obtain ⟨rfl, rfl, rfl, rfl, hrt, hlk⟩ := hR
  unfold s_iret at h
  split at h
  · rename_i x
    exact W.iret hx hb hrt (fun t ht hW => ⟨⟨some (Sum.inl x), mm, rfl, h, hom, fun v hv => by cases hv <;> exact trivial, by rw [ht]; exact hP⟩, hS.F ht⟩) hS.2.2 hd hlk
  · exact h.elim
theorem st_zret (hC : CX p s m args c cc own nL D dA ad A) {n : Nat} (hR : RTX s m args below meth cells slots Q D dA ad A RR (some .boolean)) (hd : decode cc (pcs n) = .ok (.ireturn, 1)) : SND RR (XK p l e R s m args below meth c cells slots Q nL D dA ad A pcs) n s_zret := by
  refine ⟨mo_s_zret, fun ls st mm h => ?_⟩
  obtain ⟨hx, hb, hml, hown, hts, hK, hN, hE, hAW⟩ := hC
  intro hl hol hos hom H locs arr hP hD hS hz hL
  obtain ⟨rfl, rfl, rfl, rfl, hrt, hlk⟩ := hR
  unfold s_zret at h
  split at h
  · obtain ⟨hz1, h⟩ := h
    rename_i x
    exact W.zret hx hb hrt (by rcases hz1 with z | z <;> rw [z] <;> rfl) (fun t ht hW => ⟨⟨some (Sum.inl x), mm, rfl, h, hom, fun v hv => by cases hv <;> exact trivial, by rw [ht]; exact hP⟩, hS.F ht⟩) hS.2.2 hd hlk
  · exact h.elim
theorem st_lret (hC : CX p s m args c cc own nL D dA ad A) {n : Nat} (hR : RTX s m args below meth cells slots Q D dA ad A RR (some .long)) (hd : decode cc (pcs n) = .ok (.lreturn, 1)) : SND RR (XK p l e R s m args below meth c cells slots Q nL D dA ad A pcs) n s_lret := by
  refine ⟨mo_s_lret, fun ls st mm h => ?_⟩
  obtain ⟨hx, hb, hml, hown, hts, hK, hN, hE, hAW⟩ := hC
  intro hl hol hos hom H locs arr hP hD hS hz hL
  obtain ⟨rfl, rfl, rfl, rfl, hrt, hlk⟩ := hR
  unfold s_lret at h
  split at h
  · rename_i x
    exact W.lret hx hb hrt (fun t ht hW => ⟨⟨some (Sum.inr (Sum.inl x)), mm, rfl, h, hom, fun v hv => by cases hv <;> exact trivial, by rw [ht]; exact hP⟩, hS.F ht⟩) hS.2.2 hd hlk
  · exact h.elim
theorem st_vret (hC : CX p s m args c cc own nL D dA ad A) {n : Nat} (hR : RTX s m args below meth cells slots Q D dA ad A RR none) (hd : decode cc (pcs n) = .ok (.return_, 1)) : SND RR (XK p l e R s m args below meth c cells slots Q nL D dA ad A pcs) n s_vret := by
  refine ⟨mo_s_vret, fun ls st mm h => ?_⟩
  obtain ⟨hx, hb, hml, hown, hts, hK, hN, hE, hAW⟩ := hC
  intro hl hol hos hom H locs arr hP hD hS hz hL
  obtain ⟨rfl, rfl, rfl, rfl, hrt, hlk⟩ := hR
  unfold s_vret at h
  split at h
  · exact W.vret hx hb hrt (fun t ht hW => ⟨⟨none, mm, rfl, h, hom, fun v hv => by cases hv <;> exact trivial, by rw [ht]; exact hP⟩, hS.F ht⟩) hS.2.2 hd hlk
  · exact h.elim
end FW4
/-! running a program of steps -/
def nthS : List StpT → Nat → StpT
  | [], _ => fun _ _ _ _ _ _ => False
  | s :: _, 0 => s
  | _ :: t, n + 1 => nthS t n
noncomputable def run (P : List StpT) (R : RetP) (X : KonT) (cut : Nat → Bool) (f : Nat) : KonT := Nat.rec X (fun _ ih i ls st m => cond (cut i) (X i ls st m) (nthS P i R ih i ls st m)) f
def SL (R : RetP) (X : KonT) : Nat → List StpT → Prop
  | _, [] => True
  | n, s :: P => SND R X n s ∧ SL R X (n + 1) P
theorem SL_nth {R : RetP} {X : KonT} : ∀ {P : List StpT} {k : Nat}, SL R X k P → ∀ n, SND R X (k + n) (nthS P n)
  | [], _, _, _ => ⟨fun _ _ _ _ _ _ _ _ h => h, fun _ _ _ h => h.elim⟩
  | _ :: _, _, h, 0 => h.1
  | _ :: t, k, h, n + 1 => by
    have := SL_nth (P := t) (k := k + 1) h.2 n
    rw [show k + (n + 1) = k + 1 + n by omega]
    exact this
theorem SL_app {R : RetP} {X : KonT} : ∀ {P P2 : List StpT} {k : Nat}, SL R X k P → SL R X (k + P.length) P2 → SL R X k (P ++ P2)
  | [], _, _, _, h2 => h2
  | _ :: t, _, k, h, h2 => ⟨h.1, SL_app h.2 (by rw [show k + 1 + t.length = k + (t.length + 1) by omega]; exact h2)⟩
theorem run_le {P : List StpT} {R : RetP} {X : KonT} {cut : Nat → Bool} (h : ∀ n, SND R X n (nthS P n)) : ∀ (f : Nat) (i : Nat) (ls : LsT) (st : List MV) (m : MM), run P R X cut f i ls st m → X i ls st m
  | 0, _, _, _, _, hr => hr
  | f + 1, i, ls, st, m, hr => by
    have hr' : cond (cut i) (X i ls st m) (nthS P i R (run P R X cut f) i ls st m) := hr
    cases q : cut i <;> rw [q] at hr'
    · exact (h i).2 ls st m ((h i).1 R _ X (run_le h f) i ls st m hr')
    · exact hr'
/-- the rule that the proofs of methods use: run on from here, up to the cuts -/
def RUN (P : List StpT) (R : RetP) (X : KonT) : Prop := ∀ (cut : Nat → Bool) (f i : Nat) (ls : LsT) (st : List MV) (m : MM), nthS P i R (run P R X cut f) i ls st m → X i ls st m
theorem RUN_of {P : List StpT} {R : RetP} {X : KonT} (h : SL R X 0 P) : RUN P R X := by
  intro cut f i ls st m hr
  have h' : ∀ n, SND R X n (nthS P n) := fun n => by
    have := SL_nth h n
    rw [Nat.zero_add] at this
    exact this
  exact (h' i).2 ls st m ((h' i).1 R _ X (run_le h' f) i ls st m hr)
def lsA : List MV → LsT
  | [] => []
  | Sum.inr (Sum.inl x) :: r => some (Sum.inr (Sum.inl x)) :: none :: lsA r
  | v :: r => some v :: lsA r
def lsOf (nL : Nat) (as : List MV) : LsT := lsA as ++ List.replicate (nL - (lsA as).length) none
/-- what is to be shown of a method's steps: nothing of the machine is in it -/
def VC (P : List StpT) (nL : Nat) (Pre : PreT) (Fn : FnT) : Prop := ∀ (mm : MM) (as : List MV), okm mm → oks as → Pre mm as → (lsA as).length ≤ nL ∧ ∀ X : KonT, RUN P (fun r m' => (r, m') = Fn mm as) X → X 0 (lsOf nL as) [] mm
theorem lsA_c1 {v : MV} {r : List MV} (h : cat v = 1) : lsA (v :: r) = some v :: lsA r := by
  rcases v with x | x | x
  · rfl
  · cases h
  · rfl
theorem lsA_len (ad : Nat → Nat → Nat) : ∀ as : List MV, (lg_sl (as.map (cv ad))).length = (lsA as).length
  | [] => rfl
  | v :: r => by
    have ih := lsA_len ad r
    rcases v with x | x | x
    · simp only [lg_sl, List.map_cons, List.flatMap_cons, cv_cat, cat, List.length_append] at ih ⊢
      simp [lsA, ih]; omega
    · simp only [lg_sl, List.map_cons, List.flatMap_cons, cv_cat, cat, List.length_append] at ih ⊢
      simp [lsA, ih]; omega
    · simp only [lg_sl, List.map_cons, List.flatMap_cons, cv_cat, cat, List.length_append] at ih ⊢
      simp [lsA, ih]; omega
theorem lg_rep : ∀ (z i : Nat), lg (List.replicate z none) i = none
  | 0, _ => rfl
  | _ + 1, 0 => rfl
  | z + 1, i + 1 => lg_rep z i
theorem lsA_at (ad : Nat → Nat → Nat) (z : Nat) : ∀ (as : List MV) (k i : Nat) (v : MV), lg (lsA as ++ List.replicate z none) i = some v → (k + i, cv ad v) ∈ lv_args k (as.map (cv ad))
  | [], _, i, v, h => by
    rw [show lsA [] ++ List.replicate z none = List.replicate z none from rfl, lg_rep] at h
    cases h
  | w :: r, k, i, v, h => by
    rcases w with x | x | x
    · cases i with
      | zero => cases h; exact List.mem_cons_self
      | succ i =>
        have ih := lsA_at ad z r (k + 1) i v h
        rw [show k + (i + 1) = k + 1 + i by omega]
        exact List.mem_cons_of_mem _ ih
    · cases i with
      | zero => cases h; exact List.mem_cons_self
      | succ i =>
        cases i with
        | zero => cases h
        | succ i =>
          have ih := lsA_at ad z r (k + 2) i v h
          rw [show k + (i + 1 + 1) = k + 2 + i by omega]
          exact List.mem_cons_of_mem _ ih
    · cases i with
      | zero => cases h; exact List.mem_cons_self
      | succ i =>
        have ih := lsA_at ad z r (k + 1) i v h
        rw [show k + (i + 1) = k + 1 + i by omega]
        exact List.mem_cons_of_mem _ ih
theorem lsA_ok (z : Nat) : ∀ (as : List MV) (i : Nat) (v : MV), oks as → lg (lsA as ++ List.replicate z none) i = some v → okv v
  | [], i, v, _, h => by
    rw [show lsA [] ++ List.replicate z none = List.replicate z none from rfl, lg_rep] at h
    cases h
  | w :: r, i, v, ho, h => by
    rcases w with x | x | x
    · cases i with
      | zero => cases h; exact oks_h ho
      | succ i => exact lsA_ok z r i v (oks_t ho) h
    · cases i with
      | zero => cases h; exact oks_h ho
      | succ i =>
        cases i with
        | zero => cases h
        | succ i => exact lsA_ok z r i v (oks_t ho) h
    · cases i with
      | zero => cases h; exact oks_h ho
      | succ i => exact lsA_ok z r i v (oks_t ho) h
/-- the steps of a method are sound, wherever it is called -/
def SNDALL (l : Launch) (cc : ByteArray) (own : String) (nL : Nat) (ret : Option FieldType) (rm : Room) (P : List StpT) (pcs : Nat → Nat) : Prop := ∀ (p : Program) (e : Env) (s : State) (m : MethodId) (args : Array Value) (below : List Frame) (meth : Method) (c : Code) (cells slots : Nat) (Q : State → Prop) (D : va_G) (dA : Nat → ClassId) (ad : Nat → Nat → Nat) (A : Nat → Prop) (RR : RetP), CX p s m args c cc own nL D dA ad A → RTX s m args below meth cells slots Q D dA ad A RR ret → SL RR (XK p l e rm s m args below meth c cells slots Q nL D dA ad A pcs) 0 P
theorem CON_of {l : Launch} {y : MethodName} {cc : ByteArray} {nL : Nat} {ret : Option FieldType} {rm : Room} {Pre : PreT} {Fn : FnT} {P : List StpT} {pcs : Nat → Nat} {own : String} (hy : plainName y.cls = true) (hown : y.cls = own) (hp0 : pcs 0 = 0) (hs : SNDALL l cc own nL ret rm P pcs) (hvc : VC P nL Pre Fn) : CON l y cc nL ret rm Pre Fn := by
  intro D dA ad mm as sz hom hoa hpre
  obtain ⟨hlen, hvc⟩ := hvc mm as hom hoa hpre
  refine Met.ofW (cc := cc) (maxL := nL) (ret := ret) hy rfl ?_
  intro p e s m args below meth c s₁ B hml hv
  obtain ⟨rfl, hsz, hP, hK, hD0, hN, hE⟩ := hv
  subst hsz
  subst hown
  have hts := atoms_spec (ws := Cond.code y cc nL ret :: TBL) B.pre
  have hC : CX p s m (as.map (cv ad)).toArray c cc y.cls nL D dA ad (AW ad s.heap.size) := ⟨B.exec, B.bytes, hml, findClass_of_methodNamed B.named, fun w hw => hts w (List.mem_cons_of_mem _ hw), hK, hN, hE, fun _ h => h⟩
  have hX := hvc _ (RUN_of (hs p e s m _ below meth c 0 0 _ D dA ad (AW ad s.heap.size) (fun r m' => (r, m') = Fn mm as) hC ⟨rfl, rfl, rfl, rfl, B.returns, B.notSynchronized⟩))
  have hl := lv_entry (as.map (cv ad)) (n := nL) (by rw [lsA_len]; exact hlen)
  rw [lg_entry_eq]
  have hW := hX (by unfold lsOf; rw [List.length_append, List.length_replicate]; omega) (fun i v hv => lsA_ok _ as i v hoa hv) (fun v hv => by cases hv) hom s.heap [] _ hP (AW_D hD0) va_S.rf hl.1 ⟨hl.2.1, fun i v hv => by
    have h3 := lsA_at ad _ as 0 i v hv
    rw [Nat.zero_add] at h3
    exact hl.2.2 _ h3⟩
  rw [hp0] at hW
  exact hW

