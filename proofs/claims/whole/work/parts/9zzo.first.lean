/-! PART 9ZZO: the law's start (its first rows are the skeleton's) -/

noncomputable section
/-! THE CLAIM OUT OF ONE WALK OF THE LAW'S BODY. Your part is whole_start (and what it stands on); all else here is the same for every law, but numbers. -/
def R_law : String := "GivenUpLaw"
def lw_P (b : Addr) (xs : List Int32) (args : Array Value) (s : State) : Prop := args = #[.ref b] ∧ s.IntsAt b xs ∧ xs.length ≤ 3072 ∧ (Jvm.Cond.and given_1 narrow_1).before args s = true
def lw_Q (_ : Array Value) (s : State) (o : Outcome) (t : State) : Prop := o = .returned (some (.int 1)) ∧ Framed s o t [] 600000 7302250
def lw_Z (below : List Frame) (a : Array Value) (s : State) : State → Prop := fun t => ∃ o, t.status = .running ∧ Ended t below o ∧ lw_Q a s o t
/-- the law's own end, with 1 on the stack, nothing written that was there before, its room as the claim has it -/
theorem lw_ret {p : Program} {l : Launch} {e : Env} {s : State} {m : MethodId} {below : List Frame} {meth : Method} {c : Code} {b : Nat} (hx : p.tables.exec = Jvm.exec) (hb : c.code = code) (hr : meth.sig.returnType = ret) (hlocks : meth.locks = false) {pc : Nat} {H : Heap} {ls : Array Slot} (hdg : decode code pc = .ok (.ireturn, 1)) : W p l e room_1 s m #[Value.ref b] below meth c H [] 600000 7302250 (lw_Z below #[Value.ref b] s) (F0 m pc ls [.int 1]) := by
  intro T hT X
  obtain ⟨fs, hret, hrun, hended, hW, hframe⟩ := X.leave (v := some (.int 1)) (hlocks := hlocks) (fun h => by rw [hr] at h; cases h)
  have hmeth' : T.vm.method? m = some meth := X.method'
  refine ⟨T.setFrames fs, ?_, .returned (some (.int 1)), hrun, hended, rfl, ⟨_, rfl⟩, hW, hframe⟩
  jvm_step X.here [X.here.top, hx, hb, hdg, hmeth', hr, ret, narrow_b1]
  (try refine ⟨rfl, ?_⟩); (try refine ⟨rfl, ?_⟩)
  first | (intro acts; rw [hret _ acts rfl rfl rfl]) | rw [hret _ _ rfl rfl rfl]
  exact Steps.refl _
/-- what holds at the law's entry: the machine, the code, the tables' words (any of lw_tbl by 'hts w (by decide +kernel)'), the script of L ints xs at the cell b, what the Statement gives of the start (any of its parts by flat_of_before) -/
def lw_At (p : Program) (s : State) (m : MethodId) (meth : Method) (c : Code) (b L : Nat) (xs : Nat → Int32) : Prop :=
  p.tables.exec = Jvm.exec ∧ c.code = code ∧ meth.sig.returnType = ret ∧ c.maxLocals = 4 ∧ s.vm.findClass R_law = some m.cls ∧ (∀ w ∈ lw_tbl, w.before #[Value.ref b] s = true) ∧ va_X b L xs s s.heap ∧ b < s.heap.size ∧ meth.locks = false ∧ (Jvm.Cond.and given_1 narrow_1).before #[Value.ref b] s = true
def lawT (i : Nat) : Term := match i with
  | 0 => .string "GivenUp$Text" 48
  | _ => .string "GivenUpModel" 180
def lawF : List Cond := flatC (Jvm.Cond.and given_1 narrow_1)
theorem law_el0 : ∀ j, j < 153 → (flatC (Jvm.Cond.and given_1 narrow_1))[39 + j]? = some (Cond.eq (.elem (.field (lawT 0) "java/lang/String" "value" "[B") (.int (Int32.ofNat j))) (.int ((([KB KT0, KB KT1] : List (List Int32)).getD 0 []).getD j 0))) := by decide +kernel
theorem law_el1 : ∀ j, j < 154 → (flatC (Jvm.Cond.and given_1 narrow_1))[196 + j]? = some (Cond.eq (.elem (.field (lawT 1) "java/lang/String" "value" "[B") (.int (Int32.ofNat j))) (.int ((([KB KT0, KB KT1] : List (List Int32)).getD 1 []).getD j 0))) := by decide +kernel
set_option maxHeartbeats 4000000 in
set_option maxRecDepth 20000 in
theorem law_first {p : Program} {s : State} {m : MethodId} {meth : Method} {c : Code} {b L : Nat} {xs : Nat → Int32} (C0 : lw_At p s m meth c b L xs) : ∃ (D : va_G) (dA : Nat → ClassId) (ad0 : Nat → Nat → Nat), CG p s m #[Value.ref b] c code R_law 4 D dA ad0 (fun q => s.heap.size ≤ q) := by
  obtain ⟨hx, hb, hr, hml, hown, hts, hX, hbl, hlocks, hgv⟩ := C0
  have htT : ∀ w ∈ TBL, w.before #[Value.ref b] s = true := fun w hw => hts w (TBL_lw hw)
  obtain ⟨c0, i0, kn0⟩ := u_known (C := RX0) (T := TX0) (N := 7) (n := 7) htT inX0 (hts _ (List.mem_of_getElem? (i := 399) (by decide +kernel)))
  obtain ⟨c1, i1, kn1⟩ := u_known (C := RX1) (T := TX1) (N := 7) (n := 7) htT inX1 (hts _ (List.mem_of_getElem? (i := 458) (by decide +kernel)))
  obtain ⟨c2, i2, kn2⟩ := u_known (C := RX2) (T := TX2) (N := 4) (n := 4) htT inX2 (hts _ (List.mem_of_getElem? (i := 432) (by decide +kernel)))
  obtain ⟨c3, i3, kn3⟩ := u_known (C := RX3) (T := TX3) (N := 17) (n := 17) htT inX3 (hts _ (List.mem_of_getElem? (i := 307) (by decide +kernel)))
  obtain ⟨c4, i4, kn4⟩ := u_known (C := RX4) (T := TX4) (N := 11) (n := 11) htT inX4 (hts _ (List.mem_of_getElem? (i := 175) (by decide +kernel)))
  obtain ⟨c5, i5, kn5⟩ := u_known (C := RX5) (T := TX5) (N := 4) (n := 4) htT inX5 (hts _ (List.mem_of_getElem? (i := 688) (by decide +kernel)))
  obtain ⟨c6, i6, kn6⟩ := u_known (C := RX6) (T := TX6) (N := 20) (n := 20) htT inX6 (hts _ (List.mem_of_getElem? (i := 452) (by decide +kernel)))
  obtain ⟨c7, i7, kn7⟩ := u_known (C := RX7) (T := TX7) (N := 3) (n := 3) htT inX7 (hts _ (List.mem_of_getElem? (i := 272) (by decide +kernel)))
  obtain ⟨c8, i8, kn8⟩ := u_known (C := RX8) (T := TX8) (N := 6) (n := 6) htT inX8 (hts _ (List.mem_of_getElem? (i := 371) (by decide +kernel)))
  obtain ⟨c9, i9, kn9⟩ := u_known (C := RX9) (T := TX9) (N := 9) (n := 9) htT inX9 (hts _ (List.mem_of_getElem? (i := 505) (by decide +kernel)))
  obtain ⟨c10, i10, kn10⟩ := u_known (C := RX10) (T := TX10) (N := 3) (n := 3) htT inX10 (hts _ (List.mem_of_getElem? (i := 288) (by decide +kernel)))
  obtain ⟨c11, i11, kn11⟩ := u_known (C := RX11) (T := TX11) (N := 20) (n := 20) htT inX11 (hts _ (List.mem_of_getElem? (i := 165) (by decide +kernel)))
  obtain ⟨c12, i12, kn12⟩ := u_known (C := RX12) (T := TX12) (N := 41) (n := 41) htT inX12 (hts _ (List.mem_of_getElem? (i := 1543) (by decide +kernel)))
  obtain ⟨dC, dI, hKc⟩ : ∃ (dC : Nat → ClassId) (dI : Nat → Nat → Nat), ∀ (k : Nat) (q : vw_C), vwCl[k]? = some q → u_Kn s q.1 q.2.1 q.2.2 (dC k) (dI k) := by
    refine ⟨(fun k => if k = 0 then c0 else if k = 1 then c1 else if k = 2 then c2 else if k = 3 then c3 else if k = 4 then c4 else if k = 5 then c5 else if k = 6 then c6 else if k = 7 then c7 else if k = 8 then c8 else if k = 9 then c9 else if k = 10 then c10 else if k = 11 then c11 else c12), (fun k => if k = 0 then i0 else if k = 1 then i1 else if k = 2 then i2 else if k = 3 then i3 else if k = 4 then i4 else if k = 5 then i5 else if k = 6 then i6 else if k = 7 then i7 else if k = 8 then i8 else if k = 9 then i9 else if k = 10 then i10 else if k = 11 then i11 else i12), ?_⟩
    intro k q hq
    match k, hq with
    | 0, hq => cases hq; exact kn0
    | 1, hq => cases hq; exact kn1
    | 2, hq => cases hq; exact kn2
    | 3, hq => cases hq; exact kn3
    | 4, hq => cases hq; exact kn4
    | 5, hq => cases hq; exact kn5
    | 6, hq => cases hq; exact kn6
    | 7, hq => cases hq; exact kn7
    | 8, hq => cases hq; exact kn8
    | 9, hq => cases hq; exact kn9
    | 10, hq => cases hq; exact kn10
    | 11, hq => cases hq; exact kn11
    | 12, hq => cases hq; exact kn12
    | k + 13, hq => simp [vwCl] at hq
  obtain ⟨a0, ak0, ac0, ah0, ai0, aj0⟩ := Cond.arrayClass_spec (hts (.arrayClass FieldType.int) (List.mem_of_getElem? (i := 303) (by decide +kernel)))
  obtain ⟨a1, ak1, ac1, ah1, ai1, aj1⟩ := Cond.arrayClass_spec (hts (.arrayClass FieldType.long) (List.mem_of_getElem? (i := 270) (by decide +kernel)))
  obtain ⟨a2, ak2, ac2, ah2, ai2, aj2⟩ := Cond.arrayClass_spec (hts (.arrayClass FieldType.byte) (List.mem_of_getElem? (i := 269) (by decide +kernel)))
  have ao3 : va_AO "GivenUp$Tray" s := va_AO.of (hts _ (List.mem_of_getElem? (i := 173) (by decide +kernel)))
  obtain ⟨ac3, a3, ak3, af3, -, ai3, aj3, ah3⟩ := Cond.arrayOver_spec ao3
  have ao4 : va_AO "GivenUp$Valley" s := va_AO.of (hts _ (List.mem_of_getElem? (i := 305) (by decide +kernel)))
  obtain ⟨ac4, a4, ak4, af4, -, ai4, aj4, ah4⟩ := Cond.arrayOver_spec ao4
  obtain ⟨dA, hd0, hd1, hd2, hd3, hd4⟩ : ∃ dA : Nat → ClassId, dA 0 = a0 ∧ dA 1 = a1 ∧ dA 2 = a2 ∧ dA 3 = a3 ∧ dA 4 = a4 := ⟨fun k => if k = 0 then a0 else if k = 1 then a1 else if k = 2 then a2 else if k = 3 then a3 else a4, rfl, rfl, rfl, rfl, rfl⟩
  have hK : va_K (dC, dI) vwCl (TYS dA) s := by
    refine ⟨hKc, fun k q hq => ?_⟩
    match k, hq with
    | 0, hq => cases hq; rw [hd0]; exact ⟨fun n z => ⟨fun _ h => (by cases h), ak0, ai0, ac0, aj0⟩, ah0⟩
    | 1, hq => cases hq; rw [hd1]; exact ⟨fun n z => ⟨fun _ h => (by cases h), ak1, ai1, ac1, aj1⟩, ah1⟩
    | 2, hq => cases hq; rw [hd2]; exact ⟨fun n z => ⟨fun _ h => (by cases h), ak2, ai2, ac2, aj2⟩, ah2⟩
    | 3, hq => cases hq; rw [hd3]; exact ⟨fun n z => ⟨fun _ h => (by cases h), ak3, ai3, ac3, aj3⟩, ak3, ac3, ai3, aj3, af3, ah3⟩
    | 4, hq => cases hq; rw [hd4]; exact ⟨fun n z => ⟨fun _ h => (by cases h), ak4, ai4, ac4, aj4⟩, ak4, ac4, ai4, aj4, af4, ah4⟩
    | k + 5, hq => simp [TYS] at hq
  have hN : NST s := List.forall_mem_cons.mpr ⟨va_Nw.of rfl (hts _ (List.mem_of_getElem? (i := 308) (by decide +kernel))), List.forall_mem_cons.mpr ⟨va_Nw.of rfl (hts _ (List.mem_of_getElem? (i := 400) (by decide +kernel))), List.forall_mem_cons.mpr ⟨va_Nw.of rfl (hts _ (List.mem_of_getElem? (i := 433) (by decide +kernel))), List.forall_mem_cons.mpr ⟨va_Nw.of rfl (hts _ (List.mem_of_getElem? (i := 459) (by decide +kernel))), List.forall_mem_cons.mpr ⟨va_Nw.of rfl (hts _ (List.mem_of_getElem? (i := 506) (by decide +kernel))), List.forall_mem_cons.mpr ⟨va_Nw.of rfl (hts _ (List.mem_of_getElem? (i := 689) (by decide +kernel))), List.forall_mem_cons.mpr ⟨va_Nw.of rfl (hts _ (List.mem_of_getElem? (i := 816) (by decide +kernel))), List.forall_mem_cons.mpr ⟨va_Nw.of rfl (hts _ (List.mem_of_getElem? (i := 953) (by decide +kernel))), List.forall_mem_cons.mpr ⟨va_Nw.of rfl (hts _ (List.mem_of_getElem? (i := 1285) (by decide +kernel))), List.forall_mem_cons.mpr ⟨va_Nw.of rfl (hts _ (List.mem_of_getElem? (i := 1358) (by decide +kernel))), List.forall_mem_cons.mpr ⟨va_Nw.of rfl (hts _ (List.mem_of_getElem? (i := 1382) (by decide +kernel))), List.forall_mem_cons.mpr ⟨va_Nw.of rfl (hts _ (List.mem_of_getElem? (i := 1512) (by decide +kernel))), (fun _ z => absurd z List.not_mem_nil)⟩⟩⟩⟩⟩⟩⟩⟩⟩⟩⟩⟩
  have hA : ∀ a : Nat, a < s.heap.size → ¬ (fun q : Nat => s.heap.size ≤ q) a := fun a h z => absurd h (Nat.not_lt.mpr z)
  have hs := flat_of_before _ hgv
  have hstr : ∃ adK adV : Nat → Nat, vk_S 2 [153, 154] [KB KT0, KB KT1] adK adV (fun q : Nat => s.heap.size ≤ q) s s.heap ∧ ∀ i : Nat, i < 2 → (lawT i).eval #[Value.ref b] s none [] s = some (.ref (adK i)) := by
    refine vk_Sof (tm := lawT) (fun i hi => ?_) (fun i hi => ?_) (fun i hi => ?_) (fun i hi => ?_) (fun i hi => ?_) (fun i hi j hj => ?_) (fun i j hi hj hij => ?_) hA
    · match i, hi with
      | 0, _ => exact by decide
      | 1, _ => exact by decide
    · match i, hi with
      | 0, _ => exact (hs _ (List.mem_of_getElem? (i := 35) (by decide +kernel)))
      | 1, _ => exact (hs _ (List.mem_of_getElem? (i := 192) (by decide +kernel)))
    · match i, hi with
      | 0, _ => exact (hs _ (List.mem_of_getElem? (i := 36) (by decide +kernel)))
      | 1, _ => exact (hs _ (List.mem_of_getElem? (i := 193) (by decide +kernel)))
    · match i, hi with
      | 0, _ => exact (hs _ (List.mem_of_getElem? (i := 37) (by decide +kernel)))
      | 1, _ => exact (hs _ (List.mem_of_getElem? (i := 194) (by decide +kernel)))
    · match i, hi with
      | 0, _ => exact (hs _ (List.mem_of_getElem? (i := 38) (by decide +kernel)))
      | 1, _ => exact (hs _ (List.mem_of_getElem? (i := 195) (by decide +kernel)))
    · match i, hi with
      | 0, _ => exact hs _ (List.mem_of_getElem? (law_el0 j hj))
      | 1, _ => exact hs _ (List.mem_of_getElem? (law_el1 j hj))
    · match i, hi, j, hj with
      | 0, _, 0, _ => exact absurd rfl hij
      | 1, _, 1, _ => exact absurd rfl hij
      | 0, _, 1, _ => exact Or.inl (hs _ (List.mem_of_getElem? (i := 350) (by decide +kernel)))
      | 1, _, 0, _ => exact Or.inr (hs _ (List.mem_of_getElem? (i := 350) (by decide +kernel)))
  obtain ⟨adK, adV, hS0, hS1⟩ := hstr
  have hE : EXT (fun k => if k = 72 then adK else adV) (fun q : Nat => s.heap.size ≤ q) s s.heap := by
    refine ⟨hS0, vk_R.of (hts _ (List.mem_of_getElem? (i := 180) (by decide +kernel))) (hS1 0 (by decide)), vk_R.of (hts _ (List.mem_of_getElem? (i := 1763) (by decide +kernel))) (hS1 1 (by decide)), va_Zof (hts _ (List.mem_of_getElem? (i := 190) (by decide +kernel))) (hts _ (List.mem_of_getElem? (i := 145) (by decide +kernel))) (va_eqi (hs _ (List.mem_of_getElem? (i := 4) (by decide +kernel)))) hA, va_Zqof (hts _ (List.mem_of_getElem? (i := 206) (by decide +kernel))) (hts _ (List.mem_of_getElem? (i := 147) (by decide +kernel))) (hs _ (List.mem_of_getElem? (i := 5) (by decide +kernel))) hA⟩
  exact ⟨(dC, dI), dA, _, hx, hb, hml, hown, htT, hK, hN, hE, ⟨ao3, ao4⟩, fun _ h => h⟩

end
