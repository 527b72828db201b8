/-! PART 9ZZV: the law, from its entry -/

noncomputable section
theorem wd_164 : Cond.classLink "GivenUpLaw" 7 "GivenUp" ∈ TBL := TBL_c1 22 rfl rfl
theorem wd_165 : Cond.instantiable "GivenUp" 20 ∈ TBL := TBL_c1 23 rfl rfl
theorem wd_166 : Cond.methodLink "GivenUpLaw" 9 ⟨"GivenUp", "<init>", "()V"⟩ ∈ TBL := TBL_c1 24 rfl rfl
theorem wd_167 : Cond.instanceMethod ⟨"GivenUp", "<init>", "()V"⟩ ∈ TBL := TBL_c1 25 rfl rfl
theorem wd_168 : Cond.code ⟨"GivenUp", "<init>", "()V"⟩ prog_1_method_1_code 2 none ∈ TBL := TBL_c1 26 rfl rfl
theorem wd_1542 : Cond.classLink "GivenUpLaw" 10 "GivenUpModel" ∈ TBL := TBL_c6 200 rfl rfl
theorem wd_1543 : Cond.instantiable "GivenUpModel" 41 ∈ TBL := TBL_c6 201 rfl rfl
theorem wd_1544 : Cond.methodLink "GivenUpLaw" 12 ⟨"GivenUpModel", "<init>", "()V"⟩ ∈ TBL := TBL_c6 202 rfl rfl
theorem wd_1545 : Cond.instanceMethod ⟨"GivenUpModel", "<init>", "()V"⟩ ∈ TBL := TBL_c6 203 rfl rfl
theorem wd_1546 : Cond.code ⟨"GivenUpModel", "<init>", "()V"⟩ prog_14_method_1_code 1 none ∈ TBL := TBL_c6 204 rfl rfl
def pn_law : Nat → Nat := fun i => [0, 3, 4, 7, 8, 11, 12, 15, 16, 17].getD i 0
def dm_law : List (Nat × Instr × Nat) := [(0, .new 7, 3), (3, .dup, 1), (4, .invokespecial 9, 3), (7, .astore_n 1, 1), (8, .new 10, 3), (11, .dup, 1), (12, .invokespecial 12, 3), (15, .astore_n 2, 1), (16, .iconst 0, 1), (17, .istore_n 3, 1)]
theorem dn_law : DEC code pn_law dm_law := DEC_of (by decide +kernel)
section GXL
variable {p : Program} {l : Launch} {e : Env} {R : Room} {s : State} {m : MethodId} {args : Array Value} {below : List Frame} {meth : Method} {c : Code} {Q : State → Prop} {nL : Nat} {D : va_G} {dA : Nat → ClassId} {A : Nat → Prop} {cc : ByteArray} {own : String} {ad0 : Nat → Nat → Nat}
theorem g_astore_n (hG : CG p s m args c cc own nL D dA ad0 A) {cells slots : Nat} {w : va_W} {lv : List (Nat × Value)} (lv' : List (Nat × Value)) {pc i x : Nat} {st : List Value} {k : Fin 4} (hd : decode cc pc = .ok (.astore_n k, 1)) {pc' : Nat} (hpc : pc + 1 = pc') (hi : (k : Nat) = i) (hn : i < nL) (hl' : (i, Value.ref x) :: lv.filter (fun q => !(q.1 == i) && !(q.1 + 1 == i && q.2.category == 2)) = lv') (kk : GW p l e R s m args below meth c Q nL D A cells slots w lv' pc' st) : GW p l e R s m args below meth c Q nL D A cells slots w lv pc (.ref x :: st) := by
  subst hpc
  exact fun H locs _ hP hD hS hl => lv_astore_n hG.1 hG.2.1 hd hi hl hn hl' (fun ls' h' => kk H locs ls' hP hD hS h')
end GXL
/-- what a cell's references are told by -/
def chkA (k : Nat) : Bool := (!(Nat.beq (sh k).1 0) || (List.range (nf k)).all fun j => Nat.ble (ft k j).1 1 || (!(Nat.beq (ft k j).2.1 12) && Nat.ble (ft k j).2.1 53)) && (!(Nat.beq (sh k).1 4 || Nat.beq (sh k).1 5) || (!(Nat.beq (ft k 0).2.1 12) && Nat.ble (ft k 0).2.1 53)) && Nat.ble (sh k).1 5
theorem cE_ad {dA : Nat → ClassId} {ad ad' : Nat → Nat → Nat} {mm : MM} {k g : Nat} (h : ∀ t x, t ≠ 12 → t ≤ 53 → ad' t x = ad t x) (hc : chkA k = true) : cE dA ad' mm (k, g) = cE dA ad mm (k, g) := by
  obtain ⟨hc, h5⟩ := Bool.and_eq_true_iff.mp hc
  obtain ⟨h0, h4⟩ := Bool.and_eq_true_iff.mp hc
  have h5 : (sh k).1 ≤ 5 := Nat.le_of_ble_eq_true h5
  rcases (show (sh k).1 = 0 ∨ (sh k).1 = 1 ∨ (sh k).1 = 2 ∨ (sh k).1 = 3 ∨ (sh k).1 = 4 ∨ (sh k).1 = 5 by omega) with e | e | e | e | e | e
  · rw [cE_obj e, cE_obj e]
    refine congrArg (fun x => (Sum.inr (alen k, x) : va_E)) (List.map_congr_left (fun j hj => ?_))
    rw [e] at h0
    simp only [show Nat.beq 0 0 = true from rfl, Bool.not_true, Bool.false_or] at h0
    have hf := List.all_eq_true.mp h0 j hj
    obtain ⟨x, t, b, hx⟩ : ∃ x t b, ft k j = (x, t, b) := ⟨_, _, _, rfl⟩
    rw [hx] at hf
    unfold fv
    rw [hx]
    rcases Bool.or_eq_true_iff.mp hf with y | y
    · have y : x ≤ 1 := Nat.le_of_ble_eq_true y
      rcases (show x = 0 ∨ x = 1 by omega) with rfl | rfl <;> rfl
    · obtain ⟨y1, y2⟩ := Bool.and_eq_true_iff.mp y
      have z2 : t ≤ 53 := Nat.le_of_ble_eq_true y2
      have z1 : t ≠ 12 := fun z => by subst z; exact Bool.false_ne_true y1
      match x with
      | 0 => rfl
      | 1 => rfl
      | 2 => exact congrArg Value.ref (h t _ z1 z2)
      | 3 => exact congrArg Value.ref (h t _ z1 z2)
      | x + 4 => exact congrArg Value.ref (h t _ z1 z2)
  · rw [cE_int e, cE_int e]
  · rw [cE_long e, cE_long e]
  · rw [cE_byte e, cE_byte e]
  · rw [e] at h4
    simp only [show (Nat.beq 4 4 || Nat.beq 4 5) = true from rfl, Bool.not_true, Bool.false_or] at h4
    obtain ⟨y1, y2⟩ := Bool.and_eq_true_iff.mp h4
    have y2 : (ft k 0).2.1 ≤ 53 := Nat.le_of_ble_eq_true y2
    have y1 : (ft k 0).2.1 ≠ 12 := fun z => by rw [z] at y1; exact absurd y1 (by decide)
    unfold cE
    rw [show (sh (k, g).1).1 = 4 from e]
    exact congrArg (fun f => (Sum.inl (dA 3, alen k, .inr (.inr (.inr (.inr f)))) : va_E)) (funext fun j => congrArg some (h _ _ y1 y2))
  · rw [e] at h4
    simp only [show (Nat.beq 5 4 || Nat.beq 5 5) = true from rfl, Bool.not_true, Bool.false_or] at h4
    obtain ⟨y1, y2⟩ := Bool.and_eq_true_iff.mp h4
    have y2 : (ft k 0).2.1 ≤ 53 := Nat.le_of_ble_eq_true y2
    have y1 : (ft k 0).2.1 ≠ 12 := fun z => by rw [z] at y1; exact absurd y1 (by decide)
    unfold cE
    rw [show (sh (k, g).1).1 = 5 from e]
    exact congrArg (fun f => (Sum.inl (dA 4, alen k, .inr (.inr (.inr (.inr f)))) : va_E)) (funext fun j => congrArg some (h _ _ y1 y2))
theorem WSC_ad {C : List (Nat × Nat)} {dA : Nat → ClassId} {ad ad' : Nat → Nat → Nat} {mm : MM} (h : ∀ t x, t ≠ 12 → t ≤ 53 → ad' t x = ad t x) (hc : C.all (fun q => chkA q.1 && (!(Nat.beq q.1 12) && Nat.ble q.1 53)) = true) : WSC C dA ad' mm = WSC C dA ad mm := by
  unfold WSC
  refine List.map_congr_left (fun q hq => ?_)
  obtain ⟨c1, c2⟩ := Bool.and_eq_true_iff.mp (List.all_eq_true.mp hc q hq)
  obtain ⟨y1, y2⟩ := Bool.and_eq_true_iff.mp c2
  have y2 : q.1 ≤ 53 := Nat.le_of_ble_eq_true y2
  have y1 : q.1 ≠ 12 := fun z => by rw [z] at y1; exact absurd y1 (by decide)
  rw [h _ _ y1 y2, show cE dA ad' mm q = cE dA ad mm q from cE_ad (k := q.1) (g := q.2) h c1]
theorem CX_all : ∀ q ∈ CELLS, q ∈ CX11 ++ CX12 := by decide +kernel
theorem WS_from {dA : Nat → ClassId} {ad : Nat → Nat → Nat} {mm : MM} {D : va_G} {A : Nat → Prop} {H : Heap} (hP : va_P D vwCl (WSC (CX11 ++ CX12) dA ad mm) H) (hD : va_D A (WSC (CX11 ++ CX12) dA ad mm)) : va_P D vwCl (WS dA ad mm) H ∧ va_D A (WS dA ad mm) := by
  have hin : ∀ (k : Nat) (x : Nat × va_E), (WS dA ad mm)[k]? = some x → ∃ q, CELLS[k]? = some q ∧ x = (ad q.1 q.2, cE dA ad mm q) ∧ ∃ i, (CX11 ++ CX12)[i]? = some q := fun k x hx => by
    unfold WS at hx
    rw [List.getElem?_map] at hx
    cases hc : CELLS[k]? with
    | none => rw [hc] at hx; cases hx
    | some q =>
      rw [hc] at hx
      cases hx
      exact ⟨q, rfl, rfl, List.getElem?_of_mem (CX_all q (List.mem_of_getElem? hc))⟩
  refine ⟨fun k x hx => ?_, fun i j x y hx hy hxy => ?_, fun k x hx => ?_⟩
  · obtain ⟨q, -, rfl, i, hi⟩ := hin k x hx
    exact hP i _ (WS_atC hi)
  · obtain ⟨q, h1, rfl, i1, hi1⟩ := hin i x hx
    obtain ⟨r, h2, rfl, j1, hj1⟩ := hin j y hy
    have e := hD.1 i1 j1 _ _ (WS_atC hi1) (WS_atC hj1) hxy
    subst e
    have e2 : q = r := Option.some.inj (hi1.symm.trans hj1)
    subst e2
    exact CELLS_inj i (List.getElem?_eq_some_iff.mp h1).1 j (List.getElem?_eq_some_iff.mp h2).1 (by rw [h1, h2])
  · obtain ⟨q, -, rfl, i, hi⟩ := hin k x hx
    exact hD.2 i _ (WS_atC hi)
set_option maxRecDepth 20000 in
set_option maxHeartbeats 4000000 in
theorem law_cases {p : Program} {l : Launch} {e : Env} {s : State} {m : MethodId} {below : List Frame} {meth : Method} {c : Code} {b L cells slots : Nat} {xs : Nat → Int32} {D : va_G} {dA : Nat → ClassId} {ad : Nat → Nat → Nat} {A : Nat → Prop} (hL : L ≤ 3072) (hLC : LC p s m c b L xs D dA ad A) (hM : cells ≤ room_1.cells ∧ slots ≤ room_1.slots) : ∀ j, j < 62 → ∀ (i : Nat) (mm : MM), INV mm → i + 6 ≤ L → (∀ M, INV M → LK p l e s m below meth c b cells slots D dA ad A pc_L_head 12 (LSl i) [] M) → LK p l e s m below meth c b cells slots D dA ad A pc_L_head (16 + j) (LSl i) [] mm := by
  intro j hj i mm hI hi hk
  match j, hj with
  | 0, _ => exact LK_pc (pcs := pc_L_c0) (i := 0) (rfl : pc_L_c0 0 = pc_L_head 16) (cs_L_c0 (RUN_of (sl_L_c0 hLC hM)) hI hi hL (fun M hM2 => LK_pc (rfl : pc_L_head 12 = pc_L_c0 6) (hk M hM2)))
  | 1, _ => exact LK_pc (pcs := pc_L_c1) (i := 0) (rfl : pc_L_c1 0 = pc_L_head 17) (cs_L_c1 (RUN_of (sl_L_c1 hLC hM)) hI hi hL (fun M hM2 => LK_pc (rfl : pc_L_head 12 = pc_L_c1 7) (hk M hM2)))
  | 2, _ => exact LK_pc (pcs := pc_L_c2) (i := 0) (rfl : pc_L_c2 0 = pc_L_head 18) (cs_L_c2 (RUN_of (sl_L_c2 hLC hM)) hI hi hL (fun M hM2 => LK_pc (rfl : pc_L_head 12 = pc_L_c2 7) (hk M hM2)))
  | 3, _ => exact LK_pc (pcs := pc_L_c3) (i := 0) (rfl : pc_L_c3 0 = pc_L_head 19) (cs_L_c3 (RUN_of (sl_L_c3 hLC hM)) hI hi hL (fun M hM2 => LK_pc (rfl : pc_L_head 12 = pc_L_c3 36) (hk M hM2)))
  | 4, _ => exact LK_pc (pcs := pc_L_c4) (i := 0) (rfl : pc_L_c4 0 = pc_L_head 20) (cs_L_c4 (RUN_of (sl_L_c4 hLC hM)) hI hi hL (fun M hM2 => LK_pc (rfl : pc_L_head 12 = pc_L_c4 60) (hk M hM2)))
  | 5, _ => exact LK_pc (pcs := pc_L_c5) (i := 0) (rfl : pc_L_c5 0 = pc_L_head 21) (cs_L_c5 (RUN_of (sl_L_c5 hLC hM)) hI hi hL (fun M hM2 => LK_pc (rfl : pc_L_head 12 = pc_L_c5 27) (hk M hM2)))
  | 6, _ => exact LK_pc (pcs := pc_L_c6) (i := 0) (rfl : pc_L_c6 0 = pc_L_head 22) (cs_L_c6 (RUN_of (sl_L_c6 hLC hM)) hI hi hL (fun M hM2 => LK_pc (rfl : pc_L_head 12 = pc_L_c6 56) (hk M hM2)))
  | 7, _ => exact LK_pc (pcs := pc_L_c7) (i := 0) (rfl : pc_L_c7 0 = pc_L_head 23) (cs_L_c7 (RUN_of (sl_L_c7 hLC hM)) hI hi hL (fun M hM2 => LK_pc (rfl : pc_L_head 12 = pc_L_c7 56) (hk M hM2)))
  | 8, _ => exact LK_pc (pcs := pc_L_c8) (i := 0) (rfl : pc_L_c8 0 = pc_L_head 24) (cs_L_c8 (RUN_of (sl_L_c8 hLC hM)) hI hi hL (fun M hM2 => LK_pc (rfl : pc_L_head 12 = pc_L_c8 16) (hk M hM2)))
  | 9, _ => exact LK_pc (pcs := pc_L_c9) (i := 0) (rfl : pc_L_c9 0 = pc_L_head 25) (cs_L_c9 (RUN_of (sl_L_c9 hLC hM)) hI hi hL (fun M hM2 => LK_pc (rfl : pc_L_head 12 = pc_L_c9 16) (hk M hM2)))
  | 10, _ => exact LK_pc (pcs := pc_L_c10) (i := 0) (rfl : pc_L_c10 0 = pc_L_head 26) (cs_L_c10 (RUN_of (sl_L_c10 hLC hM)) hI hi hL (fun M hM2 => LK_pc (rfl : pc_L_head 12 = pc_L_c10 16) (hk M hM2)))
  | 11, _ => exact LK_pc (pcs := pc_L_c11) (i := 0) (rfl : pc_L_c11 0 = pc_L_head 27) (cs_L_c11 (RUN_of (sl_L_c11 hLC hM)) hI hi hL (fun M hM2 => LK_pc (rfl : pc_L_head 12 = pc_L_c11 16) (hk M hM2)))
  | 12, _ => exact LK_pc (pcs := pc_L_c12) (i := 0) (rfl : pc_L_c12 0 = pc_L_head 28) (cs_L_c12 (RUN_of (sl_L_c12 hLC hM)) hI hi hL (fun M hM2 => LK_pc (rfl : pc_L_head 12 = pc_L_c12 26) (hk M hM2)))
  | 13, _ => exact LK_pc (pcs := pc_L_c13) (i := 0) (rfl : pc_L_c13 0 = pc_L_head 29) (cs_L_c13 (RUN_of (sl_L_c13 hLC hM)) hI hi hL (fun M hM2 => LK_pc (rfl : pc_L_head 12 = pc_L_c13 26) (hk M hM2)))
  | 14, _ => exact LK_pc (pcs := pc_L_c14) (i := 0) (rfl : pc_L_c14 0 = pc_L_head 30) (cs_L_c14 (RUN_of (sl_L_c14 hLC hM)) hI hi hL (fun M hM2 => LK_pc (rfl : pc_L_head 12 = pc_L_c14 26) (hk M hM2)))
  | 15, _ => exact LK_pc (pcs := pc_L_c15) (i := 0) (rfl : pc_L_c15 0 = pc_L_head 31) (cs_L_c15 (RUN_of (sl_L_c15 hLC hM)) hI hi hL (fun M hM2 => LK_pc (rfl : pc_L_head 12 = pc_L_c15 26) (hk M hM2)))
  | 16, _ => exact LK_pc (pcs := pc_L_c16) (i := 0) (rfl : pc_L_c16 0 = pc_L_head 32) (cs_L_c16 (RUN_of (sl_L_c16 hLC hM)) hI hi hL (fun M hM2 => LK_pc (rfl : pc_L_head 12 = pc_L_c16 26) (hk M hM2)))
  | 17, _ => exact LK_pc (pcs := pc_L_c17) (i := 0) (rfl : pc_L_c17 0 = pc_L_head 33) (cs_L_c17 (RUN_of (sl_L_c17 hLC hM)) hI hi hL (fun M hM2 => LK_pc (rfl : pc_L_head 12 = pc_L_c17 16) (hk M hM2)))
  | 18, _ => exact LK_pc (pcs := pc_L_c18) (i := 0) (rfl : pc_L_c18 0 = pc_L_head 34) (cs_L_c18 (RUN_of (sl_L_c18 hLC hM)) hI hi hL (fun M hM2 => LK_pc (rfl : pc_L_head 12 = pc_L_c18 16) (hk M hM2)))
  | 19, _ => exact LK_pc (pcs := pc_L_c19) (i := 0) (rfl : pc_L_c19 0 = pc_L_head 35) (cs_L_c19 (RUN_of (sl_L_c19 hLC hM)) hI hi hL (fun M hM2 => LK_pc (rfl : pc_L_head 12 = pc_L_c19 16) (hk M hM2)))
  | 20, _ => exact LK_pc (pcs := pc_L_c20) (i := 0) (rfl : pc_L_c20 0 = pc_L_head 36) (cs_L_c20 (RUN_of (sl_L_c20 hLC hM)) hI hi hL (fun M hM2 => LK_pc (rfl : pc_L_head 12 = pc_L_c20 16) (hk M hM2)))
  | 21, _ => exact LK_pc (pcs := pc_L_c21) (i := 0) (rfl : pc_L_c21 0 = pc_L_head 37) (cs_L_c21 (RUN_of (sl_L_c21 hLC hM)) hI hi hL (fun M hM2 => LK_pc (rfl : pc_L_head 12 = pc_L_c21 6) (hk M hM2)))
  | 22, _ => exact LK_pc (pcs := pc_L_c22) (i := 0) (rfl : pc_L_c22 0 = pc_L_head 38) (cs_L_c22 (RUN_of (sl_L_c22 hLC hM)) hI hi hL (fun M hM2 => LK_pc (rfl : pc_L_head 12 = pc_L_c22 26) (hk M hM2)))
  | 23, _ => exact LK_pc (pcs := pc_L_c23) (i := 0) (rfl : pc_L_c23 0 = pc_L_head 39) (cs_L_c23 (RUN_of (sl_L_c23 hLC hM)) hI hi hL (fun M hM2 => LK_pc (rfl : pc_L_head 12 = pc_L_c23 26) (hk M hM2)))
  | 24, _ => exact LK_pc (pcs := pc_L_c24) (i := 0) (rfl : pc_L_c24 0 = pc_L_head 40) (cs_L_c24 (RUN_of (sl_L_c24 hLC hM)) hI hi hL (fun M hM2 => LK_pc (rfl : pc_L_head 12 = pc_L_c24 26) (hk M hM2)))
  | 25, _ => exact LK_pc (pcs := pc_L_c25) (i := 0) (rfl : pc_L_c25 0 = pc_L_head 41) (cs_L_c25 (RUN_of (sl_L_c25 hLC hM)) hI hi hL (fun M hM2 => LK_pc (rfl : pc_L_head 12 = pc_L_c25 26) (hk M hM2)))
  | 26, _ => exact LK_pc (pcs := pc_L_c26) (i := 0) (rfl : pc_L_c26 0 = pc_L_head 42) (cs_L_c26 (RUN_of (sl_L_c26 hLC hM)) hI hi hL (fun M hM2 => LK_pc (rfl : pc_L_head 12 = pc_L_c26 16) (hk M hM2)))
  | 27, _ => exact LK_pc (pcs := pc_L_c27) (i := 0) (rfl : pc_L_c27 0 = pc_L_head 43) (cs_L_c27 (RUN_of (sl_L_c27 hLC hM)) hI hi hL (fun M hM2 => LK_pc (rfl : pc_L_head 12 = pc_L_c27 6) (hk M hM2)))
  | 28, _ => exact LK_pc (pcs := pc_L_c28) (i := 0) (rfl : pc_L_c28 0 = pc_L_head 44) (cs_L_c28 (RUN_of (sl_L_c28 hLC hM)) hI hi hL (fun M hM2 => LK_pc (rfl : pc_L_head 12 = pc_L_c28 16) (hk M hM2)))
  | 29, _ => exact LK_pc (pcs := pc_L_c29) (i := 0) (rfl : pc_L_c29 0 = pc_L_head 45) (cs_L_c29 (RUN_of (sl_L_c29 hLC hM)) hI hi hL (fun M hM2 => LK_pc (rfl : pc_L_head 12 = pc_L_c29 16) (hk M hM2)))
  | 30, _ => exact LK_pc (pcs := pc_L_c30) (i := 0) (rfl : pc_L_c30 0 = pc_L_head 46) (cs_L_c30 (RUN_of (sl_L_c30 hLC hM)) hI hi hL (fun M hM2 => LK_pc (rfl : pc_L_head 12 = pc_L_c30 16) (hk M hM2)))
  | 31, _ => exact LK_pc (pcs := pc_L_c31) (i := 0) (rfl : pc_L_c31 0 = pc_L_head 47) (cs_L_c31 (RUN_of (sl_L_c31 hLC hM)) hI hi hL (fun M hM2 => LK_pc (rfl : pc_L_head 12 = pc_L_c31 26) (hk M hM2)))
  | 32, _ => exact LK_pc (pcs := pc_L_c32) (i := 0) (rfl : pc_L_c32 0 = pc_L_head 48) (cs_L_c32 (RUN_of (sl_L_c32 hLC hM)) hI hi hL (fun M hM2 => LK_pc (rfl : pc_L_head 12 = pc_L_c32 26) (hk M hM2)))
  | 33, _ => exact LK_pc (pcs := pc_L_c33) (i := 0) (rfl : pc_L_c33 0 = pc_L_head 49) (cs_L_c33 (RUN_of (sl_L_c33 hLC hM)) hI hi hL (fun M hM2 => LK_pc (rfl : pc_L_head 12 = pc_L_c33 36) (hk M hM2)))
  | 34, _ => exact LK_pc (pcs := pc_L_c34) (i := 0) (rfl : pc_L_c34 0 = pc_L_head 50) (cs_L_c34 (RUN_of (sl_L_c34 hLC hM)) hI hi hL (fun M hM2 => LK_pc (rfl : pc_L_head 12 = pc_L_c34 26) (hk M hM2)))
  | 35, _ => exact LK_pc (pcs := pc_L_c35) (i := 0) (rfl : pc_L_c35 0 = pc_L_head 51) (cs_L_c35 (RUN_of (sl_L_c35 hLC hM)) hI hi hL (fun M hM2 => LK_pc (rfl : pc_L_head 12 = pc_L_c35 36) (hk M hM2)))
  | 36, _ => exact LK_pc (pcs := pc_L_c36) (i := 0) (rfl : pc_L_c36 0 = pc_L_head 52) (cs_L_c36 (RUN_of (sl_L_c36 hLC hM)) hI hi hL (fun M hM2 => LK_pc (rfl : pc_L_head 12 = pc_L_c36 36) (hk M hM2)))
  | 37, _ => exact LK_pc (pcs := pc_L_c37) (i := 0) (rfl : pc_L_c37 0 = pc_L_head 53) (cs_L_c37 (RUN_of (sl_L_c37 hLC hM)) hI hi hL (fun M hM2 => LK_pc (rfl : pc_L_head 12 = pc_L_c37 36) (hk M hM2)))
  | 38, _ => exact LK_pc (pcs := pc_L_c38) (i := 0) (rfl : pc_L_c38 0 = pc_L_head 54) (cs_L_c38 (RUN_of (sl_L_c38 hLC hM)) hI hi hL (fun M hM2 => LK_pc (rfl : pc_L_head 12 = pc_L_c38 26) (hk M hM2)))
  | 39, _ => exact LK_pc (pcs := pc_L_c39) (i := 0) (rfl : pc_L_c39 0 = pc_L_head 55) (cs_L_c39 (RUN_of (sl_L_c39 hLC hM)) hI hi hL (fun M hM2 => LK_pc (rfl : pc_L_head 12 = pc_L_c39 36) (hk M hM2)))
  | 40, _ => exact LK_pc (pcs := pc_L_c40) (i := 0) (rfl : pc_L_c40 0 = pc_L_head 56) (cs_L_c40 (RUN_of (sl_L_c40 hLC hM)) hI hi hL (fun M hM2 => LK_pc (rfl : pc_L_head 12 = pc_L_c40 36) (hk M hM2)))
  | 41, _ => exact LK_pc (pcs := pc_L_c41) (i := 0) (rfl : pc_L_c41 0 = pc_L_head 57) (cs_L_c41 (RUN_of (sl_L_c41 hLC hM)) hI hi hL (fun M hM2 => LK_pc (rfl : pc_L_head 12 = pc_L_c41 26) (hk M hM2)))
  | 42, _ => exact LK_pc (pcs := pc_L_c42) (i := 0) (rfl : pc_L_c42 0 = pc_L_head 58) (cs_L_c42 (RUN_of (sl_L_c42 hLC hM)) hI hi hL (fun M hM2 => LK_pc (rfl : pc_L_head 12 = pc_L_c42 26) (hk M hM2)))
  | 43, _ => exact LK_pc (pcs := pc_L_c43) (i := 0) (rfl : pc_L_c43 0 = pc_L_head 59) (cs_L_c43 (RUN_of (sl_L_c43 hLC hM)) hI hi hL (fun M hM2 => LK_pc (rfl : pc_L_head 12 = pc_L_c43 26) (hk M hM2)))
  | 44, _ => exact LK_pc (pcs := pc_L_c44) (i := 0) (rfl : pc_L_c44 0 = pc_L_head 60) (cs_L_c44 (RUN_of (sl_L_c44 hLC hM)) hI hi hL (fun M hM2 => LK_pc (rfl : pc_L_head 12 = pc_L_c44 26) (hk M hM2)))
  | 45, _ => exact LK_pc (pcs := pc_L_c45) (i := 0) (rfl : pc_L_c45 0 = pc_L_head 61) (cs_L_c45 (RUN_of (sl_L_c45 hLC hM)) hI hi hL (fun M hM2 => LK_pc (rfl : pc_L_head 12 = pc_L_c45 16) (hk M hM2)))
  | 46, _ => exact LK_pc (pcs := pc_L_c46) (i := 0) (rfl : pc_L_c46 0 = pc_L_head 62) (cs_L_c46 (RUN_of (sl_L_c46 hLC hM)) hI hi hL (fun M hM2 => LK_pc (rfl : pc_L_head 12 = pc_L_c46 26) (hk M hM2)))
  | 47, _ => exact LK_pc (pcs := pc_L_c47) (i := 0) (rfl : pc_L_c47 0 = pc_L_head 63) (cs_L_c47 (RUN_of (sl_L_c47 hLC hM)) hI hi hL (fun M hM2 => LK_pc (rfl : pc_L_head 12 = pc_L_c47 16) (hk M hM2)))
  | 48, _ => exact LK_pc (pcs := pc_L_c48) (i := 0) (rfl : pc_L_c48 0 = pc_L_head 64) (cs_L_c48 (RUN_of (sl_L_c48 hLC hM)) hI hi hL (fun M hM2 => LK_pc (rfl : pc_L_head 12 = pc_L_c48 6) (hk M hM2)))
  | 49, _ => exact LK_pc (pcs := pc_L_c49) (i := 0) (rfl : pc_L_c49 0 = pc_L_head 65) (cs_L_c49 (RUN_of (sl_L_c49 hLC hM)) hI hi hL (fun M hM2 => LK_pc (rfl : pc_L_head 12 = pc_L_c49 16) (hk M hM2)))
  | 50, _ => exact LK_pc (pcs := pc_L_c50) (i := 0) (rfl : pc_L_c50 0 = pc_L_head 66) (cs_L_c50 (RUN_of (sl_L_c50 hLC hM)) hI hi hL (fun M hM2 => LK_pc (rfl : pc_L_head 12 = pc_L_c50 17) (hk M hM2)))
  | 51, _ => exact LK_pc (pcs := pc_L_c51) (i := 0) (rfl : pc_L_c51 0 = pc_L_head 67) (cs_L_c51 (RUN_of (sl_L_c51 hLC hM)) hI hi hL (fun M hM2 => LK_pc (rfl : pc_L_head 12 = pc_L_c51 26) (hk M hM2)))
  | 52, _ => exact LK_pc (pcs := pc_L_c52) (i := 0) (rfl : pc_L_c52 0 = pc_L_head 68) (cs_L_c52 (RUN_of (sl_L_c52 hLC hM)) hI hi hL (fun M hM2 => LK_pc (rfl : pc_L_head 12 = pc_L_c52 16) (hk M hM2)))
  | 53, _ => exact LK_pc (pcs := pc_L_c53) (i := 0) (rfl : pc_L_c53 0 = pc_L_head 69) (cs_L_c53 (RUN_of (sl_L_c53 hLC hM)) hI hi hL (fun M hM2 => LK_pc (rfl : pc_L_head 12 = pc_L_c53 16) (hk M hM2)))
  | 54, _ => exact LK_pc (pcs := pc_L_c54) (i := 0) (rfl : pc_L_c54 0 = pc_L_head 70) (cs_L_c54 (RUN_of (sl_L_c54 hLC hM)) hI hi hL (fun M hM2 => LK_pc (rfl : pc_L_head 12 = pc_L_c54 17) (hk M hM2)))
  | 55, _ => exact LK_pc (pcs := pc_L_c55) (i := 0) (rfl : pc_L_c55 0 = pc_L_head 71) (cs_L_c55 (RUN_of (sl_L_c55 hLC hM)) hI hi hL (fun M hM2 => LK_pc (rfl : pc_L_head 12 = pc_L_c55 36) (hk M hM2)))
  | 56, _ => exact LK_pc (pcs := pc_L_c56) (i := 0) (rfl : pc_L_c56 0 = pc_L_head 72) (cs_L_c56 (RUN_of (sl_L_c56 hLC hM)) hI hi hL (fun M hM2 => LK_pc (rfl : pc_L_head 12 = pc_L_c56 16) (hk M hM2)))
  | 57, _ => exact LK_pc (pcs := pc_L_c57) (i := 0) (rfl : pc_L_c57 0 = pc_L_head 73) (cs_L_c57 (RUN_of (sl_L_c57 hLC hM)) hI hi hL (fun M hM2 => LK_pc (rfl : pc_L_head 12 = pc_L_c57 16) (hk M hM2)))
  | 58, _ => exact LK_pc (pcs := pc_L_c58) (i := 0) (rfl : pc_L_c58 0 = pc_L_head 74) (cs_L_c58 (RUN_of (sl_L_c58 hLC hM)) hI hi hL (fun M hM2 => LK_pc (rfl : pc_L_head 12 = pc_L_c58 16) (hk M hM2)))
  | 59, _ => exact LK_pc (pcs := pc_L_c59) (i := 0) (rfl : pc_L_c59 0 = pc_L_head 75) (cs_L_c59 (RUN_of (sl_L_c59 hLC hM)) hI hi hL (fun M hM2 => LK_pc (rfl : pc_L_head 12 = pc_L_c59 36) (hk M hM2)))
  | 60, _ => exact LK_pc (pcs := pc_L_c60) (i := 0) (rfl : pc_L_c60 0 = pc_L_head 76) (cs_L_c60 (RUN_of (sl_L_c60 hLC hM)) hI hi hL (fun M hM2 => LK_pc (rfl : pc_L_head 12 = pc_L_c60 6) (hk M hM2)))
  | 61, _ => exact LK_pc (pcs := pc_L_c61) (i := 0) (rfl : pc_L_c61 0 = pc_L_head 77) (cs_L_c61 (RUN_of (sl_L_c61 hLC hM)) hI hi hL (fun M hM2 => LK_pc (rfl : pc_L_head 12 = pc_L_c61 6) (hk M hM2)))
  | j + 62, hj => exact absurd hj (by omega)
/-- both sides made: the world stands, the loop runs -/
theorem law_made {p : Program} {l : Launch} {e : Env} {s : State} {m : MethodId} {below : List Frame} {meth : Method} {c : Code} {b L : Nat} {xs : Nat → Int32} {D : va_G} {dA : Nat → ClassId} {ad0 ad1 ad2 : Nat → Nat → Nat} (hL : L ≤ 3072) (C0 : lw_At p s m meth c b L xs) (hG : CG p s m #[Value.ref b] c code R_law 4 D dA ad0 (fun q => s.heap.size ≤ q)) {cells slots : Nat} (hc1 : cells ≤ 600000) (hc2 : slots ≤ 7302250) : GW p l e room_1 s m #[Value.ref b] below meth c (lw_Z below #[Value.ref b] s) 4 D (fun q => s.heap.size ≤ q) cells slots (([] ++ WSC CX11 dA ad1 mF) ++ WSC CX12 dA ad2 mM) [(3, .int 0), (2, .ref (ad2 12 0)), (1, .ref (ad1 11 0)), (0, .ref b)] 18 [] := by
  intro H locs ls hP hD hS hl
  obtain ⟨hx, hb, hr, hml, hown, hts, hX, hbl, hlocks, hgv⟩ := C0
  obtain ⟨-, -, -, -, htT, hK, hN, hE, hO, hA⟩ := hG
  obtain ⟨AD, hAD⟩ : ∃ AD : Nat → Nat → Nat, AD = (fun k g => bif Nat.beq k 74 then b else bif kMx k then ad2 k 0 else bif Nat.ble 72 k then ad0 k g else ad1 k g) := ⟨_, rfl⟩
  have h1 : ∀ t x, t ≠ 12 → t ≤ 53 → AD t x = ad1 t x := fun t x a1 a2 => by
    have e1 : Nat.beq t 74 = false := by
      cases z : Nat.beq t 74 with
      | false => rfl
      | true => have := Nat.eq_of_beq_eq_true z; omega
    have e2 : kMx t = false := by
      unfold kMx
      have e3 : Nat.beq t 12 = false := by
        cases z : Nat.beq t 12 with
        | false => rfl
        | true => exact absurd (Nat.eq_of_beq_eq_true z) a1
      have e4 : Nat.ble 54 t = false := by
        cases z : Nat.ble 54 t with
        | false => rfl
        | true => have := Nat.le_of_ble_eq_true z; omega
      rw [e3, e4]
      rfl
    have e5 : Nat.ble 72 t = false := by
      cases z : Nat.ble 72 t with
      | false => rfl
      | true => have := Nat.le_of_ble_eq_true z; omega
    rw [hAD]
    show (bif Nat.beq t 74 then b else bif kMx t then ad2 t 0 else bif Nat.ble 72 t then ad0 t x else ad1 t x) = _
    rw [e1, e2, e5]
    rfl
  have w1 : WSC CX11 dA ad1 mF = WSC CX11 dA AD mF := (WSC_ad h1 (by decide +kernel)).symm
  have w2 : WSC CX12 dA ad2 mM = WSC CX12 dA AD mF := by
    have := WSC_re (C := CX12) (dA := dA) (ad := ad2) (ad' := AD) (mm := mM) (mm' := mF) 0 [] (by decide +kernel) (by rw [hAD]; exact (List.forall_mem_cons.mpr ⟨rfl, (List.forall_mem_cons.mpr ⟨rfl, (List.forall_mem_cons.mpr ⟨rfl, (List.forall_mem_cons.mpr ⟨rfl, (List.forall_mem_cons.mpr ⟨rfl, (List.forall_mem_cons.mpr ⟨rfl, (List.forall_mem_cons.mpr ⟨rfl, (List.forall_mem_cons.mpr ⟨rfl, (List.forall_mem_cons.mpr ⟨rfl, (List.forall_mem_cons.mpr ⟨rfl, (List.forall_mem_cons.mpr ⟨rfl, (List.forall_mem_cons.mpr ⟨rfl, (List.forall_mem_cons.mpr ⟨rfl, (List.forall_mem_cons.mpr ⟨rfl, (List.forall_mem_cons.mpr ⟨rfl, (List.forall_mem_cons.mpr ⟨rfl, (List.forall_mem_cons.mpr ⟨rfl, (List.forall_mem_cons.mpr ⟨rfl, (List.forall_mem_cons.mpr ⟨rfl, (fun _ z => absurd z List.not_mem_nil)⟩)⟩)⟩)⟩)⟩)⟩)⟩)⟩)⟩)⟩)⟩)⟩)⟩)⟩)⟩)⟩)⟩)⟩)⟩)) (fun _ z => absurd z List.not_mem_nil) (List.forall_mem_cons.mpr ⟨rfl, (List.forall_mem_cons.mpr ⟨rfl, (List.forall_mem_cons.mpr ⟨rfl, (List.forall_mem_cons.mpr ⟨rfl, (List.forall_mem_cons.mpr ⟨rfl, (List.forall_mem_cons.mpr ⟨rfl, (List.forall_mem_cons.mpr ⟨rfl, (List.forall_mem_cons.mpr ⟨rfl, (List.forall_mem_cons.mpr ⟨rfl, (List.forall_mem_cons.mpr ⟨rfl, (List.forall_mem_cons.mpr ⟨rfl, (List.forall_mem_cons.mpr ⟨rfl, (List.forall_mem_cons.mpr ⟨rfl, (List.forall_mem_cons.mpr ⟨rfl, (List.forall_mem_cons.mpr ⟨rfl, (List.forall_mem_cons.mpr ⟨rfl, (List.forall_mem_cons.mpr ⟨rfl, (List.forall_mem_cons.mpr ⟨rfl, (List.forall_mem_cons.mpr ⟨rfl, (fun _ z => absurd z List.not_mem_nil)⟩)⟩)⟩)⟩)⟩)⟩)⟩)⟩)⟩)⟩)⟩)⟩)⟩)⟩)⟩)⟩)⟩)⟩)⟩) (List.forall_mem_cons.mpr ⟨rfl, (List.forall_mem_cons.mpr ⟨rfl, (List.forall_mem_cons.mpr ⟨rfl, (List.forall_mem_cons.mpr ⟨rfl, (List.forall_mem_cons.mpr ⟨rfl, (List.forall_mem_cons.mpr ⟨rfl, (List.forall_mem_cons.mpr ⟨rfl, (List.forall_mem_cons.mpr ⟨rfl, (List.forall_mem_cons.mpr ⟨rfl, (List.forall_mem_cons.mpr ⟨rfl, (List.forall_mem_cons.mpr ⟨rfl, (List.forall_mem_cons.mpr ⟨rfl, (List.forall_mem_cons.mpr ⟨rfl, (List.forall_mem_cons.mpr ⟨rfl, (List.forall_mem_cons.mpr ⟨rfl, (List.forall_mem_cons.mpr ⟨rfl, (List.forall_mem_cons.mpr ⟨rfl, (List.forall_mem_cons.mpr ⟨rfl, (List.forall_mem_cons.mpr ⟨rfl, (fun _ z => absurd z List.not_mem_nil)⟩)⟩)⟩)⟩)⟩)⟩)⟩)⟩)⟩)⟩)⟩)⟩)⟩)⟩)⟩)⟩)⟩)⟩)⟩)
    exact this.symm
  rw [List.nil_append, w1, w2, ← WSC_a] at hP hD
  obtain ⟨hP, hD⟩ := WS_from hP hD
  have hEA : EXT AD (fun q => s.heap.size ≤ q) s s.heap := by rw [hAD]; exact hE
  have hLC : LC p s m c b L xs D dA AD (fun q => s.heap.size ≤ q) := by
    refine ⟨⟨hx, hb, hml, hown, htT, hK, hN, hEA, fun q hq => ?_⟩, hX, hbl, Nat.not_le.mpr hbl, by rw [hAD]; rfl, rfl⟩
    rcases hq with ⟨c0, hc0, rfl⟩ | hq
    · obtain ⟨k, hk⟩ := List.getElem?_of_mem hc0
      exact hD.2 k _ (WS_at hk)
    · exact hq
  have hM : cells ≤ room_1.cells ∧ slots ≤ room_1.slots := ⟨hc1, hc2⟩
  have hLR : meth.sig.returnType = ret ∧ meth.locks = false ∧ cells ≤ 600000 ∧ slots ≤ 7302250 := ⟨hr, hlocks, hc1, hc2⟩
  have k1 := law_loop (X := LK p l e s m below meth c b cells slots D dA AD (fun q => s.heap.size ≤ q) pc_L_head) hL (RUN_of (sl_L_head hLC hLR)) (law_cases hL hLC hM) L 0 mF INV_f (Nat.zero_le L) (by omega)
  refine k1 rfl (fun i v hv => ?_) (fun v hv => by cases hv) m0_ok H locs ls hP hD hS hl.1 ⟨hl.2.1, fun i v hv => ?_⟩
  · match i with
    | 0 => cases hv; exact (by decide : 0 < cnt 74)
    | 1 => cases hv; exact (by decide : 0 < cnt 11)
    | 2 => cases hv; exact (by decide : 0 < cnt 12)
    | 3 => cases hv; exact trivial
    | i + 4 => cases hv
  · match i with
    | 0 => cases hv; rw [hAD]; exact lv_at hl 3 rfl
    | 1 => cases hv; rw [hAD]; exact lv_at hl 2 rfl
    | 2 => cases hv; rw [hAD]; exact lv_at hl 1 rfl
    | 3 => cases hv; exact lv_at hl 0 rfl
    | i + 4 => cases hv

end
