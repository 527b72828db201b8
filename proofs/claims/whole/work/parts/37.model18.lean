/-! PART 37: the model: trays and the tape -/

theorem nI_sb {a b : Nat} (h : b ≤ a) : nI a - nI b = nI (a - b) := by
  have : nI a = nI (a - b) + nI b := by rw [nI_add]; congr 1; omega
  rw [this]
  exact Int32.add_sub_cancel _ _
/-- how many NUMBERS a tray has -/
def TRo (m : MM) : Prop := ∀ t, t < 4 → m.1 57 0 t = -1 ∨ ∃ q, q ≤ 60 ∧ m.1 57 0 t = nI q
abbrev trP (x : Int32) : Prop := ¬ x < 0 ∧ ¬ 4 ≤ x
theorem tr_in {x : Int32} (h : trP x) : ∃ t, t < 4 ∧ x = nI t := arg_in (n := 4) h.1 h.2 (by decide)
def zfR (o : Nat → Int64) (t : Nat) : Nat → (Nat → Int64)
  | 0 => o
  | k + 1 => vp_updL (zfR o t k) (60 * t + k) 0
def tyM (m : MM) (t : Nat) (s n : Int32) : MM := mRowL (mRow (mRow m 56 0 (upd (m.1 56 0) t s)) 57 0 (upd (m.1 57 0) t n)) 58 0 (zfR (m.2.1 58 0) t n.toNatClampNeg)

def Pre_X12_tray : PreT := fun _ as => ∃ x s n : Int32, as = [vR 12 0, vI x, vI s, vI n]
abbrev tyP (x s n : Int32) : Prop := trP x ∧ ¬ s < 0 ∧ s ≤ 3 ∧ ¬ n < 0 ∧ n ≤ 60
def Fn_X12_tray : FnT := fun m as => match as with
  | [_, Sum.inl x, Sum.inl s, Sum.inl n] => if tyP x s n then (some (vI 1), stM (tyM m x.toNatClampNeg s n) 0) else (some (vI 0), stM m 1)
  | _ => (none, m)
abbrev y_X12_tray : MethodName := ⟨"GivenUpModel", "tray", "(III)Z"⟩
def P_X12_tray : List StpT := [s_iload 1, s_callS 1 Pre_X12_isTray Fn_X12_isTray, s_ifeq 13, s_iload 2, s_iflt 13, s_iload 2, s_ic (3), s_icgt 13, s_iload 3, s_iflt 13, s_iload 3, s_ic (60), s_icle 17, s_aload 0, s_ic (1), s_callV 12 1 Pre_X12_is Fn_X12_is, s_zret, s_aload 0, s_getR 12 5 56, s_iload 1, s_iload 2, s_iast, s_aload 0, s_getR 12 6 57, s_iload 1, s_iload 3, s_iast, s_ic (0), s_istore 4, s_iload 4, s_iload 3, s_icge 43, s_aload 0, s_getR 12 7 58, s_ic (60), s_iload 1, s_imul, s_iload 4, s_iadd, s_lc 0, s_last, s_iinc 4 (1), s_goto 29, s_aload 0, s_ic (0), s_callV 12 1 Pre_X12_is Fn_X12_is, s_zret]
def pc_X12_tray : Nat → Nat := fun i => [0, 1, 4, 7, 8, 11, 12, 13, 16, 17, 20, 21, 23, 26, 27, 28, 31, 32, 33, 36, 37, 38, 39, 40, 43, 44, 45, 46, 47, 49, 51, 52, 55, 56, 59, 61, 62, 63, 65, 66, 67, 68, 71, 74, 75, 76, 79].getD i 0
def dl_X12_tray : List (Nat × Instr × Nat) := [(0, .iload_n 1, 1), (1, .invokestatic 98, 3), (4, .ifCond .eq 22, 3), (7, .iload_n 2, 1), (8, .ifCond .lt 18, 3), (11, .iload_n 2, 1), (12, .iconst 3, 1), (13, .if_icmp .gt 13, 3), (16, .iload_n 3, 1), (17, .ifCond .lt 9, 3), (20, .iload_n 3, 1), (21, .bipush 60, 2), (23, .if_icmp .le 9, 3), (26, .aload_n 0, 1), (27, .iconst 1, 1), (28, .invokevirtual 94, 3), (31, .ireturn, 1), (32, .aload_n 0, 1), (33, .getfield 21, 3), (36, .iload_n 1, 1), (37, .iload_n 2, 1), (38, .iastore, 1), (39, .aload_n 0, 1), (40, .getfield 24, 3), (43, .iload_n 1, 1), (44, .iload_n 3, 1), (45, .iastore, 1), (46, .iconst 0, 1), (47, .istore 4, 2), (49, .iload 4, 2), (51, .iload_n 3, 1), (52, .if_icmp .ge 22, 3), (55, .aload_n 0, 1), (56, .getfield 27, 3), (59, .bipush 60, 2), (61, .iload_n 1, 1), (62, .imul, 1), (63, .iload 4, 2), (65, .iadd, 1), (66, .lconst 0, 1), (67, .lastore, 1), (68, .iinc 4 1, 3), (71, .goto (-22), 3), (74, .aload_n 0, 1), (75, .iconst 0, 1), (76, .invokevirtual 94, 3), (79, .ireturn, 1)]
theorem dc_X12_tray : DEC prog_14_method_14_code pc_X12_tray dl_X12_tray := DEC_of (by decide +kernel)
abbrev rm_X12_tray : Room := { frames := 1, cells := 0, slots := 0, locals := 21 }
set_option maxRecDepth 20000 in
theorem sa_X12_tray (l : Launch) : SNDALL l prog_14_method_14_code "GivenUpModel" 5 (some .boolean) rm_X12_tray P_X12_tray pc_X12_tray := fun p e s m args below meth c cells slots Q D dA ad A RR hC hR => by
  have hM := RTX_room (R := rm_X12_tray) hR
  exact ⟨st_iload_n hC (n := 0) (k := 1) (dc_X12_tray 0 (0, .iload_n 1, 1) rfl rfl) rfl rfl,
    st_callS hC (n := 1) (na := 1) (con_X12_isTray l) (dc_X12_tray 1 (1, .invokestatic 98, 3) rfl rfl) rfl wd_1694 wd_160 (by decide) ⟨rfl, rfl, by decide, by decide⟩ hM wd_1692 wd_1693,
    st_ifeq hC (n := 2) (dc_X12_tray 2 (4, .ifCond .eq 22, 3) rfl rfl) rfl (by decide),
    st_iload_n hC (n := 3) (k := 2) (dc_X12_tray 3 (7, .iload_n 2, 1) rfl rfl) rfl rfl,
    st_iflt hC (n := 4) (dc_X12_tray 4 (8, .ifCond .lt 18, 3) rfl rfl) rfl (by decide),
    st_iload_n hC (n := 5) (k := 2) (dc_X12_tray 5 (11, .iload_n 2, 1) rfl rfl) rfl rfl,
    st_iconst hC (n := 6) (x := 3) (dc_X12_tray 6 (12, .iconst 3, 1) rfl rfl) rfl (by decide),
    st_icgt hC (n := 7) (dc_X12_tray 7 (13, .if_icmp .gt 13, 3) rfl rfl) rfl (by decide),
    st_iload_n hC (n := 8) (k := 3) (dc_X12_tray 8 (16, .iload_n 3, 1) rfl rfl) rfl rfl,
    st_iflt hC (n := 9) (dc_X12_tray 9 (17, .ifCond .lt 9, 3) rfl rfl) rfl (by decide),
    st_iload_n hC (n := 10) (k := 3) (dc_X12_tray 10 (20, .iload_n 3, 1) rfl rfl) rfl rfl,
    st_bipush hC (n := 11) (x := 60) (dc_X12_tray 11 (21, .bipush 60, 2) rfl rfl) rfl (by decide),
    st_icle hC (n := 12) (dc_X12_tray 12 (23, .if_icmp .le 9, 3) rfl rfl) rfl (by decide),
    st_aload_n hC (n := 13) (k := 0) (dc_X12_tray 13 (26, .aload_n 0, 1) rfl rfl) rfl rfl,
    st_iconst hC (n := 14) (x := 1) (dc_X12_tray 14 (27, .iconst 1, 1) rfl rfl) rfl (by decide),
    st_callV hC (n := 15) (k := 12) (na := 1) (con_X12_is l) (dc_X12_tray 15 (28, .invokevirtual 94, 3) rfl rfl) rfl wd_1698 wd_160 (by decide) ⟨rfl, rfl, by decide, by decide⟩ hM wd_1695 wd_1697 wd_51 clf_12,
    st_zret hC (n := 16) hR (dc_X12_tray 16 (31, .ireturn, 1) rfl rfl),
    st_aload_n hC (n := 17) (k := 0) (dc_X12_tray 17 (32, .aload_n 0, 1) rfl rfl) rfl rfl,
    st_getR hC (n := 18) (k := 12) (j := 5) (dc_X12_tray 18 (33, .getfield 21, 3) rfl rfl) rfl clf_12 (by decide) rfl (by decide) wd_1557,
    st_iload_n hC (n := 19) (k := 1) (dc_X12_tray 19 (36, .iload_n 1, 1) rfl rfl) rfl rfl,
    st_iload_n hC (n := 20) (k := 2) (dc_X12_tray 20 (37, .iload_n 2, 1) rfl rfl) rfl rfl,
    st_iast hC (n := 21) (dc_X12_tray 21 (38, .iastore, 1) rfl rfl) rfl,
    st_aload_n hC (n := 22) (k := 0) (dc_X12_tray 22 (39, .aload_n 0, 1) rfl rfl) rfl rfl,
    st_getR hC (n := 23) (k := 12) (j := 6) (dc_X12_tray 23 (40, .getfield 24, 3) rfl rfl) rfl clf_12 (by decide) rfl (by decide) wd_1558,
    st_iload_n hC (n := 24) (k := 1) (dc_X12_tray 24 (43, .iload_n 1, 1) rfl rfl) rfl rfl,
    st_iload_n hC (n := 25) (k := 3) (dc_X12_tray 25 (44, .iload_n 3, 1) rfl rfl) rfl rfl,
    st_iast hC (n := 26) (dc_X12_tray 26 (45, .iastore, 1) rfl rfl) rfl,
    st_iconst hC (n := 27) (x := 0) (dc_X12_tray 27 (46, .iconst 0, 1) rfl rfl) rfl (by decide),
    st_istore hC (n := 28) (dc_X12_tray 28 (47, .istore 4, 2) rfl rfl) rfl (by decide),
    st_iload hC (n := 29) (dc_X12_tray 29 (49, .iload 4, 2) rfl rfl) rfl,
    st_iload_n hC (n := 30) (k := 3) (dc_X12_tray 30 (51, .iload_n 3, 1) rfl rfl) rfl rfl,
    st_icge hC (n := 31) (dc_X12_tray 31 (52, .if_icmp .ge 22, 3) rfl rfl) rfl (by decide),
    st_aload_n hC (n := 32) (k := 0) (dc_X12_tray 32 (55, .aload_n 0, 1) rfl rfl) rfl rfl,
    st_getR hC (n := 33) (k := 12) (j := 7) (dc_X12_tray 33 (56, .getfield 27, 3) rfl rfl) rfl clf_12 (by decide) rfl (by decide) wd_1559,
    st_bipush hC (n := 34) (x := 60) (dc_X12_tray 34 (59, .bipush 60, 2) rfl rfl) rfl (by decide),
    st_iload_n hC (n := 35) (k := 1) (dc_X12_tray 35 (61, .iload_n 1, 1) rfl rfl) rfl rfl,
    st_imul hC (n := 36) (dc_X12_tray 36 (62, .imul, 1) rfl rfl) rfl,
    st_iload hC (n := 37) (dc_X12_tray 37 (63, .iload 4, 2) rfl rfl) rfl,
    st_iadd hC (n := 38) (dc_X12_tray 38 (65, .iadd, 1) rfl rfl) rfl,
    st_lconst hC (n := 39) (x := 0) (dc_X12_tray 39 (66, .lconst 0, 1) rfl rfl) rfl (by decide),
    st_last hC (n := 40) (dc_X12_tray 40 (67, .lastore, 1) rfl rfl) rfl,
    st_iinc hC (n := 41) (x := 1) (dc_X12_tray 41 (68, .iinc 4 1, 3) rfl rfl) rfl (by decide) (by decide),
    st_goto hC (n := 42) (dc_X12_tray 42 (71, .goto (-22), 3) rfl rfl) (by decide),
    st_aload_n hC (n := 43) (k := 0) (dc_X12_tray 43 (74, .aload_n 0, 1) rfl rfl) rfl rfl,
    st_iconst hC (n := 44) (x := 0) (dc_X12_tray 44 (75, .iconst 0, 1) rfl rfl) rfl (by decide),
    st_callV hC (n := 45) (k := 12) (na := 1) (con_X12_is l) (dc_X12_tray 45 (76, .invokevirtual 94, 3) rfl rfl) rfl wd_1698 wd_160 (by decide) ⟨rfl, rfl, by decide, by decide⟩ hM wd_1695 wd_1697 wd_51 clf_12,
    st_zret hC (n := 46) hR (dc_X12_tray 46 (79, .ireturn, 1) rfl rfl), trivial⟩
set_option maxRecDepth 8000 in
theorem vc_X12_tray : VC P_X12_tray 5 Pre_X12_tray Fn_X12_tray := by
  rintro mm as hom hoa ⟨x, s, n, rfl⟩
  refine ⟨Nat.le_of_ble_eq_true rfl, fun X h => ?_⟩
  have no : ¬ tyP x s n → X 13 [some (vR 12 0), some (vI (x)), some (vI (s)), some (vI (n)), none] [] mm := by
    intro hc
    show X 13 [some (vR 12 0), some (vI x), some (vI s), some (vI n), none] [] mm
    refine h (fun _ => false) 3000 13 _ _ _ ?_
    refine And.intro ⟨_, rfl⟩ ?_
    refine And.intro bI_in ?_
    show ((some (vI (bI (1 = 0))) : Option MV), stM mm 1) = _
    exact (if_neg hc).symm
  have yes : tyP x s n → X 17 [some (vR 12 0), some (vI (x)), some (vI (s)), some (vI (n)), none] [] mm := by
    intro hc
    have eF : Fn_X12_tray mm [vR 12 0, vI x, vI s, vI n] = (some (vI 1), stM (tyM mm x.toNatClampNeg s n) 0) := if_pos hc
    obtain ⟨t, ht, rfl⟩ := tr_in hc.1
    obtain ⟨k, hk, rfl⟩ := nI_of2 (n := 60) (by decide) hc.2.2.2.1 hc.2.2.2.2
    have et : (nI t).toNatClampNeg = t := nI_clamp (by omega)
    rw [eF, et] at h
    unfold tyM at h
    rw [nI_clamp (show k < 2 ^ 31 by omega)] at h
    have loop : ∀ i, i ≤ k → X 29 [some (vR 12 0), some (vI (nI t)), some (vI (s)), some (vI (nI k)), some (vI (nI i))] [] (mRowL (mRow (mRow mm 56 0 (upd (mm.1 56 0) t s)) 57 0 (upd (mm.1 57 0) t (nI k))) 58 0 (zfR (mm.2.1 58 0) t i)) := by
      refine up_ind k ?_ (fun i hi ih => ?_)
      ·
        show X 29 [some (vR 12 0), some (vI (nI t)), some (vI s), some (vI (nI k)), some (vI (nI k))] [] (mRowL (mRow (mRow mm 56 0 (upd (mm.1 56 0) t s)) 57 0 (upd (mm.1 57 0) t (nI k))) 58 0 (zfR (mm.2.1 58 0) t k))
        refine h (fun _ => false) 3000 29 _ _ _ ?_
        refine br_t (nI_le (by omega) (by omega)) ?_
        refine And.intro ⟨_, rfl⟩ ?_
        refine And.intro bI_in ?_
        show ((some (vI (bI (0 = 0))) : Option MV), stM (mRowL (mRow (mRow mm 56 0 (upd (mm.1 56 0) t s)) 57 0 (upd (mm.1 57 0) t (nI k))) 58 0 (zfR (mm.2.1 58 0) t k)) 0) = _
        exact rfl
      · have x1 : (60 * nI t + nI i).toNatClampNeg = 60 * t + i := by simp (disch := omega) only [li, pk_mul, nI_add, nI_clamp]
        show X 29 [some (vR 12 0), some (vI (nI t)), some (vI s), some (vI (nI k)), some (vI (nI i))] [] (mRowL (mRow (mRow mm 56 0 (upd (mm.1 56 0) t s)) 57 0 (upd (mm.1 57 0) t (nI k))) 58 0 (zfR (mm.2.1 58 0) t i))
        refine h (fun i => Nat.beq i 29) 3000 29 _ _ _ ?_
        refine br_f (nI_ge hi (by omega)) ?_
        refine And.intro (inb_o 240 rfl rfl (show (60 * (nI t)) + (nI i) = nI ((60 * ( t)) + ( i)) by simp (disch := omega) only [li, pk_mul, nI_add, nI_clamp]) (by omega)) ?_
        show X 29 [some (vR 12 0), some (vI (nI t)), some (vI s), some (vI (nI k)), some (vI ((nI i) + 1))] [] (mRowL (mRowL (mRow (mRow mm 56 0 (upd (mm.1 56 0) t s)) 57 0 (upd (mm.1 57 0) t (nI k))) 58 0 (zfR (mm.2.1 58 0) t i)) 58 0 (vp_updL ((mRowL (mRow (mRow mm 56 0 (upd (mm.1 56 0) t s)) 57 0 (upd (mm.1 57 0) t (nI k))) 58 0 (zfR (mm.2.1 58 0) t i)).2.1 58 0) ((60 * (nI t)) + (nI i)).toNatClampNeg 0))
        rw [nI_1, x1]
        show X 29 _ _ (mRowL (mRowL (mRow (mRow mm 56 0 (upd (mm.1 56 0) t s)) 57 0 (upd (mm.1 57 0) t (nI k))) 58 0 (zfR (mm.2.1 58 0) t i)) 58 0 (zfR (mm.2.1 58 0) t (i + 1))) 
        rw [mRowL2] 
        exact ih
    have l0 := loop 0 (by omega)
    have e0 : mRowL (mRow (mRow mm 56 0 (upd (mm.1 56 0) t s)) 57 0 (upd (mm.1 57 0) t (nI k))) 58 0 (zfR (mm.2.1 58 0) t 0) = mRow (mRow mm 56 0 (upd (mm.1 56 0) t s)) 57 0 (upd (mm.1 57 0) t (nI k)) := mRowL_self (mRow (mRow mm 56 0 (upd (mm.1 56 0) t s)) 57 0 (upd (mm.1 57 0) t (nI k))) 58 0
    rw [e0] at l0
    show X 17 [some (vR 12 0), some (vI (nI t)), some (vI s), some (vI (nI k)), none] [] mm
    refine h (fun i => Nat.beq i 29) 3000 17 _ _ _ ?_
    refine And.intro (inb_o 4 rfl rfl rfl (by omega)) ?_
    refine And.intro (inb_o 4 rfl rfl rfl (by omega)) ?_
    show X 29 [some (vR 12 0), some (vI (nI t)), some (vI s), some (vI (nI k)), some (vI 0)] [] (mRow (mRow mm 56 0 (upd (mm.1 56 0) (nI t).toNatClampNeg s)) 57 0 (upd ((mRow mm 56 0 (upd (mm.1 56 0) (nI t).toNatClampNeg s)).1 57 0) (nI t).toNatClampNeg (nI k)))
    rw [et]
    exact l0
  show X 0 [some (vR 12 0), some (vI x), some (vI s), some (vI n), none] [] mm
  refine h (fun i => Nat.beq i 13 || Nat.beq i 17) 3000 0 _ _ _ ?_
  refine And.intro ⟨_, rfl⟩ ?_
  refine br_c (fun b2 => ?_) (fun b2 => ?_)
  · -- 2: bI (¬ x < 0 ∧ ¬ 4 ≤ x) = 0 taken
    replace b2 : ¬ (¬ x < 0 ∧ ¬ 4 ≤ x) := bI_0.mp b2
    show X 13 [some (vR 12 0), some (vI x), some (vI s), some (vI n), none] [] mm
    exact no (fun z => b2 z.1)
  · -- 2: bI (¬ x < 0 ∧ ¬ 4 ≤ x) = 0 on
    replace b2 : ¬ x < 0 ∧ ¬ 4 ≤ x := bI_n0.mp b2
    refine br_c (fun b4 => ?_) (fun b4 => ?_)
    · -- 4: s < 0 taken
      replace b4 : s < 0 := b4
      show X 13 [some (vR 12 0), some (vI x), some (vI s), some (vI n), none] [] mm
      exact no (fun z => z.2.1 b4)
    · -- 4: s < 0 on
      replace b4 : ¬ (s < 0) := b4
      refine br_c (fun b7 => ?_) (fun b7 => ?_)
      · -- 7: 3 < s taken
        replace b7 : 3 < s := b7
        show X 13 [some (vR 12 0), some (vI x), some (vI s), some (vI n), none] [] mm
        exact no (fun z => Int32.not_le.mpr b7 z.2.2.1)
      · -- 7: 3 < s on
        replace b7 : ¬ (3 < s) := b7
        refine br_c (fun b9 => ?_) (fun b9 => ?_)
        · -- 9: n < 0 taken
          replace b9 : n < 0 := b9
          show X 13 [some (vR 12 0), some (vI x), some (vI s), some (vI n), none] [] mm
          exact no (fun z => z.2.2.2.1 b9)
        · -- 9: n < 0 on
          replace b9 : ¬ (n < 0) := b9
          refine br_c (fun b12 => ?_) (fun b12 => ?_)
          · -- 12: n ≤ 60 taken
            replace b12 : n ≤ 60 := b12
            show X 17 [some (vR 12 0), some (vI x), some (vI s), some (vI n), none] [] mm
            exact yes ⟨b2, b4, Int32.not_lt.mp b7, b9, b12⟩
          · -- 12: n ≤ 60 on
            replace b12 : ¬ (n ≤ 60) := b12
            show X 13 [some (vR 12 0), some (vI x), some (vI s), some (vI n), none] [] mm
            exact no (fun z => b12 z.2.2.2.2)
theorem con_X12_tray (l : Launch) : CON l y_X12_tray prog_14_method_14_code 5 (some .boolean) rm_X12_tray Pre_X12_tray Fn_X12_tray := CON_of (by decide) rfl rfl (sa_X12_tray l) vc_X12_tray
def wpT (m : MM) (x p : Int32) : Int32 := if trP x then (if m.1 57 0 x.toNatClampNeg = -1 then 2 else if ¬ p < 0 ∧ p < m.1 57 0 x.toNatClampNeg then 0 else 3) else 1
theorem wpT_0 {m : MM} {x p : Int32} (hT : TRo m) (h : wpT m x p ≤ 0) : ∃ t q : Nat, t < 4 ∧ x = nI t ∧ q < 60 ∧ p = nI q := by
  unfold wpT at h
  split at h
  · rename_i hx
    obtain ⟨t, ht, rfl⟩ := tr_in hx
    rw [nI_clamp (show t < 2 ^ 31 by omega)] at h
    split at h
    · exact absurd h (by decide)
    · rename_i h1
      split at h
      · rename_i h2
        rcases hT t ht with e | ⟨q, hq, e⟩
        · exact absurd e h1
        · rw [e] at h2
          obtain ⟨j, hj, rfl⟩ := arg_in h2.1 (Int32.not_le.mpr h2.2) (by omega)
          exact ⟨t, j, ht, rfl, by omega, rfl⟩
      · exact absurd h (by decide)
  · exact absurd h (by decide)
theorem wpT_le {m : MM} {x p : Int32} : 0 ≤ wpT m x p := by
  unfold wpT
  repeat' split
  all_goals decide

--tpl ⟨_, _, rfl⟩ || wpT {m} {1} {2}
def Pre_X12_wrongPlace : PreT := fun _ as => ∃ x p : Int32, as = [vR 12 0, vI x, vI p]
def Fn_X12_wrongPlace : FnT := fun m as => match as with
  | [_, Sum.inl x, Sum.inl p] => (some (vI (wpT m x p)), m)
  | _ => (none, m)
abbrev y_X12_wrongPlace : MethodName := ⟨"GivenUpModel", "wrongPlace", "(II)I"⟩
def P_X12_wrongPlace : List StpT := [s_iload 1, s_callS 1 Pre_X12_isTray Fn_X12_isTray, s_ifne 5, s_ic (1), s_goto 24, s_aload 0, s_getR 12 6 57, s_iload 1, s_iald, s_ic (-1), s_icne 13, s_ic (2), s_goto 24, s_iload 2, s_iflt 21, s_iload 2, s_aload 0, s_getR 12 6 57, s_iload 1, s_iald, s_iclt 23, s_ic (3), s_goto 24, s_ic (0), s_iret]
def pc_X12_wrongPlace : Nat → Nat := fun i => [0, 1, 4, 7, 8, 11, 12, 15, 16, 17, 18, 21, 22, 25, 26, 29, 30, 31, 34, 35, 36, 39, 40, 43, 44].getD i 0
def dl_X12_wrongPlace : List (Nat × Instr × Nat) := [(0, .iload_n 1, 1), (1, .invokestatic 98, 3), (4, .ifCond .ne 7, 3), (7, .iconst 1, 1), (8, .goto 36, 3), (11, .aload_n 0, 1), (12, .getfield 24, 3), (15, .iload_n 1, 1), (16, .iaload, 1), (17, .iconst (-1), 1), (18, .if_icmp .ne 7, 3), (21, .iconst 2, 1), (22, .goto 22, 3), (25, .iload_n 2, 1), (26, .ifCond .lt 13, 3), (29, .iload_n 2, 1), (30, .aload_n 0, 1), (31, .getfield 24, 3), (34, .iload_n 1, 1), (35, .iaload, 1), (36, .if_icmp .lt 7, 3), (39, .iconst 3, 1), (40, .goto 4, 3), (43, .iconst 0, 1), (44, .ireturn, 1)]
theorem dc_X12_wrongPlace : DEC prog_14_method_15_code pc_X12_wrongPlace dl_X12_wrongPlace := DEC_of (by decide +kernel)
abbrev rm_X12_wrongPlace : Room := { frames := 1, cells := 0, slots := 0, locals := 20 }
set_option maxRecDepth 20000 in
theorem sa_X12_wrongPlace (l : Launch) : SNDALL l prog_14_method_15_code "GivenUpModel" 3 (some .int) rm_X12_wrongPlace P_X12_wrongPlace pc_X12_wrongPlace := fun p e s m args below meth c cells slots Q D dA ad A RR hC hR => by
  have hM := RTX_room (R := rm_X12_wrongPlace) hR
  exact ⟨st_iload_n hC (n := 0) (k := 1) (dc_X12_wrongPlace 0 (0, .iload_n 1, 1) rfl rfl) rfl rfl,
    st_callS hC (n := 1) (na := 1) (con_X12_isTray l) (dc_X12_wrongPlace 1 (1, .invokestatic 98, 3) rfl rfl) rfl wd_1694 wd_160 (by decide) ⟨rfl, rfl, by decide, by decide⟩ hM wd_1692 wd_1693,
    st_ifne hC (n := 2) (dc_X12_wrongPlace 2 (4, .ifCond .ne 7, 3) rfl rfl) rfl (by decide),
    st_iconst hC (n := 3) (x := 1) (dc_X12_wrongPlace 3 (7, .iconst 1, 1) rfl rfl) rfl (by decide),
    st_goto hC (n := 4) (dc_X12_wrongPlace 4 (8, .goto 36, 3) rfl rfl) (by decide),
    st_aload_n hC (n := 5) (k := 0) (dc_X12_wrongPlace 5 (11, .aload_n 0, 1) rfl rfl) rfl rfl,
    st_getR hC (n := 6) (k := 12) (j := 6) (dc_X12_wrongPlace 6 (12, .getfield 24, 3) rfl rfl) rfl clf_12 (by decide) rfl (by decide) wd_1558,
    st_iload_n hC (n := 7) (k := 1) (dc_X12_wrongPlace 7 (15, .iload_n 1, 1) rfl rfl) rfl rfl,
    st_iald hC (n := 8) (dc_X12_wrongPlace 8 (16, .iaload, 1) rfl rfl) rfl,
    st_iconst hC (n := 9) (x := (-1)) (dc_X12_wrongPlace 9 (17, .iconst (-1), 1) rfl rfl) rfl (by decide),
    st_icne hC (n := 10) (dc_X12_wrongPlace 10 (18, .if_icmp .ne 7, 3) rfl rfl) rfl (by decide),
    st_iconst hC (n := 11) (x := 2) (dc_X12_wrongPlace 11 (21, .iconst 2, 1) rfl rfl) rfl (by decide),
    st_goto hC (n := 12) (dc_X12_wrongPlace 12 (22, .goto 22, 3) rfl rfl) (by decide),
    st_iload_n hC (n := 13) (k := 2) (dc_X12_wrongPlace 13 (25, .iload_n 2, 1) rfl rfl) rfl rfl,
    st_iflt hC (n := 14) (dc_X12_wrongPlace 14 (26, .ifCond .lt 13, 3) rfl rfl) rfl (by decide),
    st_iload_n hC (n := 15) (k := 2) (dc_X12_wrongPlace 15 (29, .iload_n 2, 1) rfl rfl) rfl rfl,
    st_aload_n hC (n := 16) (k := 0) (dc_X12_wrongPlace 16 (30, .aload_n 0, 1) rfl rfl) rfl rfl,
    st_getR hC (n := 17) (k := 12) (j := 6) (dc_X12_wrongPlace 17 (31, .getfield 24, 3) rfl rfl) rfl clf_12 (by decide) rfl (by decide) wd_1558,
    st_iload_n hC (n := 18) (k := 1) (dc_X12_wrongPlace 18 (34, .iload_n 1, 1) rfl rfl) rfl rfl,
    st_iald hC (n := 19) (dc_X12_wrongPlace 19 (35, .iaload, 1) rfl rfl) rfl,
    st_iclt hC (n := 20) (dc_X12_wrongPlace 20 (36, .if_icmp .lt 7, 3) rfl rfl) rfl (by decide),
    st_iconst hC (n := 21) (x := 3) (dc_X12_wrongPlace 21 (39, .iconst 3, 1) rfl rfl) rfl (by decide),
    st_goto hC (n := 22) (dc_X12_wrongPlace 22 (40, .goto 4, 3) rfl rfl) (by decide),
    st_iconst hC (n := 23) (x := 0) (dc_X12_wrongPlace 23 (43, .iconst 0, 1) rfl rfl) rfl (by decide),
    st_iret hC (n := 24) hR (dc_X12_wrongPlace 24 (44, .ireturn, 1) rfl rfl), trivial⟩
set_option maxRecDepth 8000 in
theorem vc_X12_wrongPlace : VC P_X12_wrongPlace 3 Pre_X12_wrongPlace Fn_X12_wrongPlace := by
  rintro mm as hom hoa ⟨x, p, rfl⟩
  refine ⟨Nat.le_of_ble_eq_true rfl, fun X h => ?_⟩
  have hF : Fn_X12_wrongPlace mm [vR 12 0, vI x, vI p] = (some (vI (wpT mm x p)), mm) := rfl
  rw [hF] at h
  unfold wpT at h
  have two : trP x → X 5 [some (vR 12 0), some (vI (x)), some (vI (p))] [] mm := by
    intro hc
    rw [if_pos hc] at h
    obtain ⟨t, ht, rfl⟩ := tr_in hc
    show X 5 [some (vR 12 0), some (vI (nI t)), some (vI p)] [] mm
    refine h (fun _ => false) 3000 5 _ _ _ ?_
    refine And.intro (inb_o 4 rfl rfl rfl (by omega)) ?_
    refine brn_c (fun b10 => ?_) (fun b10 => ?_)
    · -- 10: mm.1 57 0 (nI t).toNatClampNeg = (-1) taken
      replace b10 : ¬ (mm.1 57 0 (nI t).toNatClampNeg = (-1)) := b10
      refine br_c (fun b14 => ?_) (fun b14 => ?_)
      · -- 14: p < 0 taken
        replace b14 : p < 0 := b14
        show ((some (vI 3) : Option MV), mm) = _
        refine leaf ?_
        rw [if_neg b10, if_neg (fun z => z.1 b14)]
      · -- 14: p < 0 on
        replace b14 : ¬ (p < 0) := b14
        refine And.intro (inb_o 4 rfl rfl rfl (by omega)) ?_
        refine br_c (fun b20 => ?_) (fun b20 => ?_)
        · -- 20: p < mm.1 57 0 (nI t).toNatClampNeg taken
          replace b20 : p < mm.1 57 0 (nI t).toNatClampNeg := b20
          show ((some (vI 0) : Option MV), mm) = _
          refine leaf ?_
          rw [if_neg b10, if_pos ⟨b14, b20⟩]
        · -- 20: p < mm.1 57 0 (nI t).toNatClampNeg on
          replace b20 : ¬ (p < mm.1 57 0 (nI t).toNatClampNeg) := b20
          show ((some (vI 3) : Option MV), mm) = _
          refine leaf ?_
          rw [if_neg b10, if_neg (fun z => b20 z.2)]
    · -- 10: mm.1 57 0 (nI t).toNatClampNeg = (-1) on
      replace b10 : mm.1 57 0 (nI t).toNatClampNeg = (-1) := b10
      show ((some (vI 2) : Option MV), mm) = _
      refine leaf ?_
      rw [if_pos b10]
  show X 0 [some (vR 12 0), some (vI x), some (vI p)] [] mm
  refine h (fun i => Nat.beq i 5) 3000 0 _ _ _ ?_
  refine And.intro ⟨_, rfl⟩ ?_
  refine brn_c (fun b2 => ?_) (fun b2 => ?_)
  · -- 2: bI (¬ x < 0 ∧ ¬ 4 ≤ x) = 0 taken
    replace b2 : ¬ x < 0 ∧ ¬ 4 ≤ x := bI_n0.mp b2
    show X 5 [some (vR 12 0), some (vI x), some (vI p)] [] mm
    exact two b2
  · -- 2: bI (¬ x < 0 ∧ ¬ 4 ≤ x) = 0 on
    replace b2 : ¬ (¬ x < 0 ∧ ¬ 4 ≤ x) := bI_0.mp b2
    show ((some (vI 1) : Option MV), mm) = _
    rw [if_neg b2]
theorem con_X12_wrongPlace (l : Launch) : CON l y_X12_wrongPlace prog_14_method_15_code 3 (some .int) rm_X12_wrongPlace Pre_X12_wrongPlace Fn_X12_wrongPlace := CON_of (by decide) rfl rfl (sa_X12_wrongPlace l) vc_X12_wrongPlace
def Pre_X12_write : PreT := fun m as => TRo m ∧ ∃ (x p : Int32) (v : Int64), as = [vR 12 0, vI x, vI p, vL v]
def wrM (m : MM) (x p : Int32) (v : Int64) : MM := mRowL m 58 0 (vp_updL (m.2.1 58 0) (60 * x.toNatClampNeg + p.toNatClampNeg) (cutV v (m.1 56 0 x.toNatClampNeg)))
def Fn_X12_write : FnT := fun m as => match as with
  | [_, Sum.inl x, Sum.inl p, Sum.inr (Sum.inl v)] => (some (vI (bI (wpT m x p = 0))), stM (mite (wpT m x p = 0) (wrM m x p v) m) (wpT m x p))
  | _ => (none, m)
abbrev y_X12_write : MethodName := ⟨"GivenUpModel", "write", "(IIJ)Z"⟩
def P_X12_write : List StpT := [s_aload 0, s_iload 1, s_iload 2, s_callV 12 2 Pre_X12_wrongPlace Fn_X12_wrongPlace, s_istore 5, s_iload 5, s_ifne 21, s_aload 0, s_getR 12 7 58, s_ic (60), s_iload 1, s_imul, s_iload 2, s_iadd, s_lload 3, s_aload 0, s_getR 12 5 56, s_iload 1, s_iald, s_callS 2 Pre_X12_cut Fn_X12_cut, s_last, s_aload 0, s_iload 5, s_callV 12 1 Pre_X12_is Fn_X12_is, s_zret]
def pc_X12_write : Nat → Nat := fun i => [0, 1, 2, 3, 6, 8, 10, 13, 14, 17, 19, 20, 21, 22, 23, 24, 25, 28, 29, 30, 33, 34, 35, 37, 40].getD i 0
def dl_X12_write : List (Nat × Instr × Nat) := [(0, .aload_n 0, 1), (1, .iload_n 1, 1), (2, .iload_n 2, 1), (3, .invokevirtual 101, 3), (6, .istore 5, 2), (8, .iload 5, 2), (10, .ifCond .ne 24, 3), (13, .aload_n 0, 1), (14, .getfield 27, 3), (17, .bipush 60, 2), (19, .iload_n 1, 1), (20, .imul, 1), (21, .iload_n 2, 1), (22, .iadd, 1), (23, .lload_n 3, 1), (24, .aload_n 0, 1), (25, .getfield 21, 3), (28, .iload_n 1, 1), (29, .iaload, 1), (30, .invokestatic 105, 3), (33, .lastore, 1), (34, .aload_n 0, 1), (35, .iload 5, 2), (37, .invokevirtual 94, 3), (40, .ireturn, 1)]
theorem dc_X12_write : DEC prog_14_method_16_code pc_X12_write dl_X12_write := DEC_of (by decide +kernel)
abbrev rm_X12_write : Room := { frames := 2, cells := 0, slots := 0, locals := 42 }
set_option maxRecDepth 20000 in
theorem sa_X12_write (l : Launch) : SNDALL l prog_14_method_16_code "GivenUpModel" 6 (some .boolean) rm_X12_write P_X12_write pc_X12_write := fun p e s m args below meth c cells slots Q D dA ad A RR hC hR => by
  have hM := RTX_room (R := rm_X12_write) hR
  exact ⟨st_aload_n hC (n := 0) (k := 0) (dc_X12_write 0 (0, .aload_n 0, 1) rfl rfl) rfl rfl,
    st_iload_n hC (n := 1) (k := 1) (dc_X12_write 1 (1, .iload_n 1, 1) rfl rfl) rfl rfl,
    st_iload_n hC (n := 2) (k := 2) (dc_X12_write 2 (2, .iload_n 2, 1) rfl rfl) rfl rfl,
    st_callV hC (n := 3) (k := 12) (na := 2) (con_X12_wrongPlace l) (dc_X12_write 3 (3, .invokevirtual 101, 3) rfl rfl) rfl wd_1706 wd_160 (by decide) ⟨rfl, rfl, by decide, by decide⟩ hM wd_1703 wd_1705 wd_52 clf_12,
    st_istore hC (n := 4) (dc_X12_write 4 (6, .istore 5, 2) rfl rfl) rfl (by decide),
    st_iload hC (n := 5) (dc_X12_write 5 (8, .iload 5, 2) rfl rfl) rfl,
    st_ifne hC (n := 6) (dc_X12_write 6 (10, .ifCond .ne 24, 3) rfl rfl) rfl (by decide),
    st_aload_n hC (n := 7) (k := 0) (dc_X12_write 7 (13, .aload_n 0, 1) rfl rfl) rfl rfl,
    st_getR hC (n := 8) (k := 12) (j := 7) (dc_X12_write 8 (14, .getfield 27, 3) rfl rfl) rfl clf_12 (by decide) rfl (by decide) wd_1559,
    st_bipush hC (n := 9) (x := 60) (dc_X12_write 9 (17, .bipush 60, 2) rfl rfl) rfl (by decide),
    st_iload_n hC (n := 10) (k := 1) (dc_X12_write 10 (19, .iload_n 1, 1) rfl rfl) rfl rfl,
    st_imul hC (n := 11) (dc_X12_write 11 (20, .imul, 1) rfl rfl) rfl,
    st_iload_n hC (n := 12) (k := 2) (dc_X12_write 12 (21, .iload_n 2, 1) rfl rfl) rfl rfl,
    st_iadd hC (n := 13) (dc_X12_write 13 (22, .iadd, 1) rfl rfl) rfl,
    st_lload_n hC (n := 14) (k := 3) (dc_X12_write 14 (23, .lload_n 3, 1) rfl rfl) rfl rfl,
    st_aload_n hC (n := 15) (k := 0) (dc_X12_write 15 (24, .aload_n 0, 1) rfl rfl) rfl rfl,
    st_getR hC (n := 16) (k := 12) (j := 5) (dc_X12_write 16 (25, .getfield 21, 3) rfl rfl) rfl clf_12 (by decide) rfl (by decide) wd_1557,
    st_iload_n hC (n := 17) (k := 1) (dc_X12_write 17 (28, .iload_n 1, 1) rfl rfl) rfl rfl,
    st_iald hC (n := 18) (dc_X12_write 18 (29, .iaload, 1) rfl rfl) rfl,
    st_callS hC (n := 19) (na := 2) (con_X12_cut l) (dc_X12_write 19 (30, .invokestatic 105, 3) rfl rfl) rfl wd_1709 wd_160 (by decide) ⟨rfl, rfl, by decide, by decide⟩ hM wd_1707 wd_1708,
    st_last hC (n := 20) (dc_X12_write 20 (33, .lastore, 1) rfl rfl) rfl,
    st_aload_n hC (n := 21) (k := 0) (dc_X12_write 21 (34, .aload_n 0, 1) rfl rfl) rfl rfl,
    st_iload hC (n := 22) (dc_X12_write 22 (35, .iload 5, 2) rfl rfl) rfl,
    st_callV hC (n := 23) (k := 12) (na := 1) (con_X12_is l) (dc_X12_write 23 (37, .invokevirtual 94, 3) rfl rfl) rfl wd_1698 wd_160 (by decide) ⟨rfl, rfl, by decide, by decide⟩ hM wd_1695 wd_1697 wd_51 clf_12,
    st_zret hC (n := 24) hR (dc_X12_write 24 (40, .ireturn, 1) rfl rfl), trivial⟩
set_option maxRecDepth 8000 in
theorem vc_X12_write : VC P_X12_write 6 Pre_X12_write Fn_X12_write := by
  rintro mm as hom hoa ⟨hT, x, p, v, rfl⟩
  refine ⟨Nat.le_of_ble_eq_true rfl, fun X h => ?_⟩
  have hF : Fn_X12_write mm [vR 12 0, vI x, vI p, vL v] = (some (vI (bI (wpT mm x p = 0))), stM (mite (wpT mm x p = 0) (wrM mm x p v) mm) (wpT mm x p)) := rfl
  rw [hF] at h
  have yes : wpT mm x p = 0 → X 7 [some (vR 12 0), some (vI (x)), some (vI (p)), some (vL (v)), none, some (vI (wpT mm x p))] [] mm := by
    intro hc
    rw [mite_t hc] at h
    obtain ⟨t, q, ht, rfl, hq, rfl⟩ := wpT_0 hT (by rw [hc]; decide)
    have x1 : (60 * nI t + nI q).toNatClampNeg = 60 * (nI t).toNatClampNeg + (nI q).toNatClampNeg := by simp (disch := omega) only [li, pk_mul, nI_add, nI_clamp]
    show X 7 [some (vR 12 0), some (vI (nI t)), some (vI (nI q)), some (vL v), none, some (vI (wpT mm (nI t) (nI q)))] [] mm
    refine h (fun i => Nat.beq i 21) 3000 7 _ _ _ ?_
    refine And.intro (inb_o 4 rfl rfl rfl (by omega)) ?_
    refine And.intro ⟨_, _, rfl⟩ ?_
    refine And.intro (inb_o 240 rfl rfl (show (60 * (nI t)) + (nI q) = nI ((60 * ( t)) + ( q)) by simp (disch := omega) only [li, pk_mul, nI_add, nI_clamp]) (by omega)) ?_
    show X 21 [some (vR 12 0), some (vI (nI t)), some (vI (nI q)), some (vL v), none, some (vI (wpT mm (nI t) (nI q)))] [] (mRowL mm 58 0 (vp_updL (mm.2.1 58 0) ((60 * (nI t)) + (nI q)).toNatClampNeg (cutV v (mm.1 56 0 (nI t).toNatClampNeg))))
    rw [x1]
    exact (h (fun _ => false) 3000 21 _ _ _ (And.intro ⟨_, rfl⟩ (And.intro bI_in rfl)))
  show X 0 [some (vR 12 0), some (vI x), some (vI p), some (vL v), none, none] [] mm
  refine h (fun i => Nat.beq i 7) 3000 0 _ _ _ ?_
  refine And.intro ⟨_, _, rfl⟩ ?_
  refine brn_c (fun b6 => ?_) (fun b6 => ?_)
  · -- 6: wpT mm x p = 0 taken
    replace b6 : ¬ (wpT mm x p = 0) := b6
    refine And.intro ⟨_, rfl⟩ ?_
    refine And.intro bI_in ?_
    show ((some (vI (bI ((wpT mm x p) = 0))) : Option MV), stM mm (wpT mm x p)) = _
    rw [mite_f b6]
  · -- 6: wpT mm x p = 0 on
    replace b6 : wpT mm x p = 0 := b6
    show X 7 [some (vR 12 0), some (vI x), some (vI p), some (vL v), none, some (vI (wpT mm x p))] [] mm
    exact yes b6
theorem con_X12_write (l : Launch) : CON l y_X12_write prog_14_method_16_code 6 (some .boolean) rm_X12_write Pre_X12_write Fn_X12_write := CON_of (by decide) rfl rfl (sa_X12_write l) vc_X12_write
def Pre_X12_read : PreT := fun m as => TRo m ∧ ∃ x p : Int32, as = [vR 12 0, vI x, vI p]
def Fn_X12_read : FnT := fun m as => match as with
  | [_, Sum.inl x, Sum.inl p] => (some (vL (if wpT m x p ≤ 0 then m.2.1 58 0 (60 * x.toNatClampNeg + p.toNatClampNeg) else -1)), stM m (wpT m x p))
  | _ => (none, m)
abbrev y_X12_read : MethodName := ⟨"GivenUpModel", "read", "(II)J"⟩
def P_X12_read : List StpT := [s_aload 0, s_aload 0, s_iload 1, s_iload 2, s_callV 12 2 Pre_X12_wrongPlace Fn_X12_wrongPlace, s_putI 12 2, s_aload 0, s_getI 12 2, s_ifle 11, s_lc (-1), s_goto 19, s_aload 0, s_getR 12 7 58, s_ic (60), s_iload 1, s_imul, s_iload 2, s_iadd, s_lald, s_lret]
def pc_X12_read : Nat → Nat := fun i => [0, 1, 2, 3, 4, 7, 10, 11, 14, 17, 20, 23, 24, 27, 29, 30, 31, 32, 33, 34].getD i 0
def dl_X12_read : List (Nat × Instr × Nat) := [(0, .aload_n 0, 1), (1, .aload_n 0, 1), (2, .iload_n 1, 1), (3, .iload_n 2, 1), (4, .invokevirtual 101, 3), (7, .putfield 81, 3), (10, .aload_n 0, 1), (11, .getfield 81, 3), (14, .ifCond .le 9, 3), (17, .ldc2_w 109, 3), (20, .goto 14, 3), (23, .aload_n 0, 1), (24, .getfield 27, 3), (27, .bipush 60, 2), (29, .iload_n 1, 1), (30, .imul, 1), (31, .iload_n 2, 1), (32, .iadd, 1), (33, .laload, 1), (34, .lreturn, 1)]
theorem dc_X12_read : DEC prog_14_method_17_code pc_X12_read dl_X12_read := DEC_of (by decide +kernel)
abbrev rm_X12_read : Room := { frames := 2, cells := 0, slots := 0, locals := 42 }
set_option maxRecDepth 20000 in
theorem sa_X12_read (l : Launch) : SNDALL l prog_14_method_17_code "GivenUpModel" 3 (some .long) rm_X12_read P_X12_read pc_X12_read := fun p e s m args below meth c cells slots Q D dA ad A RR hC hR => by
  have hM := RTX_room (R := rm_X12_read) hR
  exact ⟨st_aload_n hC (n := 0) (k := 0) (dc_X12_read 0 (0, .aload_n 0, 1) rfl rfl) rfl rfl,
    st_aload_n hC (n := 1) (k := 0) (dc_X12_read 1 (1, .aload_n 0, 1) rfl rfl) rfl rfl,
    st_iload_n hC (n := 2) (k := 1) (dc_X12_read 2 (2, .iload_n 1, 1) rfl rfl) rfl rfl,
    st_iload_n hC (n := 3) (k := 2) (dc_X12_read 3 (3, .iload_n 2, 1) rfl rfl) rfl rfl,
    st_callV hC (n := 4) (k := 12) (na := 2) (con_X12_wrongPlace l) (dc_X12_read 4 (4, .invokevirtual 101, 3) rfl rfl) rfl wd_1706 wd_160 (by decide) ⟨rfl, rfl, by decide, by decide⟩ hM wd_1703 wd_1705 wd_52 clf_12,
    st_putI hC (n := 5) (k := 12) (j := 2) (dc_X12_read 5 (7, .putfield 81, 3) rfl rfl) rfl clf_12 (by decide) rfl rfl rfl wd_1554,
    st_aload_n hC (n := 6) (k := 0) (dc_X12_read 6 (10, .aload_n 0, 1) rfl rfl) rfl rfl,
    st_getI hC (n := 7) (k := 12) (j := 2) (dc_X12_read 7 (11, .getfield 81, 3) rfl rfl) rfl clf_12 (by decide) rfl wd_1554,
    st_ifle hC (n := 8) (dc_X12_read 8 (14, .ifCond .le 9, 3) rfl rfl) rfl (by decide),
    st_ldc2 hC (n := 9) (x := (-1)) (dc_X12_read 9 (17, .ldc2_w 109, 3) rfl rfl) rfl wd_1714,
    st_goto hC (n := 10) (dc_X12_read 10 (20, .goto 14, 3) rfl rfl) (by decide),
    st_aload_n hC (n := 11) (k := 0) (dc_X12_read 11 (23, .aload_n 0, 1) rfl rfl) rfl rfl,
    st_getR hC (n := 12) (k := 12) (j := 7) (dc_X12_read 12 (24, .getfield 27, 3) rfl rfl) rfl clf_12 (by decide) rfl (by decide) wd_1559,
    st_bipush hC (n := 13) (x := 60) (dc_X12_read 13 (27, .bipush 60, 2) rfl rfl) rfl (by decide),
    st_iload_n hC (n := 14) (k := 1) (dc_X12_read 14 (29, .iload_n 1, 1) rfl rfl) rfl rfl,
    st_imul hC (n := 15) (dc_X12_read 15 (30, .imul, 1) rfl rfl) rfl,
    st_iload_n hC (n := 16) (k := 2) (dc_X12_read 16 (31, .iload_n 2, 1) rfl rfl) rfl rfl,
    st_iadd hC (n := 17) (dc_X12_read 17 (32, .iadd, 1) rfl rfl) rfl,
    st_lald hC (n := 18) (dc_X12_read 18 (33, .laload, 1) rfl rfl) rfl,
    st_lret hC (n := 19) hR (dc_X12_read 19 (34, .lreturn, 1) rfl rfl), trivial⟩
set_option maxRecDepth 8000 in
theorem vc_X12_read : VC P_X12_read 3 Pre_X12_read Fn_X12_read := by
  rintro mm as hom hoa ⟨hT, x, p, rfl⟩
  refine ⟨Nat.le_of_ble_eq_true rfl, fun X h => ?_⟩
  have hF : Fn_X12_read mm [vR 12 0, vI x, vI p] = (some (vL (if wpT mm x p ≤ 0 then mm.2.1 58 0 (60 * x.toNatClampNeg + p.toNatClampNeg) else -1)), stM mm (wpT mm x p)) := rfl
  rw [hF] at h
  have yes : wpT mm x p ≤ 0 → X 11 [some (vR 12 0), some (vI (x)), some (vI (p))] [] (stM mm (wpT mm x p)) := by
    intro hc
    rw [if_pos hc] at h
    obtain ⟨t, q, ht, rfl, hq, rfl⟩ := wpT_0 hT hc
    have x1 : (60 * nI t + nI q).toNatClampNeg = 60 * (nI t).toNatClampNeg + (nI q).toNatClampNeg := by simp (disch := omega) only [li, pk_mul, nI_add, nI_clamp]
    show X 11 [some (vR 12 0), some (vI (nI t)), some (vI (nI q))] [] (stM mm (wpT mm (nI t) (nI q)))
    refine h (fun _ => false) 3000 11 _ _ _ ?_
    refine And.intro (inb_o 240 rfl rfl (show (60 * (nI t)) + (nI q) = nI ((60 * ( t)) + ( q)) by simp (disch := omega) only [li, pk_mul, nI_add, nI_clamp]) (by omega)) ?_
    show ((some (vL ((stM mm (wpT mm (nI t) (nI q))).2.1 58 0 ((60 * (nI t)) + (nI q)).toNatClampNeg)) : Option MV), stM mm (wpT mm (nI t) (nI q))) = _
    rw [← x1]
    exact rfl
  show X 0 [some (vR 12 0), some (vI x), some (vI p)] [] mm
  refine h (fun i => Nat.beq i 11) 3000 0 _ _ _ ?_
  refine And.intro ⟨_, _, rfl⟩ ?_
  refine br_c (fun b8 => ?_) (fun b8 => ?_)
  · -- 8: (mI mm 12 0 2 (wpT mm x p)).1 12 0 2 ≤ 0 taken
    replace b8 : (mI mm 12 0 2 (wpT mm x p)).1 12 0 2 ≤ 0 := b8
    show X 11 [some (vR 12 0), some (vI x), some (vI p)] [] (mI mm 12 0 2 (wpT mm x p))
    exact yes b8
  · -- 8: (mI mm 12 0 2 (wpT mm x p)).1 12 0 2 ≤ 0 on
    replace b8 : ¬ ((mI mm 12 0 2 (wpT mm x p)).1 12 0 2 ≤ 0) := b8
    replace b8 : ¬ wpT mm x p ≤ 0 := b8
    show ((some (vL (-1)) : Option MV), mI mm 12 0 2 (wpT mm x p)) = _
    refine leaf ?_
    rw [if_neg b8] 
    exact rfl
theorem con_X12_read (l : Launch) : CON l y_X12_read prog_14_method_17_code 3 (some .long) rm_X12_read Pre_X12_read Fn_X12_read := CON_of (by decide) rfl rfl (sa_X12_read l) vc_X12_read
/-- what stands in a row once n NUMBERS were poured; the places to pour in their order -/
def poK (p q n i : Nat) : Nat := if p < q then n - 1 - i else i
def poR (o : Nat → Int64) (f t p q n : Nat) : Nat → (Nat → Int64)
  | 0 => o
  | i + 1 => vp_updL (poR o f t p q n i) (60 * t + q + poK p q n i) (poR o f t p q n i (60 * f + p + poK p q n i))
def poF (m : MM) (x p y q n : Int32) : Int32 := if trP x ∧ trP y ∧ ¬ p < 0 ∧ ¬ q < 0 ∧ 0 ≤ n then (if m.1 57 0 x.toNatClampNeg = -1 ∨ m.1 57 0 y.toNatClampNeg = -1 then 2 else if m.1 56 0 x.toNatClampNeg = m.1 56 0 y.toNatClampNeg then (if m.1 57 0 x.toNatClampNeg - p < n ∨ m.1 57 0 y.toNatClampNeg - q < n then 3 else 0) else 8) else 1
def poM (m : MM) (x p y q n : Int32) : MM := mRowL m 58 0 (poR (m.2.1 58 0) x.toNatClampNeg y.toNatClampNeg p.toNatClampNeg q.toNatClampNeg n.toNatClampNeg n.toNatClampNeg)

def Pre_X12_pour : PreT := fun m as => TRo m ∧ ∃ x p y q n : Int32, as = [vR 12 0, vI x, vI p, vI y, vI q, vI n]
def Fn_X12_pour : FnT := fun m as => match as with
  | [_, Sum.inl x, Sum.inl p, Sum.inl y, Sum.inl q, Sum.inl n] => (some (vI (bI (poF m x p y q n = 0))), stM (mite (poF m x p y q n = 0) (poM m x p y q n) m) (poF m x p y q n))
  | _ => (none, m)
abbrev y_X12_pour : MethodName := ⟨"GivenUpModel", "pour", "(IIIII)Z"⟩
def P_X12_pour : List StpT := [s_iload 1, s_callS 1 Pre_X12_isTray Fn_X12_isTray, s_ifeq 12, s_iload 3, s_callS 1 Pre_X12_isTray Fn_X12_isTray, s_ifeq 12, s_iload 2, s_iflt 12, s_iload 4, s_iflt 12, s_iload 5, s_ifge 16, s_aload 0, s_ic (1), s_callV 12 1 Pre_X12_is Fn_X12_is, s_zret, s_aload 0, s_getR 12 6 57, s_iload 1, s_iald, s_ic (-1), s_iceq 28, s_aload 0, s_getR 12 6 57, s_iload 3, s_iald, s_ic (-1), s_icne 32, s_aload 0, s_ic (2), s_callV 12 1 Pre_X12_is Fn_X12_is, s_zret, s_aload 0, s_getR 12 5 56, s_iload 1, s_iald, s_aload 0, s_getR 12 5 56, s_iload 3, s_iald, s_iceq 45, s_aload 0, s_ic (8), s_callV 12 1 Pre_X12_is Fn_X12_is, s_zret, s_iload 5, s_aload 0, s_getR 12 6 57, s_iload 1, s_iald, s_iload 2, s_isub, s_icgt 61, s_iload 5, s_aload 0, s_getR 12 6 57, s_iload 3, s_iald, s_iload 4, s_isub, s_icle 65, s_aload 0, s_ic (3), s_callV 12 1 Pre_X12_is Fn_X12_is, s_zret, s_ic (0), s_istore 6, s_iload 6, s_iload 5, s_icge 103, s_iload 2, s_iload 4, s_icge 79, s_iload 5, s_ic (1), s_isub, s_iload 6, s_isub, s_goto 80, s_iload 6, s_istore 7, s_aload 0, s_getR 12 7 58, s_ic (60), s_iload 3, s_imul, s_iload 4, s_iadd, s_iload 7, s_iadd, s_aload 0, s_getR 12 7 58, s_ic (60), s_iload 1, s_imul, s_iload 2, s_iadd, s_iload 7, s_iadd, s_lald, s_last, s_iinc 6 (1), s_goto 67, s_aload 0, s_ic (0), s_callV 12 1 Pre_X12_is Fn_X12_is, s_zret]
def pc_X12_pour : Nat → Nat := fun i => [0, 1, 4, 7, 8, 11, 14, 15, 18, 20, 23, 25, 28, 29, 30, 33, 34, 35, 38, 39, 40, 41, 44, 45, 48, 49, 50, 51, 54, 55, 56, 59, 60, 61, 64, 65, 66, 67, 70, 71, 72, 75, 76, 78, 81, 82, 84, 85, 88, 89, 90, 91, 92, 95, 97, 98, 101, 102, 103, 105, 106, 109, 110, 111, 114, 115, 116, 118, 120, 122, 125, 126, 128, 131, 133, 134, 135, 137, 138, 141, 143, 145, 146, 149, 151, 152, 153, 155, 156, 158, 159, 160, 163, 165, 166, 167, 168, 169, 171, 172, 173, 174, 177, 180, 181, 182, 185].getD i 0
def dl_X12_pour : List (Nat × Instr × Nat) := [(0, .iload_n 1, 1), (1, .invokestatic 98, 3), (4, .ifCond .eq 24, 3), (7, .iload_n 3, 1), (8, .invokestatic 98, 3), (11, .ifCond .eq 17, 3), (14, .iload_n 2, 1), (15, .ifCond .lt 13, 3), (18, .iload 4, 2), (20, .ifCond .lt 8, 3), (23, .iload 5, 2), (25, .ifCond .ge 9, 3), (28, .aload_n 0, 1), (29, .iconst 1, 1), (30, .invokevirtual 94, 3), (33, .ireturn, 1), (34, .aload_n 0, 1), (35, .getfield 24, 3), (38, .iload_n 1, 1), (39, .iaload, 1), (40, .iconst (-1), 1), (41, .if_icmp .eq 13, 3), (44, .aload_n 0, 1), (45, .getfield 24, 3), (48, .iload_n 3, 1), (49, .iaload, 1), (50, .iconst (-1), 1), (51, .if_icmp .ne 9, 3), (54, .aload_n 0, 1), (55, .iconst 2, 1), (56, .invokevirtual 94, 3), (59, .ireturn, 1), (60, .aload_n 0, 1), (61, .getfield 21, 3), (64, .iload_n 1, 1), (65, .iaload, 1), (66, .aload_n 0, 1), (67, .getfield 21, 3), (70, .iload_n 3, 1), (71, .iaload, 1), (72, .if_icmp .eq 10, 3), (75, .aload_n 0, 1), (76, .bipush 8, 2), (78, .invokevirtual 94, 3), (81, .ireturn, 1), (82, .iload 5, 2), (84, .aload_n 0, 1), (85, .getfield 24, 3), (88, .iload_n 1, 1), (89, .iaload, 1), (90, .iload_n 2, 1), (91, .isub, 1), (92, .if_icmp .gt 17, 3), (95, .iload 5, 2), (97, .aload_n 0, 1), (98, .getfield 24, 3), (101, .iload_n 3, 1), (102, .iaload, 1), (103, .iload 4, 2), (105, .isub, 1), (106, .if_icmp .le 9, 3), (109, .aload_n 0, 1), (110, .iconst 3, 1), (111, .invokevirtual 94, 3), (114, .ireturn, 1), (115, .iconst 0, 1), (116, .istore 6, 2), (118, .iload 6, 2), (120, .iload 5, 2), (122, .if_icmp .ge 58, 3), (125, .iload_n 2, 1), (126, .iload 4, 2), (128, .if_icmp .ge 13, 3), (131, .iload 5, 2), (133, .iconst 1, 1), (134, .isub, 1), (135, .iload 6, 2), (137, .isub, 1), (138, .goto 5, 3), (141, .iload 6, 2), (143, .istore 7, 2), (145, .aload_n 0, 1), (146, .getfield 27, 3), (149, .bipush 60, 2), (151, .iload_n 3, 1), (152, .imul, 1), (153, .iload 4, 2), (155, .iadd, 1), (156, .iload 7, 2), (158, .iadd, 1), (159, .aload_n 0, 1), (160, .getfield 27, 3), (163, .bipush 60, 2), (165, .iload_n 1, 1), (166, .imul, 1), (167, .iload_n 2, 1), (168, .iadd, 1), (169, .iload 7, 2), (171, .iadd, 1), (172, .laload, 1), (173, .lastore, 1), (174, .iinc 6 1, 3), (177, .goto (-59), 3), (180, .aload_n 0, 1), (181, .iconst 0, 1), (182, .invokevirtual 94, 3), (185, .ireturn, 1)]
theorem dc_X12_pour : DEC prog_14_method_18_code pc_X12_pour dl_X12_pour := DEC_of (by decide +kernel)
abbrev rm_X12_pour : Room := { frames := 1, cells := 0, slots := 0, locals := 21 }
set_option maxRecDepth 20000 in
theorem sa_X12_pour (l : Launch) : SNDALL l prog_14_method_18_code "GivenUpModel" 8 (some .boolean) rm_X12_pour P_X12_pour pc_X12_pour := fun p e s m args below meth c cells slots Q D dA ad A RR hC hR => by
  have hM := RTX_room (R := rm_X12_pour) hR
  exact ⟨st_iload_n hC (n := 0) (k := 1) (dc_X12_pour 0 (0, .iload_n 1, 1) rfl rfl) rfl rfl,
    st_callS hC (n := 1) (na := 1) (con_X12_isTray l) (dc_X12_pour 1 (1, .invokestatic 98, 3) rfl rfl) rfl wd_1694 wd_160 (by decide) ⟨rfl, rfl, by decide, by decide⟩ hM wd_1692 wd_1693,
    st_ifeq hC (n := 2) (dc_X12_pour 2 (4, .ifCond .eq 24, 3) rfl rfl) rfl (by decide),
    st_iload_n hC (n := 3) (k := 3) (dc_X12_pour 3 (7, .iload_n 3, 1) rfl rfl) rfl rfl,
    st_callS hC (n := 4) (na := 1) (con_X12_isTray l) (dc_X12_pour 4 (8, .invokestatic 98, 3) rfl rfl) rfl wd_1694 wd_160 (by decide) ⟨rfl, rfl, by decide, by decide⟩ hM wd_1692 wd_1693,
    st_ifeq hC (n := 5) (dc_X12_pour 5 (11, .ifCond .eq 17, 3) rfl rfl) rfl (by decide),
    st_iload_n hC (n := 6) (k := 2) (dc_X12_pour 6 (14, .iload_n 2, 1) rfl rfl) rfl rfl,
    st_iflt hC (n := 7) (dc_X12_pour 7 (15, .ifCond .lt 13, 3) rfl rfl) rfl (by decide),
    st_iload hC (n := 8) (dc_X12_pour 8 (18, .iload 4, 2) rfl rfl) rfl,
    st_iflt hC (n := 9) (dc_X12_pour 9 (20, .ifCond .lt 8, 3) rfl rfl) rfl (by decide),
    st_iload hC (n := 10) (dc_X12_pour 10 (23, .iload 5, 2) rfl rfl) rfl,
    st_ifge hC (n := 11) (dc_X12_pour 11 (25, .ifCond .ge 9, 3) rfl rfl) rfl (by decide),
    st_aload_n hC (n := 12) (k := 0) (dc_X12_pour 12 (28, .aload_n 0, 1) rfl rfl) rfl rfl,
    st_iconst hC (n := 13) (x := 1) (dc_X12_pour 13 (29, .iconst 1, 1) rfl rfl) rfl (by decide),
    st_callV hC (n := 14) (k := 12) (na := 1) (con_X12_is l) (dc_X12_pour 14 (30, .invokevirtual 94, 3) rfl rfl) rfl wd_1698 wd_160 (by decide) ⟨rfl, rfl, by decide, by decide⟩ hM wd_1695 wd_1697 wd_51 clf_12,
    st_zret hC (n := 15) hR (dc_X12_pour 15 (33, .ireturn, 1) rfl rfl),
    st_aload_n hC (n := 16) (k := 0) (dc_X12_pour 16 (34, .aload_n 0, 1) rfl rfl) rfl rfl,
    st_getR hC (n := 17) (k := 12) (j := 6) (dc_X12_pour 17 (35, .getfield 24, 3) rfl rfl) rfl clf_12 (by decide) rfl (by decide) wd_1558,
    st_iload_n hC (n := 18) (k := 1) (dc_X12_pour 18 (38, .iload_n 1, 1) rfl rfl) rfl rfl,
    st_iald hC (n := 19) (dc_X12_pour 19 (39, .iaload, 1) rfl rfl) rfl,
    st_iconst hC (n := 20) (x := (-1)) (dc_X12_pour 20 (40, .iconst (-1), 1) rfl rfl) rfl (by decide),
    st_iceq hC (n := 21) (dc_X12_pour 21 (41, .if_icmp .eq 13, 3) rfl rfl) rfl (by decide),
    st_aload_n hC (n := 22) (k := 0) (dc_X12_pour 22 (44, .aload_n 0, 1) rfl rfl) rfl rfl,
    st_getR hC (n := 23) (k := 12) (j := 6) (dc_X12_pour 23 (45, .getfield 24, 3) rfl rfl) rfl clf_12 (by decide) rfl (by decide) wd_1558,
    st_iload_n hC (n := 24) (k := 3) (dc_X12_pour 24 (48, .iload_n 3, 1) rfl rfl) rfl rfl,
    st_iald hC (n := 25) (dc_X12_pour 25 (49, .iaload, 1) rfl rfl) rfl,
    st_iconst hC (n := 26) (x := (-1)) (dc_X12_pour 26 (50, .iconst (-1), 1) rfl rfl) rfl (by decide),
    st_icne hC (n := 27) (dc_X12_pour 27 (51, .if_icmp .ne 9, 3) rfl rfl) rfl (by decide),
    st_aload_n hC (n := 28) (k := 0) (dc_X12_pour 28 (54, .aload_n 0, 1) rfl rfl) rfl rfl,
    st_iconst hC (n := 29) (x := 2) (dc_X12_pour 29 (55, .iconst 2, 1) rfl rfl) rfl (by decide),
    st_callV hC (n := 30) (k := 12) (na := 1) (con_X12_is l) (dc_X12_pour 30 (56, .invokevirtual 94, 3) rfl rfl) rfl wd_1698 wd_160 (by decide) ⟨rfl, rfl, by decide, by decide⟩ hM wd_1695 wd_1697 wd_51 clf_12,
    st_zret hC (n := 31) hR (dc_X12_pour 31 (59, .ireturn, 1) rfl rfl),
    st_aload_n hC (n := 32) (k := 0) (dc_X12_pour 32 (60, .aload_n 0, 1) rfl rfl) rfl rfl,
    st_getR hC (n := 33) (k := 12) (j := 5) (dc_X12_pour 33 (61, .getfield 21, 3) rfl rfl) rfl clf_12 (by decide) rfl (by decide) wd_1557,
    st_iload_n hC (n := 34) (k := 1) (dc_X12_pour 34 (64, .iload_n 1, 1) rfl rfl) rfl rfl,
    st_iald hC (n := 35) (dc_X12_pour 35 (65, .iaload, 1) rfl rfl) rfl,
    st_aload_n hC (n := 36) (k := 0) (dc_X12_pour 36 (66, .aload_n 0, 1) rfl rfl) rfl rfl,
    st_getR hC (n := 37) (k := 12) (j := 5) (dc_X12_pour 37 (67, .getfield 21, 3) rfl rfl) rfl clf_12 (by decide) rfl (by decide) wd_1557,
    st_iload_n hC (n := 38) (k := 3) (dc_X12_pour 38 (70, .iload_n 3, 1) rfl rfl) rfl rfl,
    st_iald hC (n := 39) (dc_X12_pour 39 (71, .iaload, 1) rfl rfl) rfl,
    st_iceq hC (n := 40) (dc_X12_pour 40 (72, .if_icmp .eq 10, 3) rfl rfl) rfl (by decide),
    st_aload_n hC (n := 41) (k := 0) (dc_X12_pour 41 (75, .aload_n 0, 1) rfl rfl) rfl rfl,
    st_bipush hC (n := 42) (x := 8) (dc_X12_pour 42 (76, .bipush 8, 2) rfl rfl) rfl (by decide),
    st_callV hC (n := 43) (k := 12) (na := 1) (con_X12_is l) (dc_X12_pour 43 (78, .invokevirtual 94, 3) rfl rfl) rfl wd_1698 wd_160 (by decide) ⟨rfl, rfl, by decide, by decide⟩ hM wd_1695 wd_1697 wd_51 clf_12,
    st_zret hC (n := 44) hR (dc_X12_pour 44 (81, .ireturn, 1) rfl rfl),
    st_iload hC (n := 45) (dc_X12_pour 45 (82, .iload 5, 2) rfl rfl) rfl,
    st_aload_n hC (n := 46) (k := 0) (dc_X12_pour 46 (84, .aload_n 0, 1) rfl rfl) rfl rfl,
    st_getR hC (n := 47) (k := 12) (j := 6) (dc_X12_pour 47 (85, .getfield 24, 3) rfl rfl) rfl clf_12 (by decide) rfl (by decide) wd_1558,
    st_iload_n hC (n := 48) (k := 1) (dc_X12_pour 48 (88, .iload_n 1, 1) rfl rfl) rfl rfl,
    st_iald hC (n := 49) (dc_X12_pour 49 (89, .iaload, 1) rfl rfl) rfl,
    st_iload_n hC (n := 50) (k := 2) (dc_X12_pour 50 (90, .iload_n 2, 1) rfl rfl) rfl rfl,
    st_isub hC (n := 51) (dc_X12_pour 51 (91, .isub, 1) rfl rfl) rfl,
    st_icgt hC (n := 52) (dc_X12_pour 52 (92, .if_icmp .gt 17, 3) rfl rfl) rfl (by decide),
    st_iload hC (n := 53) (dc_X12_pour 53 (95, .iload 5, 2) rfl rfl) rfl,
    st_aload_n hC (n := 54) (k := 0) (dc_X12_pour 54 (97, .aload_n 0, 1) rfl rfl) rfl rfl,
    st_getR hC (n := 55) (k := 12) (j := 6) (dc_X12_pour 55 (98, .getfield 24, 3) rfl rfl) rfl clf_12 (by decide) rfl (by decide) wd_1558,
    st_iload_n hC (n := 56) (k := 3) (dc_X12_pour 56 (101, .iload_n 3, 1) rfl rfl) rfl rfl,
    st_iald hC (n := 57) (dc_X12_pour 57 (102, .iaload, 1) rfl rfl) rfl,
    st_iload hC (n := 58) (dc_X12_pour 58 (103, .iload 4, 2) rfl rfl) rfl,
    st_isub hC (n := 59) (dc_X12_pour 59 (105, .isub, 1) rfl rfl) rfl,
    st_icle hC (n := 60) (dc_X12_pour 60 (106, .if_icmp .le 9, 3) rfl rfl) rfl (by decide),
    st_aload_n hC (n := 61) (k := 0) (dc_X12_pour 61 (109, .aload_n 0, 1) rfl rfl) rfl rfl,
    st_iconst hC (n := 62) (x := 3) (dc_X12_pour 62 (110, .iconst 3, 1) rfl rfl) rfl (by decide),
    st_callV hC (n := 63) (k := 12) (na := 1) (con_X12_is l) (dc_X12_pour 63 (111, .invokevirtual 94, 3) rfl rfl) rfl wd_1698 wd_160 (by decide) ⟨rfl, rfl, by decide, by decide⟩ hM wd_1695 wd_1697 wd_51 clf_12,
    st_zret hC (n := 64) hR (dc_X12_pour 64 (114, .ireturn, 1) rfl rfl),
    st_iconst hC (n := 65) (x := 0) (dc_X12_pour 65 (115, .iconst 0, 1) rfl rfl) rfl (by decide),
    st_istore hC (n := 66) (dc_X12_pour 66 (116, .istore 6, 2) rfl rfl) rfl (by decide),
    st_iload hC (n := 67) (dc_X12_pour 67 (118, .iload 6, 2) rfl rfl) rfl,
    st_iload hC (n := 68) (dc_X12_pour 68 (120, .iload 5, 2) rfl rfl) rfl,
    st_icge hC (n := 69) (dc_X12_pour 69 (122, .if_icmp .ge 58, 3) rfl rfl) rfl (by decide),
    st_iload_n hC (n := 70) (k := 2) (dc_X12_pour 70 (125, .iload_n 2, 1) rfl rfl) rfl rfl,
    st_iload hC (n := 71) (dc_X12_pour 71 (126, .iload 4, 2) rfl rfl) rfl,
    st_icge hC (n := 72) (dc_X12_pour 72 (128, .if_icmp .ge 13, 3) rfl rfl) rfl (by decide),
    st_iload hC (n := 73) (dc_X12_pour 73 (131, .iload 5, 2) rfl rfl) rfl,
    st_iconst hC (n := 74) (x := 1) (dc_X12_pour 74 (133, .iconst 1, 1) rfl rfl) rfl (by decide),
    st_isub hC (n := 75) (dc_X12_pour 75 (134, .isub, 1) rfl rfl) rfl,
    st_iload hC (n := 76) (dc_X12_pour 76 (135, .iload 6, 2) rfl rfl) rfl,
    st_isub hC (n := 77) (dc_X12_pour 77 (137, .isub, 1) rfl rfl) rfl,
    st_goto hC (n := 78) (dc_X12_pour 78 (138, .goto 5, 3) rfl rfl) (by decide),
    st_iload hC (n := 79) (dc_X12_pour 79 (141, .iload 6, 2) rfl rfl) rfl,
    st_istore hC (n := 80) (dc_X12_pour 80 (143, .istore 7, 2) rfl rfl) rfl (by decide),
    st_aload_n hC (n := 81) (k := 0) (dc_X12_pour 81 (145, .aload_n 0, 1) rfl rfl) rfl rfl,
    st_getR hC (n := 82) (k := 12) (j := 7) (dc_X12_pour 82 (146, .getfield 27, 3) rfl rfl) rfl clf_12 (by decide) rfl (by decide) wd_1559,
    st_bipush hC (n := 83) (x := 60) (dc_X12_pour 83 (149, .bipush 60, 2) rfl rfl) rfl (by decide),
    st_iload_n hC (n := 84) (k := 3) (dc_X12_pour 84 (151, .iload_n 3, 1) rfl rfl) rfl rfl,
    st_imul hC (n := 85) (dc_X12_pour 85 (152, .imul, 1) rfl rfl) rfl,
    st_iload hC (n := 86) (dc_X12_pour 86 (153, .iload 4, 2) rfl rfl) rfl,
    st_iadd hC (n := 87) (dc_X12_pour 87 (155, .iadd, 1) rfl rfl) rfl,
    st_iload hC (n := 88) (dc_X12_pour 88 (156, .iload 7, 2) rfl rfl) rfl,
    st_iadd hC (n := 89) (dc_X12_pour 89 (158, .iadd, 1) rfl rfl) rfl,
    st_aload_n hC (n := 90) (k := 0) (dc_X12_pour 90 (159, .aload_n 0, 1) rfl rfl) rfl rfl,
    st_getR hC (n := 91) (k := 12) (j := 7) (dc_X12_pour 91 (160, .getfield 27, 3) rfl rfl) rfl clf_12 (by decide) rfl (by decide) wd_1559,
    st_bipush hC (n := 92) (x := 60) (dc_X12_pour 92 (163, .bipush 60, 2) rfl rfl) rfl (by decide),
    st_iload_n hC (n := 93) (k := 1) (dc_X12_pour 93 (165, .iload_n 1, 1) rfl rfl) rfl rfl,
    st_imul hC (n := 94) (dc_X12_pour 94 (166, .imul, 1) rfl rfl) rfl,
    st_iload_n hC (n := 95) (k := 2) (dc_X12_pour 95 (167, .iload_n 2, 1) rfl rfl) rfl rfl,
    st_iadd hC (n := 96) (dc_X12_pour 96 (168, .iadd, 1) rfl rfl) rfl,
    st_iload hC (n := 97) (dc_X12_pour 97 (169, .iload 7, 2) rfl rfl) rfl,
    st_iadd hC (n := 98) (dc_X12_pour 98 (171, .iadd, 1) rfl rfl) rfl,
    st_lald hC (n := 99) (dc_X12_pour 99 (172, .laload, 1) rfl rfl) rfl,
    st_last hC (n := 100) (dc_X12_pour 100 (173, .lastore, 1) rfl rfl) rfl,
    st_iinc hC (n := 101) (x := 1) (dc_X12_pour 101 (174, .iinc 6 1, 3) rfl rfl) rfl (by decide) (by decide),
    st_goto hC (n := 102) (dc_X12_pour 102 (177, .goto (-59), 3) rfl rfl) (by decide),
    st_aload_n hC (n := 103) (k := 0) (dc_X12_pour 103 (180, .aload_n 0, 1) rfl rfl) rfl rfl,
    st_iconst hC (n := 104) (x := 0) (dc_X12_pour 104 (181, .iconst 0, 1) rfl rfl) rfl (by decide),
    st_callV hC (n := 105) (k := 12) (na := 1) (con_X12_is l) (dc_X12_pour 105 (182, .invokevirtual 94, 3) rfl rfl) rfl wd_1698 wd_160 (by decide) ⟨rfl, rfl, by decide, by decide⟩ hM wd_1695 wd_1697 wd_51 clf_12,
    st_zret hC (n := 106) hR (dc_X12_pour 106 (185, .ireturn, 1) rfl rfl), trivial⟩
set_option maxRecDepth 8000 in
theorem vc_X12_pour : VC P_X12_pour 8 Pre_X12_pour Fn_X12_pour := by
  rintro mm as hom hoa ⟨hT, x, p, y, q, n, rfl⟩
  refine ⟨Nat.le_of_ble_eq_true rfl, fun X h => ?_⟩
  obtain ⟨w, ew⟩ : ∃ w, w = poF mm x p y q n := ⟨_, rfl⟩
  have hF : Fn_X12_pour mm [vR 12 0, vI x, vI p, vI y, vI q, vI n] = (some (vI (bI (w = 0))), stM (mite (w = 0) (poM mm x p y q n) mm) w) := by rw [ew]; rfl
  rw [hF] at h
  have one : ¬ (trP x ∧ trP y ∧ ¬ p < 0 ∧ ¬ q < 0 ∧ 0 ≤ n) → X 12 [some (vR 12 0), some (vI (x)), some (vI (p)), some (vI (y)), some (vI (q)), some (vI (n)), none, none] [] mm := by
    intro hc
    have e : w = 1 := ew.trans (if_neg hc)
    subst e
    show X 12 [some (vR 12 0), some (vI x), some (vI p), some (vI y), some (vI q), some (vI n), none, none] [] mm
    refine h (fun _ => false) 3000 12 _ _ _ ?_
    refine And.intro ⟨_, rfl⟩ ?_
    refine And.intro bI_in ?_
    show ((some (vI (bI (1 = 0))) : Option MV), stM mm 1) = _
    exact rfl
  have two : (trP x ∧ trP y ∧ ¬ p < 0 ∧ ¬ q < 0 ∧ 0 ≤ n) → X 16 [some (vR 12 0), some (vI (x)), some (vI (p)), some (vI (y)), some (vI (q)), some (vI (n)), none, none] [] mm := by
    intro hc
    have e1 : poF mm x p y q n = _ := if_pos hc
    rw [e1] at ew
    obtain ⟨f, hf, rfl⟩ := tr_in hc.1
    obtain ⟨t, ht, rfl⟩ := tr_in hc.2.1
    have ef : (nI f).toNatClampNeg = f := nI_clamp (by omega)
    have et : (nI t).toNatClampNeg = t := nI_clamp (by omega)
    rw [ef, et] at ew
    have good : ¬ (mm.1 57 0 f = -1 ∨ mm.1 57 0 t = -1) → ¬ (mm.1 57 0 f - p < n ∨ mm.1 57 0 t - q < n) → w = 0 → X 65 [some (vR 12 0), some (vI (nI f)), some (vI (p)), some (vI (nI t)), some (vI (q)), some (vI (n)), none, none] [] mm := by
      intro h1 h2 h0
      rw [mite_t h0] at h
      subst h0
      obtain ⟨a, ha, e1⟩ := (hT f hf).resolve_left (fun z => h1 (Or.inl z))
      obtain ⟨b, hb, e2⟩ := (hT t ht).resolve_left (fun z => h1 (Or.inr z))
      rw [e1, e2] at h2
      have key : ∀ z : Int32, ∀ c : Nat, c ≤ 60 → ¬ z < 0 → ¬ nI c - z < n → ∃ k j : Nat, z = nI k ∧ n = nI j ∧ k + j ≤ c := by
        intro z c hc60 hz hlt
        have hz' : 0 ≤ z.toInt := by
          have := Int32.not_lt.mp hz
          rw [Int32.le_iff_toInt_le] at this
          exact this
        have hn' : 0 ≤ n.toInt := by
          have := hc.2.2.2.2
          rw [Int32.le_iff_toInt_le] at this
          exact this
        obtain ⟨k, hk, rfl⟩ : ∃ k, k < 2 ^ 31 ∧ z = nI k := ⟨z.toInt.toNat, by have := Int32.toInt_lt z; omega, Int32.toInt_inj.mp (by rw [nI_toInt (by have := Int32.toInt_lt z; omega)]; omega)⟩
        obtain ⟨j, hj, ej⟩ : ∃ j, j < 2 ^ 31 ∧ n = nI j := ⟨n.toInt.toNat, by have := Int32.toInt_lt n; omega, Int32.toInt_inj.mp (by rw [nI_toInt (by have := Int32.toInt_lt n; omega)]; omega)⟩
        refine ⟨k, j, rfl, ej, ?_⟩
        rw [ej, Int32.lt_iff_toInt_lt, Int32.toInt_sub, nI_toInt (by omega), nI_toInt hk, nI_toInt hj] at hlt
        have hbm : ((c : Int) - (k : Int)).bmod (2 ^ 32) = (c : Int) - k := by
          apply Int.bmod_eq_of_le <;> omega
        rw [hbm] at hlt
        omega
      obtain ⟨k, j, rfl, rfl, hkj⟩ := key p a ha hc.2.2.1 (fun z => h2 (Or.inl z))
      obtain ⟨l, j', rfl, ej', hlj⟩ := key q b hb hc.2.2.2.1 (fun z => h2 (Or.inr z))
      have ejj : j = j' := by
        have : j' < 2 ^ 31 := by omega
        exact (nI_eq (by omega) this).mp ej'
      subst ejj
      unfold poM at h
      rw [ef, et, nI_clamp (show k < 2 ^ 31 by omega), nI_clamp (show l < 2 ^ 31 by omega), nI_clamp (show j < 2 ^ 31 by omega)] at h
      have loop : ∀ i, i ≤ j → ∀ L7, X 67 [some (vR 12 0), some (vI (nI f)), some (vI (nI k)), some (vI (nI t)), some (vI (nI l)), some (vI (nI j)), some (vI (nI i)), L7] [] (mRowL mm 58 0 (poR (mm.2.1 58 0) f t k l j i)) := by
        refine up_ind j ?_ (fun i hi ih => ?_)
        · intro L7
          show X 67 [some (vR 12 0), some (vI (nI f)), some (vI (nI k)), some (vI (nI t)), some (vI (nI l)), some (vI (nI j)), some (vI (nI j)), L7] [] (mRowL mm 58 0 (poR (mm.2.1 58 0) f t k l j j))
          refine h (fun _ => false) 3000 67 _ _ _ ?_
          refine br_t (nI_le (by omega) (by omega)) ?_
          refine And.intro ⟨_, rfl⟩ ?_
          refine And.intro bI_in ?_
          show ((some (vI (bI (0 = 0))) : Option MV), stM (mRowL mm 58 0 (poR (mm.2.1 58 0) f t k l j j)) 0) = _
          exact rfl
        · intro L7
          have st : ∀ v, v = nI (poK k l j i) → X 80 [some (vR 12 0), some (vI (nI f)), some (vI (nI k)), some (vI (nI t)), some (vI (nI l)), some (vI (nI j)), some (vI (nI i)), L7] [vI (v)] (mRowL mm 58 0 (poR (mm.2.1 58 0) f t k l j i)) := by
            intro v ev
            subst ev
            have hpk : poK k l j i < j := by unfold poK; split <;> omega
            have x1 : (60 * nI t + nI l + nI (poK k l j i)).toNatClampNeg = 60 * t + l + poK k l j i := by simp (disch := omega) only [li, pk_mul, nI_add, nI_clamp]
            have x2 : (60 * nI f + nI k + nI (poK k l j i)).toNatClampNeg = 60 * f + k + poK k l j i := by simp (disch := omega) only [li, pk_mul, nI_add, nI_clamp]
            show X 80 [some (vR 12 0), some (vI (nI f)), some (vI (nI k)), some (vI (nI t)), some (vI (nI l)), some (vI (nI j)), some (vI (nI i)), L7] [vI (nI (poK k l j i))] (mRowL mm 58 0 (poR (mm.2.1 58 0) f t k l j i))
            refine h (fun i => Nat.beq i 67) 3000 80 _ _ _ ?_
            refine And.intro (inb_o 240 rfl rfl (show ((60 * (nI f)) + (nI k)) + (nI (poK k l j i)) = nI (((60 * ( f)) + ( k)) + ( (poK k l j i))) by simp (disch := omega) only [li, pk_mul, nI_add, nI_clamp]) (by omega)) ?_
            refine And.intro (inb_o 240 rfl rfl (show ((60 * (nI t)) + (nI l)) + (nI (poK k l j i)) = nI (((60 * ( t)) + ( l)) + ( (poK k l j i))) by simp (disch := omega) only [li, pk_mul, nI_add, nI_clamp]) (by omega)) ?_
            show X 67 [some (vR 12 0), some (vI (nI f)), some (vI (nI k)), some (vI (nI t)), some (vI (nI l)), some (vI (nI j)), some (vI ((nI i) + 1)), some (vI (nI (poK k l j i)))] [] (mRowL (mRowL mm 58 0 (poR (mm.2.1 58 0) f t k l j i)) 58 0 (vp_updL ((mRowL mm 58 0 (poR (mm.2.1 58 0) f t k l j i)).2.1 58 0) (((60 * (nI t)) + (nI l)) + (nI (poK k l j i))).toNatClampNeg ((mRowL mm 58 0 (poR (mm.2.1 58 0) f t k l j i)).2.1 58 0 (((60 * (nI f)) + (nI k)) + (nI (poK k l j i))).toNatClampNeg)))
            rw [nI_1, x1, x2]
            show X 67 _ _ (mRowL (mRowL mm 58 0 (poR (mm.2.1 58 0) f t k l j i)) 58 0 (poR (mm.2.1 58 0) f t k l j (i + 1))) 
            rw [mRowL2] 
            exact ih _
          show X 67 [some (vR 12 0), some (vI (nI f)), some (vI (nI k)), some (vI (nI t)), some (vI (nI l)), some (vI (nI j)), some (vI (nI i)), L7] [] (mRowL mm 58 0 (poR (mm.2.1 58 0) f t k l j i))
          refine h (fun i => Nat.beq i 80) 3000 67 _ _ _ ?_
          refine br_f (nI_ge hi (by omega)) ?_
          refine br_c (fun b72 => ?_) (fun b72 => ?_)
          · -- 72: nI l ≤ nI k taken
            replace b72 : nI l ≤ nI k := b72
            show X 80 [some (vR 12 0), some (vI (nI f)), some (vI (nI k)), some (vI (nI t)), some (vI (nI l)), some (vI (nI j)), some (vI (nI i)), L7] [vI (nI i)] (mRowL mm 58 0 (poR (mm.2.1 58 0) f t k l j i))
            refine st _ ?_
            unfold poK 
            rw [if_neg (fun z => by rw [nI_leI (by omega) (by omega)] at b72; omega)]
          · -- 72: nI l ≤ nI k on
            replace b72 : ¬ (nI l ≤ nI k) := b72
            show X 80 [some (vR 12 0), some (vI (nI f)), some (vI (nI k)), some (vI (nI t)), some (vI (nI l)), some (vI (nI j)), some (vI (nI i)), L7] [vI (((nI j) - 1) - (nI i))] (mRowL mm 58 0 (poR (mm.2.1 58 0) f t k l j i))
            refine st _ ?_
            unfold poK 
            rw [if_pos (by rw [nI_leI (by omega) (by omega)] at b72; omega), show (1 : Int32) = nI 1 from rfl, nI_sb (by omega), nI_sb (by omega)]
      have l0 := loop 0 (by omega) none
      have e0 : mRowL mm 58 0 (poR (mm.2.1 58 0) f t k l j 0) = mm := mRowL_self mm 58 0
      rw [e0] at l0
      show X 65 [some (vR 12 0), some (vI (nI f)), some (vI (nI k)), some (vI (nI t)), some (vI (nI l)), some (vI (nI j)), none, none] [] mm
      refine h (fun i => Nat.beq i 67) 3000 65 _ _ _ ?_
      show X 67 [some (vR 12 0), some (vI (nI f)), some (vI (nI k)), some (vI (nI t)), some (vI (nI l)), some (vI (nI j)), some (vI 0), none] [] mm
      exact l0
    show X 16 [some (vR 12 0), some (vI (nI f)), some (vI p), some (vI (nI t)), some (vI q), some (vI n), none, none] [] mm
    refine h (fun i => Nat.beq i 65) 3000 16 _ _ _ ?_
    refine And.intro (inb_o 4 rfl rfl rfl (by omega)) ?_
    refine br_c (fun b21 => ?_) (fun b21 => ?_)
    · -- 21: mm.1 57 0 (nI f).toNatClampNeg = (-1) taken
      replace b21 : mm.1 57 0 (nI f).toNatClampNeg = (-1) := b21
      rw [ef] at b21
      refine And.intro ⟨_, rfl⟩ ?_
      refine And.intro bI_in ?_
      show ((some (vI (bI (2 = 0))) : Option MV), stM mm 2) = _
      rw [if_pos (Or.inl b21)] at ew
      subst ew 
      exact rfl
    · -- 21: mm.1 57 0 (nI f).toNatClampNeg = (-1) on
      replace b21 : ¬ (mm.1 57 0 (nI f).toNatClampNeg = (-1)) := b21
      rw [ef] at b21
      refine And.intro (inb_o 4 rfl rfl rfl (by omega)) ?_
      refine brn_c (fun b27 => ?_) (fun b27 => ?_)
      · -- 27: mm.1 57 0 (nI t).toNatClampNeg = (-1) taken
        replace b27 : ¬ (mm.1 57 0 (nI t).toNatClampNeg = (-1)) := b27
        rw [et] at b27
        refine And.intro (inb_o 4 rfl rfl rfl (by omega)) ?_
        refine And.intro (inb_o 4 rfl rfl rfl (by omega)) ?_
        refine br_c (fun b40 => ?_) (fun b40 => ?_)
        · -- 40: mm.1 56 0 (nI f).toNatClampNeg = mm.1 56 0 (nI t).toNatClampNeg taken
          replace b40 : mm.1 56 0 (nI f).toNatClampNeg = mm.1 56 0 (nI t).toNatClampNeg := b40
          rw [ef] at b40
          rw [et] at b40
          refine And.intro (inb_o 4 rfl rfl rfl (by omega)) ?_
          refine br_c (fun b52 => ?_) (fun b52 => ?_)
          · -- 52: (mm.1 57 0 (nI f).toNatClampNeg) - p < n taken
            replace b52 : (mm.1 57 0 (nI f).toNatClampNeg) - p < n := b52
            rw [ef] at b52
            refine And.intro ⟨_, rfl⟩ ?_
            refine And.intro bI_in ?_
            show ((some (vI (bI (3 = 0))) : Option MV), stM mm 3) = _
            rw [if_neg (fun z => z.elim b21 b27), if_pos b40, if_pos (Or.inl b52)] at ew
            subst ew 
            exact rfl
          · -- 52: (mm.1 57 0 (nI f).toNatClampNeg) - p < n on
            replace b52 : ¬ ((mm.1 57 0 (nI f).toNatClampNeg) - p < n) := b52
            rw [ef] at b52
            refine And.intro (inb_o 4 rfl rfl rfl (by omega)) ?_
            refine br_c (fun b60 => ?_) (fun b60 => ?_)
            · -- 60: n ≤ (mm.1 57 0 (nI t).toNatClampNeg) - q taken
              replace b60 : n ≤ (mm.1 57 0 (nI t).toNatClampNeg) - q := b60
              rw [et] at b60
              show X 65 [some (vR 12 0), some (vI (nI f)), some (vI p), some (vI (nI t)), some (vI q), some (vI n), none, none] [] mm
              exact good (fun z => z.elim b21 b27) (fun z => z.elim b52 (fun y => Int32.not_le.mpr y b60)) (by rw [if_neg (fun z => z.elim b21 b27), if_pos b40, if_neg (fun z => z.elim b52 (fun y => Int32.not_le.mpr y b60))] at ew; exact ew)
            · -- 60: n ≤ (mm.1 57 0 (nI t).toNatClampNeg) - q on
              replace b60 : ¬ (n ≤ (mm.1 57 0 (nI t).toNatClampNeg) - q) := b60
              rw [et] at b60
              refine And.intro ⟨_, rfl⟩ ?_
              refine And.intro bI_in ?_
              show ((some (vI (bI (3 = 0))) : Option MV), stM mm 3) = _
              rw [if_neg (fun z => z.elim b21 b27), if_pos b40, if_pos (Or.inr (Int32.not_le.mp b60))] at ew
              subst ew 
              exact rfl
        · -- 40: mm.1 56 0 (nI f).toNatClampNeg = mm.1 56 0 (nI t).toNatClampNeg on
          replace b40 : ¬ (mm.1 56 0 (nI f).toNatClampNeg = mm.1 56 0 (nI t).toNatClampNeg) := b40
          rw [ef] at b40
          rw [et] at b40
          refine And.intro ⟨_, rfl⟩ ?_
          refine And.intro bI_in ?_
          show ((some (vI (bI (8 = 0))) : Option MV), stM mm 8) = _
          rw [if_neg (fun z => z.elim b21 b27), if_neg b40] at ew
          subst ew 
          exact rfl
      · -- 27: mm.1 57 0 (nI t).toNatClampNeg = (-1) on
        replace b27 : mm.1 57 0 (nI t).toNatClampNeg = (-1) := b27
        rw [et] at b27
        refine And.intro ⟨_, rfl⟩ ?_
        refine And.intro bI_in ?_
        show ((some (vI (bI (2 = 0))) : Option MV), stM mm 2) = _
        rw [if_pos (Or.inr b27)] at ew
        subst ew 
        exact rfl
  show X 0 [some (vR 12 0), some (vI x), some (vI p), some (vI y), some (vI q), some (vI n), none, none] [] mm
  refine h (fun i => Nat.beq i 12 || Nat.beq i 16) 3000 0 _ _ _ ?_
  refine And.intro ⟨_, rfl⟩ ?_
  refine br_c (fun b2 => ?_) (fun b2 => ?_)
  · -- 2: bI (¬ x < 0 ∧ ¬ 4 ≤ x) = 0 taken
    replace b2 : ¬ (¬ x < 0 ∧ ¬ 4 ≤ x) := bI_0.mp b2
    show X 12 [some (vR 12 0), some (vI x), some (vI p), some (vI y), some (vI q), some (vI n), none, none] [] mm
    exact one (fun z => b2 z.1)
  · -- 2: bI (¬ x < 0 ∧ ¬ 4 ≤ x) = 0 on
    replace b2 : ¬ x < 0 ∧ ¬ 4 ≤ x := bI_n0.mp b2
    refine And.intro ⟨_, rfl⟩ ?_
    refine br_c (fun b5 => ?_) (fun b5 => ?_)
    · -- 5: bI (¬ y < 0 ∧ ¬ 4 ≤ y) = 0 taken
      replace b5 : ¬ (¬ y < 0 ∧ ¬ 4 ≤ y) := bI_0.mp b5
      show X 12 [some (vR 12 0), some (vI x), some (vI p), some (vI y), some (vI q), some (vI n), none, none] [] mm
      exact one (fun z => b5 z.2.1)
    · -- 5: bI (¬ y < 0 ∧ ¬ 4 ≤ y) = 0 on
      replace b5 : ¬ y < 0 ∧ ¬ 4 ≤ y := bI_n0.mp b5
      refine br_c (fun b7 => ?_) (fun b7 => ?_)
      · -- 7: p < 0 taken
        replace b7 : p < 0 := b7
        show X 12 [some (vR 12 0), some (vI x), some (vI p), some (vI y), some (vI q), some (vI n), none, none] [] mm
        exact one (fun z => z.2.2.1 b7)
      · -- 7: p < 0 on
        replace b7 : ¬ (p < 0) := b7
        refine br_c (fun b9 => ?_) (fun b9 => ?_)
        · -- 9: q < 0 taken
          replace b9 : q < 0 := b9
          show X 12 [some (vR 12 0), some (vI x), some (vI p), some (vI y), some (vI q), some (vI n), none, none] [] mm
          exact one (fun z => z.2.2.2.1 b9)
        · -- 9: q < 0 on
          replace b9 : ¬ (q < 0) := b9
          refine br_c (fun b11 => ?_) (fun b11 => ?_)
          · -- 11: 0 ≤ n taken
            replace b11 : 0 ≤ n := b11
            show X 16 [some (vR 12 0), some (vI x), some (vI p), some (vI y), some (vI q), some (vI n), none, none] [] mm
            exact two ⟨b2, b5, b7, b9, b11⟩
          · -- 11: 0 ≤ n on
            replace b11 : ¬ (0 ≤ n) := b11
            show X 12 [some (vR 12 0), some (vI x), some (vI p), some (vI y), some (vI q), some (vI n), none, none] [] mm
            exact one (fun z => b11 z.2.2.2.2)
theorem con_X12_pour (l : Launch) : CON l y_X12_pour prog_14_method_18_code 8 (some .boolean) rm_X12_pour Pre_X12_pour Fn_X12_pour := CON_of (by decide) rfl rfl (sa_X12_pour l) vc_X12_pour
/-- four bytes of an int onto the tape -/
def fuR4 (o : Nat → Int32) (n : Nat) (v : Int32) : Nat → Int32 := upd (upd (upd (upd o n (vp_nar .byte (v >>> (24 &&& 31)).toInt8.toInt32)) (n + 1) (vp_nar .byte (v >>> (16 &&& 31)).toInt8.toInt32)) (n + 2) (vp_nar .byte (v >>> (8 &&& 31)).toInt8.toInt32)) (n + 3) (vp_nar .byte (v >>> (0 &&& 31)).toInt8.toInt32)
def foM (m : MM) (v : Int32) : MM := mRow (mRow m 59 0 (fuR4 (m.1 59 0) (m.1 12 0 10).toNatClampNeg v)) 12 0 (upd (m.1 12 0) 10 (m.1 12 0 10 + 4))

--tpl ⟨_, _, by assumption, by omega, rfl⟩ ||  || foM {m} {1}
def Pre_X12_four : PreT := fun m as => ∃ (n : Nat) (v : Int32), m.1 12 0 10 = nI n ∧ n + 4 ≤ 900 ∧ as = [vR 12 0, vI v]
def Fn_X12_four : FnT := fun m as => match as with
  | [_, Sum.inl v] => (none, foM m v)
  | _ => (none, m)
abbrev y_X12_four : MethodName := ⟨"GivenUpModel", "four", "(I)V"⟩
def P_X12_four : List StpT := [s_ic (24), s_istore 2, s_iload 2, s_iflt 21, s_aload 0, s_getR 12 8 59, s_aload 0, s_getI 12 10, s_iload 1, s_iload 2, s_ishr, s_i2b, s_bast, s_aload 0, s_dup, s_getI 12 10, s_ic (1), s_iadd, s_putI 12 10, s_iinc 2 (-8), s_goto 2, s_vret]
def pc_X12_four : Nat → Nat := fun i => [0, 2, 3, 4, 7, 8, 11, 12, 15, 16, 17, 18, 19, 20, 21, 22, 25, 26, 27, 30, 33, 36].getD i 0
def dl_X12_four : List (Nat × Instr × Nat) := [(0, .bipush 24, 2), (2, .istore_n 2, 1), (3, .iload_n 2, 1), (4, .ifCond .lt 32, 3), (7, .aload_n 0, 1), (8, .getfield 30, 3), (11, .aload_n 0, 1), (12, .getfield 111, 3), (15, .iload_n 1, 1), (16, .iload_n 2, 1), (17, .ishr, 1), (18, .i2b, 1), (19, .bastore, 1), (20, .aload_n 0, 1), (21, .dup, 1), (22, .getfield 111, 3), (25, .iconst 1, 1), (26, .iadd, 1), (27, .putfield 111, 3), (30, .iinc 2 (-8), 3), (33, .goto (-30), 3), (36, .return_, 1)]
theorem dc_X12_four : DEC prog_14_method_21_code pc_X12_four dl_X12_four := DEC_of (by decide +kernel)
abbrev rm_X12_four : Room := { frames := 0, cells := 0, slots := 0, locals := 0 }
set_option maxRecDepth 20000 in
theorem sa_X12_four (l : Launch) : SNDALL l prog_14_method_21_code "GivenUpModel" 3 none rm_X12_four P_X12_four pc_X12_four := fun p e s m args below meth c cells slots Q D dA ad A RR hC hR => by
  have hM := RTX_room (R := rm_X12_four) hR
  exact ⟨st_bipush hC (n := 0) (x := 24) (dc_X12_four 0 (0, .bipush 24, 2) rfl rfl) rfl (by decide),
    st_istore_n hC (n := 1) (k := 2) (dc_X12_four 1 (2, .istore_n 2, 1) rfl rfl) rfl rfl (by decide),
    st_iload_n hC (n := 2) (k := 2) (dc_X12_four 2 (3, .iload_n 2, 1) rfl rfl) rfl rfl,
    st_iflt hC (n := 3) (dc_X12_four 3 (4, .ifCond .lt 32, 3) rfl rfl) rfl (by decide),
    st_aload_n hC (n := 4) (k := 0) (dc_X12_four 4 (7, .aload_n 0, 1) rfl rfl) rfl rfl,
    st_getR hC (n := 5) (k := 12) (j := 8) (dc_X12_four 5 (8, .getfield 30, 3) rfl rfl) rfl clf_12 (by decide) rfl (by decide) wd_1560,
    st_aload_n hC (n := 6) (k := 0) (dc_X12_four 6 (11, .aload_n 0, 1) rfl rfl) rfl rfl,
    st_getI hC (n := 7) (k := 12) (j := 10) (dc_X12_four 7 (12, .getfield 111, 3) rfl rfl) rfl clf_12 (by decide) rfl wd_1562,
    st_iload_n hC (n := 8) (k := 1) (dc_X12_four 8 (15, .iload_n 1, 1) rfl rfl) rfl rfl,
    st_iload_n hC (n := 9) (k := 2) (dc_X12_four 9 (16, .iload_n 2, 1) rfl rfl) rfl rfl,
    st_ishr hC (n := 10) (dc_X12_four 10 (17, .ishr, 1) rfl rfl) rfl,
    st_i2b hC (n := 11) (dc_X12_four 11 (18, .i2b, 1) rfl rfl) rfl,
    st_bast hC (n := 12) (dc_X12_four 12 (19, .bastore, 1) rfl rfl) rfl,
    st_aload_n hC (n := 13) (k := 0) (dc_X12_four 13 (20, .aload_n 0, 1) rfl rfl) rfl rfl,
    st_dup hC (n := 14) (dc_X12_four 14 (21, .dup, 1) rfl rfl) rfl,
    st_getI hC (n := 15) (k := 12) (j := 10) (dc_X12_four 15 (22, .getfield 111, 3) rfl rfl) rfl clf_12 (by decide) rfl wd_1562,
    st_iconst hC (n := 16) (x := 1) (dc_X12_four 16 (25, .iconst 1, 1) rfl rfl) rfl (by decide),
    st_iadd hC (n := 17) (dc_X12_four 17 (26, .iadd, 1) rfl rfl) rfl,
    st_putI hC (n := 18) (k := 12) (j := 10) (dc_X12_four 18 (27, .putfield 111, 3) rfl rfl) rfl clf_12 (by decide) rfl rfl rfl wd_1562,
    st_iinc hC (n := 19) (x := (-8)) (dc_X12_four 19 (30, .iinc 2 (-8), 3) rfl rfl) rfl (by decide) (by decide),
    st_goto hC (n := 20) (dc_X12_four 20 (33, .goto (-30), 3) rfl rfl) (by decide),
    st_vret hC (n := 21) hR (dc_X12_four 21 (36, .return_, 1) rfl rfl), trivial⟩
set_option maxRecDepth 8000 in
theorem vc_X12_four : VC P_X12_four 3 Pre_X12_four Fn_X12_four := by
  rintro mm as hom hoa ⟨n, v, en, hn, rfl⟩
  refine ⟨Nat.le_of_ble_eq_true rfl, fun X h => ?_⟩
  have st : ∀ (k : Nat) (s : Int32) (f : Nat → Int32), k < 4 → ¬ s < 0 → X 2 [some (vR 12 0), some (vI v), some (vI (s + (-8)))] [] (mRow (mRow mm 59 0 (upd f (n + k) (vp_nar .byte (v >>> (s &&& 31)).toInt8.toInt32))) 12 0 (upd (mm.1 12 0) 10 (nI (n + k + 1)))) → X 2 [some (vR 12 0), some (vI v), some (vI s)] [] (mRow (mRow mm 59 0 f) 12 0 (upd (mm.1 12 0) 10 (nI (n + k)))) := by
    intro k s f hk hs hX
    have e1 : (upd (mm.1 12 0) 10 (nI (n + k))) 10 = nI (n + k) := upd_eq
    have e2 : ((upd (mm.1 12 0) 10 (nI (n + k))) 10).toNatClampNeg = n + k := by rw [e1, nI_clamp (by omega)]
    have e3 : mRow (mRow (mRow (mRow mm 59 0 f) 12 0 (upd (mm.1 12 0) 10 (nI (n + k)))) 59 0 (upd f (n + k) (vp_nar .byte (v >>> (s &&& 31)).toInt8.toInt32))) 12 0 (upd (upd (mm.1 12 0) 10 (nI (n + k))) 10 (nI (n + k) + 1)) = mRow (mRow mm 59 0 (upd f (n + k) (vp_nar .byte (v >>> (s &&& 31)).toInt8.toInt32))) 12 0 (upd (mm.1 12 0) 10 (nI (n + k + 1))) := by
      rw [mRow_comm (k := 12) (k' := 59) (by decide), mRow2, mRow2, upd2, nI_1]
    refine h (fun i => Nat.beq i 2) 3000 2 _ _ _ ?_
    refine br_f hs ?_
    refine And.intro (inb_o 900 rfl rfl e1 (by omega)) ?_
    show X 2 [some (vR 12 0), some (vI v), some (vI (s + (-8)))] [] (mRow (mRow (mRow (mRow mm 59 0 f) 12 0 (upd (mm.1 12 0) 10 (nI (n + k)))) 59 0 (upd f ((upd (mm.1 12 0) 10 (nI (n + k))) 10).toNatClampNeg (vp_nar .byte (v >>> (s &&& 31)).toInt8.toInt32))) 12 0 (upd (upd (mm.1 12 0) 10 (nI (n + k))) 10 ((upd (mm.1 12 0) 10 (nI (n + k))) 10 + 1)))
    rw [e2, e1, e3]
    exact hX
  have self : mRow (mRow mm 59 0 (mm.1 59 0)) 12 0 (upd (mm.1 12 0) 10 (nI (n + 0))) = mm := by
    have : upd (mm.1 12 0) 10 (nI (n + 0)) = mm.1 12 0 := by
      funext j
      by_cases hj : j = 10
      · rw [hj, upd_eq, Nat.add_zero, en]
      · exact upd_ne hj
    rw [this, mRow_self, mRow_self]
  suffices z : X 2 [some (vR 12 0), some (vI v), some (vI 24)] [] (mRow (mRow mm 59 0 (mm.1 59 0)) 12 0 (upd (mm.1 12 0) 10 (nI (n + 0)))) by
    refine h (fun i => Nat.beq i 2) 3000 0 _ _ _ ?_
    rw [self] at z
    exact z
  refine st 0 24 _ (by decide) (by decide) ?_
  refine st 1 16 _ (by decide) (by decide) ?_
  refine st 2 8 _ (by decide) (by decide) ?_
  refine st 3 0 _ (by decide) (by decide) ?_
  refine h (fun _ => false) 3000 2 _ _ _ ?_
  refine br_t (by decide) ?_
  refine leaf ?_
  show _ = (none, foM mm v)
  unfold foM fuR4
  rw [en, nI_clamp (by omega), show nI n + 4 = nI (n + 3 + 1) by rw [show (4 : Int32) = nI 4 from rfl, nI_add]]
  rfl
theorem con_X12_four (l : Launch) : CON l y_X12_four prog_14_method_21_code 3 none rm_X12_four Pre_X12_four Fn_X12_four := CON_of (by decide) rfl rfl (sa_X12_four l) vc_X12_four
