/-! PART 63: the class: weddings, fairs, who is ahead, the dearest, firsts and lasts -/

def mrM (m : MM) (g s d : Nat) : MM := mRow (mRow (mRow m 16 g (upd (m.1 16 g) s (m.1 16 g s - m.1 34 g d))) 18 g (upd (m.1 18 g) s (nI d))) 19 g (upd (m.1 19 g) d (nI s))

--tpl ⟨_, _, _, _, {1N}, {2N}, by assumption, by omega, by omega, rfl⟩ || bI (wdP (abV {m} {g0}) {1n} {2n}) || mite (wdP (abV {m} {g0}) {1n} {2n}) (mrM {m} {g0} {1n} {2n}) {m}
def Pre_X6_marry : PreT := fun m as => ∃ g ns nm nt s d, VC2 m g ns nm nt ∧ s < 4 ∧ d < 4 ∧ as = [vR 6 g, vI (nI s), vI (nI d)]
def Fn_X6_marry : FnT := fun m as => match as with
  | [Sum.inr (Sum.inr q), Sum.inl s, Sum.inl d] => (some (vI (bI (wdP (abV m q.2) s.toNatClampNeg d.toNatClampNeg))), mite (wdP (abV m q.2) s.toNatClampNeg d.toNatClampNeg) (mrM m q.2 s.toNatClampNeg d.toNatClampNeg) m)
  | _ => (none, m)
abbrev y_X6_marry : MethodName := ⟨"GivenUp$Valley", "marry", "(II)Z"⟩
def P_X6_marry : List StpT := [s_aload 0, s_iload 1, s_iload 2, s_callV 6 2 Pre_X6_isWilling Fn_X6_isWilling, s_ifeq 15, s_aload 0, s_getR 6 11 1, s_getR 1 0 16, s_iload 1, s_iald, s_aload 0, s_getR 6 5 34, s_iload 2, s_iald, s_icge 17, s_ic (0), s_zret, s_aload 0, s_getR 6 11 1, s_getR 1 0 16, s_iload 1, s_dup2, s_iald, s_aload 0, s_getR 6 5 34, s_iload 2, s_iald, s_isub, s_iast, s_aload 0, s_getR 6 11 1, s_getR 1 2 18, s_iload 1, s_iload 2, s_iast, s_aload 0, s_getR 6 11 1, s_getR 1 3 19, s_iload 2, s_iload 1, s_iast, s_ic (1), s_zret]
def pc_X6_marry : Nat → Nat := fun i => [0, 1, 2, 3, 6, 9, 10, 13, 16, 17, 18, 19, 22, 23, 24, 27, 28, 29, 30, 33, 36, 37, 38, 39, 40, 43, 44, 45, 46, 47, 48, 51, 54, 55, 56, 57, 58, 61, 64, 65, 66, 67, 68].getD i 0
def dl_X6_marry : List (Nat × Instr × Nat) := [(0, .aload_n 0, 1), (1, .iload_n 1, 1), (2, .iload_n 2, 1), (3, .invokevirtual 169, 3), (6, .ifCond .eq 21, 3), (9, .aload_n 0, 1), (10, .getfield 49, 3), (13, .getfield 172, 3), (16, .iload_n 1, 1), (17, .iaload, 1), (18, .aload_n 0, 1), (19, .getfield 28, 3), (22, .iload_n 2, 1), (23, .iaload, 1), (24, .if_icmp .ge 5, 3), (27, .iconst 0, 1), (28, .ireturn, 1), (29, .aload_n 0, 1), (30, .getfield 49, 3), (33, .getfield 172, 3), (36, .iload_n 1, 1), (37, .dup2, 1), (38, .iaload, 1), (39, .aload_n 0, 1), (40, .getfield 28, 3), (43, .iload_n 2, 1), (44, .iaload, 1), (45, .isub, 1), (46, .iastore, 1), (47, .aload_n 0, 1), (48, .getfield 49, 3), (51, .getfield 145, 3), (54, .iload_n 1, 1), (55, .iload_n 2, 1), (56, .iastore, 1), (57, .aload_n 0, 1), (58, .getfield 49, 3), (61, .getfield 148, 3), (64, .iload_n 2, 1), (65, .iload_n 1, 1), (66, .iastore, 1), (67, .iconst 1, 1), (68, .ireturn, 1)]
theorem dc_X6_marry : DEC prog_8_method_31_code pc_X6_marry dl_X6_marry := DEC_of (by decide +kernel)
abbrev rm_X6_marry : Room := { frames := 3, cells := 0, slots := 0, locals := 68 }
set_option maxRecDepth 20000 in
theorem sa_X6_marry (l : Launch) : SNDALL l prog_8_method_31_code "GivenUp$Valley" 3 (some .boolean) rm_X6_marry P_X6_marry pc_X6_marry := fun p e s m args below meth c cells slots Q D dA ad A RR hC hR => by
  have hM := RTX_room (R := rm_X6_marry) hR
  exact ⟨st_aload_n hC (n := 0) (k := 0) (dc_X6_marry 0 (0, .aload_n 0, 1) rfl rfl) rfl rfl,
    st_iload_n hC (n := 1) (k := 1) (dc_X6_marry 1 (1, .iload_n 1, 1) rfl rfl) rfl rfl,
    st_iload_n hC (n := 2) (k := 2) (dc_X6_marry 2 (2, .iload_n 2, 1) rfl rfl) rfl rfl,
    st_callV hC (n := 3) (k := 6) (na := 2) (con_X6_isWilling l) (dc_X6_marry 3 (3, .invokevirtual 169, 3) rfl rfl) rfl wd_1155 wd_155 (by decide) ⟨rfl, rfl, by decide, by decide⟩ hM wd_1174 wd_1153 wd_1154 clf_6,
    st_ifeq hC (n := 4) (dc_X6_marry 4 (6, .ifCond .eq 21, 3) rfl rfl) rfl (by decide),
    st_aload_n hC (n := 5) (k := 0) (dc_X6_marry 5 (9, .aload_n 0, 1) rfl rfl) rfl rfl,
    st_getR hC (n := 6) (k := 6) (j := 11) (dc_X6_marry 6 (10, .getfield 49, 3) rfl rfl) rfl clf_6 (by decide) rfl (by decide) wd_610,
    st_getR hC (n := 7) (k := 1) (j := 0) (dc_X6_marry 7 (13, .getfield 172, 3) rfl rfl) rfl clf_1 (by decide) rfl (by decide) wd_466,
    st_iload_n hC (n := 8) (k := 1) (dc_X6_marry 8 (16, .iload_n 1, 1) rfl rfl) rfl rfl,
    st_iald hC (n := 9) (dc_X6_marry 9 (17, .iaload, 1) rfl rfl) rfl,
    st_aload_n hC (n := 10) (k := 0) (dc_X6_marry 10 (18, .aload_n 0, 1) rfl rfl) rfl rfl,
    st_getR hC (n := 11) (k := 6) (j := 5) (dc_X6_marry 11 (19, .getfield 28, 3) rfl rfl) rfl clf_6 (by decide) rfl (by decide) wd_592,
    st_iload_n hC (n := 12) (k := 2) (dc_X6_marry 12 (22, .iload_n 2, 1) rfl rfl) rfl rfl,
    st_iald hC (n := 13) (dc_X6_marry 13 (23, .iaload, 1) rfl rfl) rfl,
    st_icge hC (n := 14) (dc_X6_marry 14 (24, .if_icmp .ge 5, 3) rfl rfl) rfl (by decide),
    st_iconst hC (n := 15) (x := 0) (dc_X6_marry 15 (27, .iconst 0, 1) rfl rfl) rfl (by decide),
    st_zret hC (n := 16) hR (dc_X6_marry 16 (28, .ireturn, 1) rfl rfl),
    st_aload_n hC (n := 17) (k := 0) (dc_X6_marry 17 (29, .aload_n 0, 1) rfl rfl) rfl rfl,
    st_getR hC (n := 18) (k := 6) (j := 11) (dc_X6_marry 18 (30, .getfield 49, 3) rfl rfl) rfl clf_6 (by decide) rfl (by decide) wd_610,
    st_getR hC (n := 19) (k := 1) (j := 0) (dc_X6_marry 19 (33, .getfield 172, 3) rfl rfl) rfl clf_1 (by decide) rfl (by decide) wd_466,
    st_iload_n hC (n := 20) (k := 1) (dc_X6_marry 20 (36, .iload_n 1, 1) rfl rfl) rfl rfl,
    st_dup2 hC (n := 21) (dc_X6_marry 21 (37, .dup2, 1) rfl rfl) rfl,
    st_iald hC (n := 22) (dc_X6_marry 22 (38, .iaload, 1) rfl rfl) rfl,
    st_aload_n hC (n := 23) (k := 0) (dc_X6_marry 23 (39, .aload_n 0, 1) rfl rfl) rfl rfl,
    st_getR hC (n := 24) (k := 6) (j := 5) (dc_X6_marry 24 (40, .getfield 28, 3) rfl rfl) rfl clf_6 (by decide) rfl (by decide) wd_592,
    st_iload_n hC (n := 25) (k := 2) (dc_X6_marry 25 (43, .iload_n 2, 1) rfl rfl) rfl rfl,
    st_iald hC (n := 26) (dc_X6_marry 26 (44, .iaload, 1) rfl rfl) rfl,
    st_isub hC (n := 27) (dc_X6_marry 27 (45, .isub, 1) rfl rfl) rfl,
    st_iast hC (n := 28) (dc_X6_marry 28 (46, .iastore, 1) rfl rfl) rfl,
    st_aload_n hC (n := 29) (k := 0) (dc_X6_marry 29 (47, .aload_n 0, 1) rfl rfl) rfl rfl,
    st_getR hC (n := 30) (k := 6) (j := 11) (dc_X6_marry 30 (48, .getfield 49, 3) rfl rfl) rfl clf_6 (by decide) rfl (by decide) wd_610,
    st_getR hC (n := 31) (k := 1) (j := 2) (dc_X6_marry 31 (51, .getfield 145, 3) rfl rfl) rfl clf_1 (by decide) rfl (by decide) wd_473,
    st_iload_n hC (n := 32) (k := 1) (dc_X6_marry 32 (54, .iload_n 1, 1) rfl rfl) rfl rfl,
    st_iload_n hC (n := 33) (k := 2) (dc_X6_marry 33 (55, .iload_n 2, 1) rfl rfl) rfl rfl,
    st_iast hC (n := 34) (dc_X6_marry 34 (56, .iastore, 1) rfl rfl) rfl,
    st_aload_n hC (n := 35) (k := 0) (dc_X6_marry 35 (57, .aload_n 0, 1) rfl rfl) rfl rfl,
    st_getR hC (n := 36) (k := 6) (j := 11) (dc_X6_marry 36 (58, .getfield 49, 3) rfl rfl) rfl clf_6 (by decide) rfl (by decide) wd_610,
    st_getR hC (n := 37) (k := 1) (j := 3) (dc_X6_marry 37 (61, .getfield 148, 3) rfl rfl) rfl clf_1 (by decide) rfl (by decide) wd_476,
    st_iload_n hC (n := 38) (k := 2) (dc_X6_marry 38 (64, .iload_n 2, 1) rfl rfl) rfl rfl,
    st_iload_n hC (n := 39) (k := 1) (dc_X6_marry 39 (65, .iload_n 1, 1) rfl rfl) rfl rfl,
    st_iast hC (n := 40) (dc_X6_marry 40 (66, .iastore, 1) rfl rfl) rfl,
    st_iconst hC (n := 41) (x := 1) (dc_X6_marry 41 (67, .iconst 1, 1) rfl rfl) rfl (by decide),
    st_zret hC (n := 42) hR (dc_X6_marry 42 (68, .ireturn, 1) rfl rfl), trivial⟩
set_option maxRecDepth 8000 in
theorem vc_X6_marry : VC P_X6_marry 3 Pre_X6_marry Fn_X6_marry := by
  rintro mm as hom hoa ⟨g, ns, nm, nt, s, d, hV, hs, hd, rfl⟩
  refine ⟨Nat.le_of_ble_eq_true rfl, fun X h => ?_⟩
  have es : (nI s).toNatClampNeg = s := nI_clamp (by omega)
  have ed : (nI d).toNatClampNeg = d := nI_clamp (by omega)
  have hw : wdP (abV mm g) s d ↔ ysA (abV mm g) s d ∧ ¬ mm.1 16 g s < mm.1 34 g d := by
    unfold wdP
    rw [ab_cow hs, ab_mot hd]
  have hF : Fn_X6_marry mm [vR 6 g, vI (nI s), vI (nI d)] = (some (vI (bI (wdP (abV mm g) s d))), mite (wdP (abV mm g) s d) (mrM mm g s d) mm) := by
    show (some (vI (bI (wdP (abV mm g) (nI s).toNatClampNeg (nI d).toNatClampNeg))), mite (wdP (abV mm g) (nI s).toNatClampNeg (nI d).toNatClampNeg) (mrM mm g (nI s).toNatClampNeg (nI d).toNatClampNeg) mm) = _
    simp only [es, ed]
  rw [hF] at h
  have no : ¬ wdP (abV mm g) s d → X 15 [some (vR 6 g), some (vI (nI s)), some (vI (nI d))] [] mm := by
    intro hc
    show X 15 [some (vR 6 g), some (vI (nI s)), some (vI (nI d))] [] mm
    refine h (fun _ => false) 3000 15 _ _ _ ?_
    refine And.intro (Or.inl rfl) ?_
    show ((some (vI 0) : Option MV), mm) = _
    exact rit_f hc
  show X 0 [some (vR 6 g), some (vI (nI s)), some (vI (nI d))] [] mm
  refine h (fun i => Nat.beq i 15) 3000 0 _ _ _ ?_
  refine And.intro (show Pre_X6_isWilling mm [vR 6 g, vI (nI s), vI (nI d)] from ⟨g, ns, nm, nt, s, d, hV, hs, hd, rfl⟩) ?_
  refine br_c (fun b4 => ?_) (fun b4 => ?_)
  · -- 4: bI (ysA (abV mm g) (nI s).toNatClampNeg (nI d).toNatClampNeg) = 0 taken
    replace b4 : ¬ (ysA (abV mm g) (nI s).toNatClampNeg (nI d).toNatClampNeg) := bI_0.mp b4
    (try simp only [es, ed] at b4)
    show X 15 [some (vR 6 g), some (vI (nI s)), some (vI (nI d))] [] mm
    (try simp only [es, ed])
    exact no (fun z => b4 (hw.mp z).1)
  · -- 4: bI (ysA (abV mm g) (nI s).toNatClampNeg (nI d).toNatClampNeg) = 0 on
    replace b4 : ysA (abV mm g) (nI s).toNatClampNeg (nI d).toNatClampNeg := bI_n0.mp b4
    (try simp only [es, ed] at b4)
    refine And.intro (show inb (nI s) (alen 16) = true from (inb_o 4 rfl rfl rfl (by omega))) ?_
    refine And.intro (show inb (nI d) (alen 34) = true from (inb_o 4 rfl rfl rfl (by omega))) ?_
    refine br_c (fun b14 => ?_) (fun b14 => ?_)
    · -- 14: mm.1 34 g ((nI d).toNatClampNeg) ≤ mm.1 16 g ((nI s).toNatClampNeg) taken
      replace b14 : mm.1 34 g ((nI d).toNatClampNeg) ≤ mm.1 16 g ((nI s).toNatClampNeg) := b14
      (try simp only [es, ed] at b14)
      refine And.intro (show inb (nI s) (alen 16) = true from (inb_o 4 rfl rfl rfl (by omega))) ?_
      refine And.intro (show inb (nI d) (alen 34) = true from (inb_o 4 rfl rfl rfl (by omega))) ?_
      refine And.intro (show inb (nI s) (alen 16) = true from (inb_o 4 rfl rfl rfl (by omega))) ?_
      refine And.intro (show inb (nI s) (alen 18) = true from (inb_o 4 rfl rfl rfl (by omega))) ?_
      refine And.intro (show inb (nI d) (alen 19) = true from (inb_o 4 rfl rfl rfl (by omega))) ?_
      refine And.intro (Or.inr rfl) ?_
      show ((some (vI 1) : Option MV), mRow (mRow (mRow mm 16 g (upd (mm.1 16 g) (nI s).toNatClampNeg ((mm.1 16 g ((nI s).toNatClampNeg)) - (mm.1 34 g ((nI d).toNatClampNeg))))) 18 g (upd (mm.1 18 g) (nI s).toNatClampNeg (nI d))) 19 g (upd (mm.1 19 g) (nI d).toNatClampNeg (nI s))) = _
      (try simp only [es, ed])
      exact rit_t (hw.mpr ⟨b4, Int32.not_lt.mpr b14⟩)
    · -- 14: mm.1 34 g ((nI d).toNatClampNeg) ≤ mm.1 16 g ((nI s).toNatClampNeg) on
      replace b14 : ¬ (mm.1 34 g ((nI d).toNatClampNeg) ≤ mm.1 16 g ((nI s).toNatClampNeg)) := b14
      (try simp only [es, ed] at b14)
      show X 15 [some (vR 6 g), some (vI (nI s)), some (vI (nI d))] [] mm
      (try simp only [es, ed])
      exact no (fun z => (hw.mp z).2 (Int32.not_le.mp b14))
theorem con_X6_marry (l : Launch) : CON l y_X6_marry prog_8_method_31_code 3 (some .boolean) rm_X6_marry Pre_X6_marry Fn_X6_marry := CON_of (by decide) rfl rfl (sa_X6_marry l) vc_X6_marry
def wfA (a : Nat → Int32) : Int32 := if frP a then 0 else a 5 - (a 6 - a 6 / a 5 * a 5)

--tpl ⟨_, _, _, _, by assumption, rfl⟩ || wfA (abV {m} {g0})
def Pre_X6_weeksToFair : PreT := fun m as => ∃ g ns nm nt, VC2 m g ns nm nt ∧ as = [vR 6 g]
def Fn_X6_weeksToFair : FnT := fun m as => match as with
  | [Sum.inr (Sum.inr q)] => (some (vI (wfA (abV m q.2))), m)
  | _ => (none, m)
abbrev y_X6_weeksToFair : MethodName := ⟨"GivenUp$Valley", "weeksToFair", "()I"⟩
def P_X6_weeksToFair : List StpT := [s_aload 0, s_getI 6 18, s_ifle 10, s_aload 0, s_getR 6 11 1, s_getI 1 4, s_aload 0, s_getI 6 18, s_irem, s_goto 11, s_ic (0), s_istore 1, s_iload 1, s_ifne 20, s_aload 0, s_getR 6 11 1, s_getI 1 4, s_ifle 20, s_ic (0), s_goto 24, s_aload 0, s_getI 6 18, s_iload 1, s_isub, s_iret]
def pc_X6_weeksToFair : Nat → Nat := fun i => [0, 1, 4, 7, 8, 11, 14, 15, 18, 19, 22, 23, 24, 25, 28, 29, 32, 35, 38, 39, 42, 43, 46, 47, 48].getD i 0
def dl_X6_weeksToFair : List (Nat × Instr × Nat) := [(0, .aload_n 0, 1), (1, .getfield 76, 3), (4, .ifCond .le 18, 3), (7, .aload_n 0, 1), (8, .getfield 49, 3), (11, .getfield 142, 3), (14, .aload_n 0, 1), (15, .getfield 76, 3), (18, .irem, 1), (19, .goto 4, 3), (22, .iconst 0, 1), (23, .istore_n 1, 1), (24, .iload_n 1, 1), (25, .ifCond .ne 17, 3), (28, .aload_n 0, 1), (29, .getfield 49, 3), (32, .getfield 142, 3), (35, .ifCond .le 7, 3), (38, .iconst 0, 1), (39, .goto 9, 3), (42, .aload_n 0, 1), (43, .getfield 76, 3), (46, .iload_n 1, 1), (47, .isub, 1), (48, .ireturn, 1)]
theorem dc_X6_weeksToFair : DEC prog_8_method_32_code pc_X6_weeksToFair dl_X6_weeksToFair := DEC_of (by decide +kernel)
abbrev rm_X6_weeksToFair : Room := { frames := 0, cells := 0, slots := 0, locals := 0 }
set_option maxRecDepth 20000 in
theorem sa_X6_weeksToFair (l : Launch) : SNDALL l prog_8_method_32_code "GivenUp$Valley" 2 (some .int) rm_X6_weeksToFair P_X6_weeksToFair pc_X6_weeksToFair := fun p e s m args below meth c cells slots Q D dA ad A RR hC hR => by
  have hM := RTX_room (R := rm_X6_weeksToFair) hR
  exact ⟨st_aload_n hC (n := 0) (k := 0) (dc_X6_weeksToFair 0 (0, .aload_n 0, 1) rfl rfl) rfl rfl,
    st_getI hC (n := 1) (k := 6) (j := 18) (dc_X6_weeksToFair 1 (1, .getfield 76, 3) rfl rfl) rfl clf_6 (by decide) rfl wd_641,
    st_ifle hC (n := 2) (dc_X6_weeksToFair 2 (4, .ifCond .le 18, 3) rfl rfl) rfl (by decide),
    st_aload_n hC (n := 3) (k := 0) (dc_X6_weeksToFair 3 (7, .aload_n 0, 1) rfl rfl) rfl rfl,
    st_getR hC (n := 4) (k := 6) (j := 11) (dc_X6_weeksToFair 4 (8, .getfield 49, 3) rfl rfl) rfl clf_6 (by decide) rfl (by decide) wd_610,
    st_getI hC (n := 5) (k := 1) (j := 4) (dc_X6_weeksToFair 5 (11, .getfield 142, 3) rfl rfl) rfl clf_1 (by decide) rfl wd_480,
    st_aload_n hC (n := 6) (k := 0) (dc_X6_weeksToFair 6 (14, .aload_n 0, 1) rfl rfl) rfl rfl,
    st_getI hC (n := 7) (k := 6) (j := 18) (dc_X6_weeksToFair 7 (15, .getfield 76, 3) rfl rfl) rfl clf_6 (by decide) rfl wd_641,
    st_irem hC (n := 8) (dc_X6_weeksToFair 8 (18, .irem, 1) rfl rfl) rfl,
    st_goto hC (n := 9) (dc_X6_weeksToFair 9 (19, .goto 4, 3) rfl rfl) (by decide),
    st_iconst hC (n := 10) (x := 0) (dc_X6_weeksToFair 10 (22, .iconst 0, 1) rfl rfl) rfl (by decide),
    st_istore_n hC (n := 11) (k := 1) (dc_X6_weeksToFair 11 (23, .istore_n 1, 1) rfl rfl) rfl rfl (by decide),
    st_iload_n hC (n := 12) (k := 1) (dc_X6_weeksToFair 12 (24, .iload_n 1, 1) rfl rfl) rfl rfl,
    st_ifne hC (n := 13) (dc_X6_weeksToFair 13 (25, .ifCond .ne 17, 3) rfl rfl) rfl (by decide),
    st_aload_n hC (n := 14) (k := 0) (dc_X6_weeksToFair 14 (28, .aload_n 0, 1) rfl rfl) rfl rfl,
    st_getR hC (n := 15) (k := 6) (j := 11) (dc_X6_weeksToFair 15 (29, .getfield 49, 3) rfl rfl) rfl clf_6 (by decide) rfl (by decide) wd_610,
    st_getI hC (n := 16) (k := 1) (j := 4) (dc_X6_weeksToFair 16 (32, .getfield 142, 3) rfl rfl) rfl clf_1 (by decide) rfl wd_480,
    st_ifle hC (n := 17) (dc_X6_weeksToFair 17 (35, .ifCond .le 7, 3) rfl rfl) rfl (by decide),
    st_iconst hC (n := 18) (x := 0) (dc_X6_weeksToFair 18 (38, .iconst 0, 1) rfl rfl) rfl (by decide),
    st_goto hC (n := 19) (dc_X6_weeksToFair 19 (39, .goto 9, 3) rfl rfl) (by decide),
    st_aload_n hC (n := 20) (k := 0) (dc_X6_weeksToFair 20 (42, .aload_n 0, 1) rfl rfl) rfl rfl,
    st_getI hC (n := 21) (k := 6) (j := 18) (dc_X6_weeksToFair 21 (43, .getfield 76, 3) rfl rfl) rfl clf_6 (by decide) rfl wd_641,
    st_iload_n hC (n := 22) (k := 1) (dc_X6_weeksToFair 22 (46, .iload_n 1, 1) rfl rfl) rfl rfl,
    st_isub hC (n := 23) (dc_X6_weeksToFair 23 (47, .isub, 1) rfl rfl) rfl,
    st_iret hC (n := 24) hR (dc_X6_weeksToFair 24 (48, .ireturn, 1) rfl rfl), trivial⟩
set_option maxRecDepth 8000 in
theorem vc_X6_weeksToFair : VC P_X6_weeksToFair 2 Pre_X6_weeksToFair Fn_X6_weeksToFair := by
  rintro mm as hom hoa ⟨g, ns, nm, nt, hV, rfl⟩
  refine ⟨Nat.le_of_ble_eq_true rfl, fun X h => ?_⟩
  obtain ⟨f, hf1, hf2, ef⟩ := hV.1.2.2.2.2.2
  have ef2 : mm.1 6 g 18 = nI f := ef
  have hF : Fn_X6_weeksToFair mm [vR 6 g] = (some (vI (if ¬ mm.1 1 g 4 ≤ 0 ∧ mm.1 1 g 4 - mm.1 1 g 4 / mm.1 6 g 18 * mm.1 6 g 18 = 0 then 0 else mm.1 6 g 18 - (mm.1 1 g 4 - mm.1 1 g 4 / mm.1 6 g 18 * mm.1 6 g 18))), mm) := rfl
  rw [hF] at h
  show X 0 [some (vR 6 g), none] [] mm
  refine h (fun _ => false) 3000 0 _ _ _ ?_
  refine br_f (show ¬ (mm.1 6 g 18 ≤ 0) from by rw [ef2]; exact fun z => by rw [show (0 : Int32) = nI 0 from rfl, nI_leI (by omega) (by omega)] at z; omega) ?_
  refine And.intro (fun z => by rw [ef2] at z; have := (nI_eq (a := f) (b := 0) (by omega) (by omega)).mp z; omega) ?_
  refine brn_c (fun b13 => ?_) (fun b13 => ?_)
  · -- 13: (mm.1 1 g 4) - (mm.1 1 g 4) / (mm.1 6 g 18) * (mm.1 6 g 18) = 0 taken
    replace b13 : ¬ ((mm.1 1 g 4) - (mm.1 1 g 4) / (mm.1 6 g 18) * (mm.1 6 g 18) = 0) := b13
    show ((some (vI ((mm.1 6 g 18) - ((mm.1 1 g 4) - (mm.1 1 g 4) / (mm.1 6 g 18) * (mm.1 6 g 18)))) : Option MV), mm) = _
    refine leaf ?_
    rw [if_neg (fun z => b13 z.2)]
  · -- 13: (mm.1 1 g 4) - (mm.1 1 g 4) / (mm.1 6 g 18) * (mm.1 6 g 18) = 0 on
    replace b13 : (mm.1 1 g 4) - (mm.1 1 g 4) / (mm.1 6 g 18) * (mm.1 6 g 18) = 0 := b13
    refine br_c (fun b17 => ?_) (fun b17 => ?_)
    · -- 17: mm.1 1 g 4 ≤ 0 taken
      replace b17 : mm.1 1 g 4 ≤ 0 := b17
      show ((some (vI ((mm.1 6 g 18) - ((mm.1 1 g 4) - (mm.1 1 g 4) / (mm.1 6 g 18) * (mm.1 6 g 18)))) : Option MV), mm) = _
      refine leaf ?_
      rw [if_neg (fun z => z.1 b17)]
    · -- 17: mm.1 1 g 4 ≤ 0 on
      replace b17 : ¬ (mm.1 1 g 4 ≤ 0) := b17
      show ((some (vI 0) : Option MV), mm) = _
      refine leaf ?_
      rw [if_pos ⟨b17, b13⟩]
theorem con_X6_weeksToFair (l : Launch) : CON l y_X6_weeksToFair prog_8_method_32_code 2 (some .int) rm_X6_weeksToFair Pre_X6_weeksToFair Fn_X6_weeksToFair := CON_of (by decide) rfl rfl (sa_X6_weeksToFair l) vc_X6_weeksToFair
theorem bhA_st (a : Nat → Int32) (t : Nat) : ∀ n, n ≤ 31 → bhA a t n = nI (stN (fun j => inS (a 8) (nI j) ∧ inS (a (46 + 3 * j)) (nI t)) n)
  | 0, _ => rfl
  | n + 1, h => st_or _ (bhA_st a t n (by omega)) (by omega)
theorem st_z {P : Nat → Prop} [DecidablePred P] {n : Nat} (hn : n ≤ 30) : nI (stN P n) = 0 ↔ ∀ o, o < n → ¬ P o := by
  have hlt : stN P n < 2 ^ 31 := Nat.lt_trans (stN_lt P n) (Nat.pow_lt_pow_right (by omega) (by omega))
  have e : nI (stN P n) = 0 ↔ stN P n = 0 := nI_eq (b := 0) hlt (by omega)
  rw [e]
  constructor
  · intro z o ho hp
    have := (stN_bit P n o).mpr ⟨ho, hp⟩
    rw [z, Nat.zero_testBit] at this
    exact Bool.noConfusion this
  · intro z
    refine Nat.eq_of_testBit_eq (fun i => ?_)
    rw [Nat.zero_testBit]
    exact Bool.eq_false_iff.mpr (fun y => by
      obtain ⟨h1, h2⟩ := (stN_bit P n i).mp y
      exact z i h1 h2)
theorem bhA_z {a : Nat → Int32} {t n : Nat} (hn : n ≤ 12) : bhA a t n = 0 ↔ ∀ o, o < n → ¬ (inS (a 8) (nI o) ∧ inS (a (46 + 3 * o)) (nI t)) := by
  rw [bhA_st a t n (by omega)]
  exact st_z (by omega)

--tpl ⟨_, _, _, _, {1N}, by assumption, by omega, rfl⟩ || bI (¬ bhA (abV {m} {g0}) {1n} ({r 1 6 {g0} 15}).toNatClampNeg = 0)
def Pre_X6_isNeededByGiven : PreT := fun m as => ∃ g ns nm nt t, VC2 m g ns nm nt ∧ t < 12 ∧ as = [vR 6 g, vI (nI t)]
def Fn_X6_isNeededByGiven : FnT := fun m as => match as with
  | [Sum.inr (Sum.inr q), Sum.inl t] => (some (vI (bI (¬ bhA (abV m q.2) t.toNatClampNeg (m.1 6 q.2 15).toNatClampNeg = 0))), m)
  | _ => (none, m)
abbrev y_X6_isNeededByGiven : MethodName := ⟨"GivenUp$Valley", "isNeededByGiven", "(I)Z"⟩
def P_X6_isNeededByGiven : List StpT := [s_ic (0), s_istore 2, s_iload 2, s_aload 0, s_getI 6 15, s_icge 23, s_aload 0, s_getR 6 11 1, s_getI 1 5, s_iload 2, s_callS 2 Pre_X11_holds Fn_X11_holds, s_ifeq 21, s_aload 0, s_getR 6 8 37, s_iload 2, s_iald, s_iload 1, s_callS 2 Pre_X11_holds Fn_X11_holds, s_ifeq 21, s_ic (1), s_zret, s_iinc 2 (1), s_goto 2, s_ic (0), s_zret]
def pc_X6_isNeededByGiven : Nat → Nat := fun i => [0, 1, 2, 3, 4, 7, 10, 11, 14, 17, 18, 21, 24, 25, 28, 29, 30, 31, 34, 37, 38, 39, 42, 45, 46].getD i 0
def dl_X6_isNeededByGiven : List (Nat × Instr × Nat) := [(0, .iconst 0, 1), (1, .istore_n 2, 1), (2, .iload_n 2, 1), (3, .aload_n 0, 1), (4, .getfield 67, 3), (7, .if_icmp .ge 38, 3), (10, .aload_n 0, 1), (11, .getfield 49, 3), (14, .getfield 129, 3), (17, .iload_n 2, 1), (18, .invokestatic 116, 3), (21, .ifCond .eq 18, 3), (24, .aload_n 0, 1), (25, .getfield 37, 3), (28, .iload_n 2, 1), (29, .iaload, 1), (30, .iload_n 1, 1), (31, .invokestatic 116, 3), (34, .ifCond .eq 5, 3), (37, .iconst 1, 1), (38, .ireturn, 1), (39, .iinc 2 1, 3), (42, .goto (-40), 3), (45, .iconst 0, 1), (46, .ireturn, 1)]
theorem dc_X6_isNeededByGiven : DEC prog_8_method_34_code pc_X6_isNeededByGiven dl_X6_isNeededByGiven := DEC_of (by decide +kernel)
abbrev rm_X6_isNeededByGiven : Room := { frames := 1, cells := 0, slots := 0, locals := 21 }
set_option maxRecDepth 20000 in
theorem sa_X6_isNeededByGiven (l : Launch) : SNDALL l prog_8_method_34_code "GivenUp$Valley" 3 (some .boolean) rm_X6_isNeededByGiven P_X6_isNeededByGiven pc_X6_isNeededByGiven := fun p e s m args below meth c cells slots Q D dA ad A RR hC hR => by
  have hM := RTX_room (R := rm_X6_isNeededByGiven) hR
  exact ⟨st_iconst hC (n := 0) (x := 0) (dc_X6_isNeededByGiven 0 (0, .iconst 0, 1) rfl rfl) rfl (by decide),
    st_istore_n hC (n := 1) (k := 2) (dc_X6_isNeededByGiven 1 (1, .istore_n 2, 1) rfl rfl) rfl rfl (by decide),
    st_iload_n hC (n := 2) (k := 2) (dc_X6_isNeededByGiven 2 (2, .iload_n 2, 1) rfl rfl) rfl rfl,
    st_aload_n hC (n := 3) (k := 0) (dc_X6_isNeededByGiven 3 (3, .aload_n 0, 1) rfl rfl) rfl rfl,
    st_getI hC (n := 4) (k := 6) (j := 15) (dc_X6_isNeededByGiven 4 (4, .getfield 67, 3) rfl rfl) rfl clf_6 (by decide) rfl wd_629,
    st_icge hC (n := 5) (dc_X6_isNeededByGiven 5 (7, .if_icmp .ge 38, 3) rfl rfl) rfl (by decide),
    st_aload_n hC (n := 6) (k := 0) (dc_X6_isNeededByGiven 6 (10, .aload_n 0, 1) rfl rfl) rfl rfl,
    st_getR hC (n := 7) (k := 6) (j := 11) (dc_X6_isNeededByGiven 7 (11, .getfield 49, 3) rfl rfl) rfl clf_6 (by decide) rfl (by decide) wd_610,
    st_getI hC (n := 8) (k := 1) (j := 5) (dc_X6_isNeededByGiven 8 (14, .getfield 129, 3) rfl rfl) rfl clf_1 (by decide) rfl wd_483,
    st_iload_n hC (n := 9) (k := 2) (dc_X6_isNeededByGiven 9 (17, .iload_n 2, 1) rfl rfl) rfl rfl,
    st_callSN hC (n := 10) (na := 2) (con_X11_holds l) (dc_X6_isNeededByGiven 10 (18, .invokestatic 116, 3) rfl rfl) rfl wd_955 wd_143 (by decide) ⟨rfl, rfl, by decide, by decide⟩ hM ⟨"GivenUp", by decide⟩ wd_954,
    st_ifeq hC (n := 11) (dc_X6_isNeededByGiven 11 (21, .ifCond .eq 18, 3) rfl rfl) rfl (by decide),
    st_aload_n hC (n := 12) (k := 0) (dc_X6_isNeededByGiven 12 (24, .aload_n 0, 1) rfl rfl) rfl rfl,
    st_getR hC (n := 13) (k := 6) (j := 8) (dc_X6_isNeededByGiven 13 (25, .getfield 37, 3) rfl rfl) rfl clf_6 (by decide) rfl (by decide) wd_601,
    st_iload_n hC (n := 14) (k := 2) (dc_X6_isNeededByGiven 14 (28, .iload_n 2, 1) rfl rfl) rfl rfl,
    st_iald hC (n := 15) (dc_X6_isNeededByGiven 15 (29, .iaload, 1) rfl rfl) rfl,
    st_iload_n hC (n := 16) (k := 1) (dc_X6_isNeededByGiven 16 (30, .iload_n 1, 1) rfl rfl) rfl rfl,
    st_callSN hC (n := 17) (na := 2) (con_X11_holds l) (dc_X6_isNeededByGiven 17 (31, .invokestatic 116, 3) rfl rfl) rfl wd_955 wd_143 (by decide) ⟨rfl, rfl, by decide, by decide⟩ hM ⟨"GivenUp", by decide⟩ wd_954,
    st_ifeq hC (n := 18) (dc_X6_isNeededByGiven 18 (34, .ifCond .eq 5, 3) rfl rfl) rfl (by decide),
    st_iconst hC (n := 19) (x := 1) (dc_X6_isNeededByGiven 19 (37, .iconst 1, 1) rfl rfl) rfl (by decide),
    st_zret hC (n := 20) hR (dc_X6_isNeededByGiven 20 (38, .ireturn, 1) rfl rfl),
    st_iinc hC (n := 21) (x := 1) (dc_X6_isNeededByGiven 21 (39, .iinc 2 1, 3) rfl rfl) rfl (by decide) (by decide),
    st_goto hC (n := 22) (dc_X6_isNeededByGiven 22 (42, .goto (-40), 3) rfl rfl) (by decide),
    st_iconst hC (n := 23) (x := 0) (dc_X6_isNeededByGiven 23 (45, .iconst 0, 1) rfl rfl) rfl (by decide),
    st_zret hC (n := 24) hR (dc_X6_isNeededByGiven 24 (46, .ireturn, 1) rfl rfl), trivial⟩
set_option maxRecDepth 8000 in
theorem vc_X6_isNeededByGiven : VC P_X6_isNeededByGiven 3 Pre_X6_isNeededByGiven Fn_X6_isNeededByGiven := by
  rintro mm as hom hoa ⟨g, ns, nm, n, t, hV, ht, rfl⟩
  refine ⟨Nat.le_of_ble_eq_true rfl, fun X h => ?_⟩
  have hn : mm.1 6 g 15 = nI n := hV.1.2.2.1.1
  have hn12 : n ≤ 12 := hV.1.2.2.1.2
  have hF : Fn_X6_isNeededByGiven mm [vR 6 g, vI (nI t)] = (some (vI (bI (¬ bhA (abV mm g) t n = 0))), mm) := by
    show (some (vI (bI (¬ bhA (abV mm g) (nI t).toNatClampNeg (mm.1 6 g 15).toNatClampNeg = 0))), mm) = _
    rw [hn]
    simp only [nI_clamp (show t < 2 ^ 31 by omega), nI_clamp (show n < 2 ^ 31 by omega)]
  rw [hF] at h
  have loop : ∀ k, k ≤ n → (∀ o, o < k → ¬ (inS (mm.1 1 g 5) (nI o) ∧ inS (mm.1 37 g o) (nI t))) → X 2 [some (vR 6 g), some (vI (nI t)), some (vI (nI k))] [] mm := by
    refine up_ind n ?_ (fun k hk ih => ?_)
    · intro hall
      have hz : bhA (abV mm g) t n = 0 := (bhA_z hn12).mpr (fun o ho z => hall o ho ⟨z.1, by rw [← ab_aft (show o < 12 by omega)]; exact z.2⟩)
      show X 2 [some (vR 6 g), some (vI (nI t)), some (vI (nI n))] [] mm
      refine h (fun _ => false) 3000 2 _ _ _ ?_
      refine br_t (show mm.1 6 g 15 ≤ nI n from by rw [hn]; exact Int32.le_refl _) ?_
      refine And.intro (Or.inl rfl) ?_
      show ((some (vI 0) : Option MV), mm) = _
      exact ret_f (fun z => z hz)
    · intro hall
      have ek : (nI k).toNatClampNeg = k := nI_clamp (by omega)
      have on : ¬ (inS (mm.1 1 g 5) (nI k) ∧ inS (mm.1 37 g k) (nI t)) → X 21 [some (vR 6 g), some (vI (nI t)), some (vI (nI k))] [] mm := by
        intro hc
        show X 21 [some (vR 6 g), some (vI (nI t)), some (vI (nI k))] [] mm
        refine h (fun i => Nat.beq i 2) 3000 21 _ _ _ ?_
        show X 2 [some (vR 6 g), some (vI (nI t)), some (vI ((nI k) + 1))] [] mm
        rw [nI_1]
        refine ih (fun o ho => ?_) 
        rcases Nat.eq_or_lt_of_le (Nat.le_of_lt_succ ho) with q | q 
        · rw [q]; exact hc 
        · exact hall o q
      show X 2 [some (vR 6 g), some (vI (nI t)), some (vI (nI k))] [] mm
      refine h (fun i => Nat.beq i 21) 3000 2 _ _ _ ?_
      refine br_f (show ¬ (mm.1 6 g 15 ≤ nI k) from by rw [hn]; exact nI_ge hk (by omega)) ?_
      refine And.intro (show Pre_X11_holds mm [vI (mm.1 1 g 5), vI (nI k)] from ⟨_, _, rfl⟩) ?_
      refine br_c (fun b11 => ?_) (fun b11 => ?_)
      · -- 11: bI (inS (mm.1 1 g 5) (nI k)) = 0 taken
        replace b11 : ¬ (inS (mm.1 1 g 5) (nI k)) := bI_0.mp b11
        (try simp only [ek] at b11)
        show X 21 [some (vR 6 g), some (vI (nI t)), some (vI (nI k))] [] mm
        (try simp only [ek])
        exact on (fun z => b11 z.1)
      · -- 11: bI (inS (mm.1 1 g 5) (nI k)) = 0 on
        replace b11 : inS (mm.1 1 g 5) (nI k) := bI_n0.mp b11
        (try simp only [ek] at b11)
        refine And.intro (show inb (nI k) (alen 37) = true from (inb_o 12 rfl rfl rfl (by omega))) ?_
        refine And.intro (show Pre_X11_holds mm [vI (mm.1 37 g ((nI k).toNatClampNeg)), vI (nI t)] from ⟨_, _, rfl⟩) ?_
        refine br_c (fun b18 => ?_) (fun b18 => ?_)
        · -- 18: bI (inS (mm.1 37 g ((nI k).toNatClampNeg)) (nI t)) = 0 taken
          replace b18 : ¬ (inS (mm.1 37 g ((nI k).toNatClampNeg)) (nI t)) := bI_0.mp b18
          (try simp only [ek] at b18)
          show X 21 [some (vR 6 g), some (vI (nI t)), some (vI (nI k))] [] mm
          (try simp only [ek])
          exact on (fun z => b18 z.2)
        · -- 18: bI (inS (mm.1 37 g ((nI k).toNatClampNeg)) (nI t)) = 0 on
          replace b18 : inS (mm.1 37 g ((nI k).toNatClampNeg)) (nI t) := bI_n0.mp b18
          (try simp only [ek] at b18)
          refine And.intro (Or.inr rfl) ?_
          show ((some (vI 1) : Option MV), mm) = _
          (try simp only [ek])
          exact ret_t (fun z => (bhA_z hn12).mp z k hk ⟨b11, by rw [ab_aft (show k < 12 by omega)]; exact b18⟩)
  show X 0 [some (vR 6 g), some (vI (nI t)), none] [] mm
  refine h (fun i => Nat.beq i 2) 3000 0 _ _ _ ?_
  show X 2 [some (vR 6 g), some (vI (nI t)), some (vI 0)] [] mm
  exact loop 0 (by omega) (fun o ho => by omega)
theorem con_X6_isNeededByGiven (l : Launch) : CON l y_X6_isNeededByGiven prog_8_method_34_code 3 (some .boolean) rm_X6_isNeededByGiven Pre_X6_isNeededByGiven Fn_X6_isNeededByGiven := CON_of (by decide) rfl rfl (sa_X6_isNeededByGiven l) vc_X6_isNeededByGiven
def feM (m : MM) (g t : Nat) : MM := mRow (mI m 1 g 5 (m.1 1 g 5 &&& ((1 <<< (nI t &&& 31)) ^^^ -1))) 16 g (upd (m.1 16 g) (owA (abV m g) t) (m.1 16 g (owA (abV m g) t) - ckA (abV m g) t))
theorem wfA_z {a : Nat → Int32} {ns nm nt : Nat} (hV : VA a ns nm nt) (hw : ∃ w, w ≤ 999 ∧ a 6 = nI w) : wfA a = 0 ↔ frP a := by
  obtain ⟨f, hf1, hf2, ef⟩ := hV.2.2.2.2.2
  obtain ⟨w, hw9, ew⟩ := hw
  unfold wfA
  by_cases h : frP a
  · rw [if_pos h]; exact ⟨fun _ => h, fun _ => rfl⟩
  · rw [if_neg h]
    refine ⟨fun z => ?_, fun z => absurd z h⟩
    rw [ef, ew, nIrm (by omega) (by omega) (by omega), nI_sb (Nat.le_of_lt (Nat.mod_lt _ (by omega)))] at z
    have h1 : w % f < f := Nat.mod_lt _ (by omega)
    have := (nI_eq (a := f - w % f) (b := 0) (by omega) (by omega)).mp z
    omega

--tpl ⟨_, _, _, _, {1N}, by assumption, by omega, rfl⟩ || bI (cbP (abV {m} {g0}) {1n}) || mite (cbP (abV {m} {g0}) {1n}) (feM {m} {g0} {1n}) {m}
def Pre_X6_fetch : PreT := fun m as => ∃ g ns nm nt t, VC2 m g ns nm nt ∧ t < nt ∧ as = [vR 6 g, vI (nI t)]
def Fn_X6_fetch : FnT := fun m as => match as with
  | [Sum.inr (Sum.inr q), Sum.inl t] => (some (vI (bI (cbP (abV m q.2) t.toNatClampNeg))), mite (cbP (abV m q.2) t.toNatClampNeg) (feM m q.2 t.toNatClampNeg) m)
  | _ => (none, m)
abbrev y_X6_fetch : MethodName := ⟨"GivenUp$Valley", "fetch", "(I)Z"⟩
def P_X6_fetch : List StpT := [s_aload 0, s_getR 6 6 35, s_iload 1, s_iald, s_istore 2, s_ic (1), s_aload 0, s_getR 6 7 36, s_iload 1, s_iald, s_ic (9), s_iadd, s_ic (10), s_idiv, s_callS 2 Pre_J9_max_7cf53 Fn_J9_max_7cf53, s_istore 3, s_aload 0, s_callV 6 0 Pre_X6_weeksToFair Fn_X6_weeksToFair, s_ifne 40, s_aload 0, s_iload 2, s_callV 6 1 Pre_X6_isWed Fn_X6_isWed, s_ifne 40, s_aload 0, s_getR 6 11 1, s_getI 1 5, s_iload 1, s_callS 2 Pre_X11_holds Fn_X11_holds, s_ifeq 40, s_aload 0, s_getR 6 11 1, s_getR 1 0 16, s_iload 2, s_iald, s_iload 3, s_iclt 40, s_aload 0, s_iload 1, s_callV 6 1 Pre_X6_isNeededByGiven Fn_X6_isNeededByGiven, s_ifeq 42, s_ic (0), s_zret, s_aload 0, s_getR 6 11 1, s_dup, s_getI 1 5, s_ic (1), s_iload 1, s_ishl, s_ic (-1), s_ixor, s_iand, s_putI 1 5, s_aload 0, s_getR 6 11 1, s_getR 1 0 16, s_iload 2, s_dup2, s_iald, s_iload 3, s_isub, s_iast, s_ic (1), s_zret]
def pc_X6_fetch : Nat → Nat := fun i => [0, 1, 4, 5, 6, 7, 8, 9, 12, 13, 14, 16, 17, 19, 20, 23, 24, 25, 28, 31, 32, 33, 36, 39, 40, 43, 46, 47, 50, 53, 54, 57, 60, 61, 62, 63, 66, 67, 68, 71, 74, 75, 76, 77, 80, 81, 84, 85, 86, 87, 88, 89, 90, 93, 94, 97, 100, 101, 102, 103, 104, 105, 106, 107].getD i 0
def dl_X6_fetch : List (Nat × Instr × Nat) := [(0, .aload_n 0, 1), (1, .getfield 31, 3), (4, .iload_n 1, 1), (5, .iaload, 1), (6, .istore_n 2, 1), (7, .iconst 1, 1), (8, .aload_n 0, 1), (9, .getfield 34, 3), (12, .iload_n 1, 1), (13, .iaload, 1), (14, .bipush 9, 2), (16, .iadd, 1), (17, .bipush 10, 2), (19, .idiv, 1), (20, .invokestatic 175, 3), (23, .istore_n 3, 1), (24, .aload_n 0, 1), (25, .invokevirtual 180, 3), (28, .ifCond .ne 46, 3), (31, .aload_n 0, 1), (32, .iload_n 2, 1), (33, .invokevirtual 151, 3), (36, .ifCond .ne 38, 3), (39, .aload_n 0, 1), (40, .getfield 49, 3), (43, .getfield 129, 3), (46, .iload_n 1, 1), (47, .invokestatic 116, 3), (50, .ifCond .eq 24, 3), (53, .aload_n 0, 1), (54, .getfield 49, 3), (57, .getfield 172, 3), (60, .iload_n 2, 1), (61, .iaload, 1), (62, .iload_n 3, 1), (63, .if_icmp .lt 11, 3), (66, .aload_n 0, 1), (67, .iload_n 1, 1), (68, .invokevirtual 184, 3), (71, .ifCond .eq 5, 3), (74, .iconst 0, 1), (75, .ireturn, 1), (76, .aload_n 0, 1), (77, .getfield 49, 3), (80, .dup, 1), (81, .getfield 129, 3), (84, .iconst 1, 1), (85, .iload_n 1, 1), (86, .ishl, 1), (87, .iconst (-1), 1), (88, .ixor, 1), (89, .iand, 1), (90, .putfield 129, 3), (93, .aload_n 0, 1), (94, .getfield 49, 3), (97, .getfield 172, 3), (100, .iload_n 2, 1), (101, .dup2, 1), (102, .iaload, 1), (103, .iload_n 3, 1), (104, .isub, 1), (105, .iastore, 1), (106, .iconst 1, 1), (107, .ireturn, 1)]
theorem dc_X6_fetch : DEC prog_8_method_33_code pc_X6_fetch dl_X6_fetch := DEC_of (by decide +kernel)
abbrev rm_X6_fetch : Room := { frames := 2, cells := 0, slots := 0, locals := 43 }
set_option maxRecDepth 20000 in
theorem sa_X6_fetch (l : Launch) : SNDALL l prog_8_method_33_code "GivenUp$Valley" 4 (some .boolean) rm_X6_fetch P_X6_fetch pc_X6_fetch := fun p e s m args below meth c cells slots Q D dA ad A RR hC hR => by
  have hM := RTX_room (R := rm_X6_fetch) hR
  exact ⟨st_aload_n hC (n := 0) (k := 0) (dc_X6_fetch 0 (0, .aload_n 0, 1) rfl rfl) rfl rfl,
    st_getR hC (n := 1) (k := 6) (j := 6) (dc_X6_fetch 1 (1, .getfield 31, 3) rfl rfl) rfl clf_6 (by decide) rfl (by decide) wd_595,
    st_iload_n hC (n := 2) (k := 1) (dc_X6_fetch 2 (4, .iload_n 1, 1) rfl rfl) rfl rfl,
    st_iald hC (n := 3) (dc_X6_fetch 3 (5, .iaload, 1) rfl rfl) rfl,
    st_istore_n hC (n := 4) (k := 2) (dc_X6_fetch 4 (6, .istore_n 2, 1) rfl rfl) rfl rfl (by decide),
    st_iconst hC (n := 5) (x := 1) (dc_X6_fetch 5 (7, .iconst 1, 1) rfl rfl) rfl (by decide),
    st_aload_n hC (n := 6) (k := 0) (dc_X6_fetch 6 (8, .aload_n 0, 1) rfl rfl) rfl rfl,
    st_getR hC (n := 7) (k := 6) (j := 7) (dc_X6_fetch 7 (9, .getfield 34, 3) rfl rfl) rfl clf_6 (by decide) rfl (by decide) wd_598,
    st_iload_n hC (n := 8) (k := 1) (dc_X6_fetch 8 (12, .iload_n 1, 1) rfl rfl) rfl rfl,
    st_iald hC (n := 9) (dc_X6_fetch 9 (13, .iaload, 1) rfl rfl) rfl,
    st_bipush hC (n := 10) (x := 9) (dc_X6_fetch 10 (14, .bipush 9, 2) rfl rfl) rfl (by decide),
    st_iadd hC (n := 11) (dc_X6_fetch 11 (16, .iadd, 1) rfl rfl) rfl,
    st_bipush hC (n := 12) (x := 10) (dc_X6_fetch 12 (17, .bipush 10, 2) rfl rfl) rfl (by decide),
    st_idiv hC (n := 13) (dc_X6_fetch 13 (19, .idiv, 1) rfl rfl) rfl,
    st_callS hC (n := 14) (na := 2) (con_J9_max_7cf53 l) (dc_X6_fetch 14 (20, .invokestatic 175, 3) rfl rfl) rfl wd_1185 wd_162 (by decide) ⟨rfl, rfl, by decide, by decide⟩ hM wd_1183 wd_1184,
    st_istore_n hC (n := 15) (k := 3) (dc_X6_fetch 15 (23, .istore_n 3, 1) rfl rfl) rfl rfl (by decide),
    st_aload_n hC (n := 16) (k := 0) (dc_X6_fetch 16 (24, .aload_n 0, 1) rfl rfl) rfl rfl,
    st_callV hC (n := 17) (k := 6) (na := 0) (con_X6_weeksToFair l) (dc_X6_fetch 17 (25, .invokevirtual 180, 3) rfl rfl) rfl wd_1189 wd_155 (by decide) ⟨rfl, rfl, by decide, by decide⟩ hM wd_1186 wd_1187 wd_1188 clf_6,
    st_ifne hC (n := 18) (dc_X6_fetch 18 (28, .ifCond .ne 46, 3) rfl rfl) rfl (by decide),
    st_aload_n hC (n := 19) (k := 0) (dc_X6_fetch 19 (31, .aload_n 0, 1) rfl rfl) rfl rfl,
    st_iload_n hC (n := 20) (k := 2) (dc_X6_fetch 20 (32, .iload_n 2, 1) rfl rfl) rfl rfl,
    st_callV hC (n := 21) (k := 6) (na := 1) (con_X6_isWed l) (dc_X6_fetch 21 (33, .invokevirtual 151, 3) rfl rfl) rfl wd_1023 wd_155 (by decide) ⟨rfl, rfl, by decide, by decide⟩ hM wd_1020 wd_1021 wd_1022 clf_6,
    st_ifne hC (n := 22) (dc_X6_fetch 22 (36, .ifCond .ne 38, 3) rfl rfl) rfl (by decide),
    st_aload_n hC (n := 23) (k := 0) (dc_X6_fetch 23 (39, .aload_n 0, 1) rfl rfl) rfl rfl,
    st_getR hC (n := 24) (k := 6) (j := 11) (dc_X6_fetch 24 (40, .getfield 49, 3) rfl rfl) rfl clf_6 (by decide) rfl (by decide) wd_610,
    st_getI hC (n := 25) (k := 1) (j := 5) (dc_X6_fetch 25 (43, .getfield 129, 3) rfl rfl) rfl clf_1 (by decide) rfl wd_483,
    st_iload_n hC (n := 26) (k := 1) (dc_X6_fetch 26 (46, .iload_n 1, 1) rfl rfl) rfl rfl,
    st_callSN hC (n := 27) (na := 2) (con_X11_holds l) (dc_X6_fetch 27 (47, .invokestatic 116, 3) rfl rfl) rfl wd_955 wd_143 (by decide) ⟨rfl, rfl, by decide, by decide⟩ hM ⟨"GivenUp", by decide⟩ wd_954,
    st_ifeq hC (n := 28) (dc_X6_fetch 28 (50, .ifCond .eq 24, 3) rfl rfl) rfl (by decide),
    st_aload_n hC (n := 29) (k := 0) (dc_X6_fetch 29 (53, .aload_n 0, 1) rfl rfl) rfl rfl,
    st_getR hC (n := 30) (k := 6) (j := 11) (dc_X6_fetch 30 (54, .getfield 49, 3) rfl rfl) rfl clf_6 (by decide) rfl (by decide) wd_610,
    st_getR hC (n := 31) (k := 1) (j := 0) (dc_X6_fetch 31 (57, .getfield 172, 3) rfl rfl) rfl clf_1 (by decide) rfl (by decide) wd_466,
    st_iload_n hC (n := 32) (k := 2) (dc_X6_fetch 32 (60, .iload_n 2, 1) rfl rfl) rfl rfl,
    st_iald hC (n := 33) (dc_X6_fetch 33 (61, .iaload, 1) rfl rfl) rfl,
    st_iload_n hC (n := 34) (k := 3) (dc_X6_fetch 34 (62, .iload_n 3, 1) rfl rfl) rfl rfl,
    st_iclt hC (n := 35) (dc_X6_fetch 35 (63, .if_icmp .lt 11, 3) rfl rfl) rfl (by decide),
    st_aload_n hC (n := 36) (k := 0) (dc_X6_fetch 36 (66, .aload_n 0, 1) rfl rfl) rfl rfl,
    st_iload_n hC (n := 37) (k := 1) (dc_X6_fetch 37 (67, .iload_n 1, 1) rfl rfl) rfl rfl,
    st_callV hC (n := 38) (k := 6) (na := 1) (con_X6_isNeededByGiven l) (dc_X6_fetch 38 (68, .invokevirtual 184, 3) rfl rfl) rfl wd_1193 wd_155 (by decide) ⟨rfl, rfl, by decide, by decide⟩ hM wd_1190 wd_1192 wd_26 clf_6,
    st_ifeq hC (n := 39) (dc_X6_fetch 39 (71, .ifCond .eq 5, 3) rfl rfl) rfl (by decide),
    st_iconst hC (n := 40) (x := 0) (dc_X6_fetch 40 (74, .iconst 0, 1) rfl rfl) rfl (by decide),
    st_zret hC (n := 41) hR (dc_X6_fetch 41 (75, .ireturn, 1) rfl rfl),
    st_aload_n hC (n := 42) (k := 0) (dc_X6_fetch 42 (76, .aload_n 0, 1) rfl rfl) rfl rfl,
    st_getR hC (n := 43) (k := 6) (j := 11) (dc_X6_fetch 43 (77, .getfield 49, 3) rfl rfl) rfl clf_6 (by decide) rfl (by decide) wd_610,
    st_dup hC (n := 44) (dc_X6_fetch 44 (80, .dup, 1) rfl rfl) rfl,
    st_getI hC (n := 45) (k := 1) (j := 5) (dc_X6_fetch 45 (81, .getfield 129, 3) rfl rfl) rfl clf_1 (by decide) rfl wd_483,
    st_iconst hC (n := 46) (x := 1) (dc_X6_fetch 46 (84, .iconst 1, 1) rfl rfl) rfl (by decide),
    st_iload_n hC (n := 47) (k := 1) (dc_X6_fetch 47 (85, .iload_n 1, 1) rfl rfl) rfl rfl,
    st_ishl hC (n := 48) (dc_X6_fetch 48 (86, .ishl, 1) rfl rfl) rfl,
    st_iconst hC (n := 49) (x := (-1)) (dc_X6_fetch 49 (87, .iconst (-1), 1) rfl rfl) rfl (by decide),
    st_ixor hC (n := 50) (dc_X6_fetch 50 (88, .ixor, 1) rfl rfl) rfl,
    st_iand hC (n := 51) (dc_X6_fetch 51 (89, .iand, 1) rfl rfl) rfl,
    st_putI hC (n := 52) (k := 1) (j := 5) (dc_X6_fetch 52 (90, .putfield 129, 3) rfl rfl) rfl clf_1 (by decide) rfl rfl rfl wd_483,
    st_aload_n hC (n := 53) (k := 0) (dc_X6_fetch 53 (93, .aload_n 0, 1) rfl rfl) rfl rfl,
    st_getR hC (n := 54) (k := 6) (j := 11) (dc_X6_fetch 54 (94, .getfield 49, 3) rfl rfl) rfl clf_6 (by decide) rfl (by decide) wd_610,
    st_getR hC (n := 55) (k := 1) (j := 0) (dc_X6_fetch 55 (97, .getfield 172, 3) rfl rfl) rfl clf_1 (by decide) rfl (by decide) wd_466,
    st_iload_n hC (n := 56) (k := 2) (dc_X6_fetch 56 (100, .iload_n 2, 1) rfl rfl) rfl rfl,
    st_dup2 hC (n := 57) (dc_X6_fetch 57 (101, .dup2, 1) rfl rfl) rfl,
    st_iald hC (n := 58) (dc_X6_fetch 58 (102, .iaload, 1) rfl rfl) rfl,
    st_iload_n hC (n := 59) (k := 3) (dc_X6_fetch 59 (103, .iload_n 3, 1) rfl rfl) rfl rfl,
    st_isub hC (n := 60) (dc_X6_fetch 60 (104, .isub, 1) rfl rfl) rfl,
    st_iast hC (n := 61) (dc_X6_fetch 61 (105, .iastore, 1) rfl rfl) rfl,
    st_iconst hC (n := 62) (x := 1) (dc_X6_fetch 62 (106, .iconst 1, 1) rfl rfl) rfl (by decide),
    st_zret hC (n := 63) hR (dc_X6_fetch 63 (107, .ireturn, 1) rfl rfl), trivial⟩
set_option maxRecDepth 8000 in
theorem vc_X6_fetch : VC P_X6_fetch 4 Pre_X6_fetch Fn_X6_fetch := by
  rintro mm as hom hoa ⟨g, ns, nm, nt, t, hV, ht, rfl⟩
  refine ⟨Nat.le_of_ble_eq_true rfl, fun X h => ?_⟩
  have h12 : nt ≤ 12 := hV.1.2.2.1.2
  have hn : mm.1 6 g 15 = nI nt := hV.1.2.2.1.1
  have et : (nI t).toNatClampNeg = t := nI_clamp (by omega)
  have ent : (nI nt).toNatClampNeg = nt := nI_clamp (by omega)
  obtain ⟨o, ho, eo, ow⟩ := of_lt hV ht
  have en : (nI o).toNatClampNeg = o := nI_clamp (by omega)
  obtain ⟨pr, hpr⟩ : ∃ pr, pr = ckA (abV mm g) t := ⟨_, rfl⟩
  have epr : (if 1 < (mm.1 36 g t + 9) / 10 then (mm.1 36 g t + 9) / 10 else 1) = pr := by
    rw [hpr]; unfold ckA; rw [ab_wor (show t < 12 by omega)]
  have hc : cbP (abV mm g) t ↔ frP (abV mm g) ∧ abV mm g (15 + 4 * o) = -1 ∧ inS (mm.1 1 g 5) (nI t) ∧ ¬ mm.1 16 g o < pr ∧ bhA (abV mm g) t nt = 0 := by
    unfold cbP
    rw [ow, ab_cow ho, ← hpr, show abV mm g 2 = nI nt from hn, ent]
    exact Iff.rfl
  have hF : Fn_X6_fetch mm [vR 6 g, vI (nI t)] = (some (vI (bI (cbP (abV mm g) t))), mite (cbP (abV mm g) t) (feM mm g t) mm) := by
    show (some (vI (bI (cbP (abV mm g) (nI t).toNatClampNeg))), mite (cbP (abV mm g) (nI t).toNatClampNeg) (feM mm g (nI t).toNatClampNeg) mm) = _
    simp only [et]
  rw [hF] at h
  have no : ¬ cbP (abV mm g) t → X 40 [some (vR 6 g), some (vI (nI t)), some (vI (nI o)), some (vI (pr))] [] mm := by
    intro z
    show X 40 [some (vR 6 g), some (vI (nI t)), some (vI (nI o)), some (vI pr)] [] mm
    refine h (fun _ => false) 3000 40 _ _ _ ?_
    refine And.intro (Or.inl rfl) ?_
    show ((some (vI 0) : Option MV), mm) = _
    exact rit_f z
  have yes : cbP (abV mm g) t → X 42 [some (vR 6 g), some (vI (nI t)), some (vI (nI o)), some (vI (pr))] [] mm := by
    intro z
    show X 42 [some (vR 6 g), some (vI (nI t)), some (vI (nI o)), some (vI pr)] [] mm
    refine h (fun _ => false) 3000 42 _ _ _ ?_
    refine And.intro (show inb (nI o) (alen 16) = true from (inb_o 4 rfl rfl rfl (by omega))) ?_
    refine And.intro (show inb (nI o) (alen 16) = true from (inb_o 4 rfl rfl rfl (by omega))) ?_
    refine And.intro (Or.inr rfl) ?_
    show ((some (vI 1) : Option MV), mRow (mI mm 1 g 5 ((mm.1 1 g 5) &&& ((1 <<< ((nI t) &&& 31)) ^^^ (-1)))) 16 g (upd (mm.1 16 g) (nI o).toNatClampNeg ((mm.1 16 g ((nI o).toNatClampNeg)) - pr))) = _
    (try simp only [en])
    rw [← rit_t z]
    unfold feM 
    rw [ow, ← hpr]
  suffices z : X 16 [some (vR 6 g), some (vI (nI t)), some (vI (nI o)), some (vI (pr))] [] mm by
    show X 0 [some (vR 6 g), some (vI (nI t)), none, none] [] mm
    refine h (fun i => Nat.beq i 16) 3000 0 _ _ _ ?_
    refine And.intro (show inb (nI t) (alen 35) = true from (inb_o 12 rfl rfl rfl (by omega))) ?_
    refine And.intro (show inb (nI t) (alen 36) = true from (inb_o 12 rfl rfl rfl (by omega))) ?_
    refine And.intro (by decide) ?_
    refine And.intro (show Pre_J9_max_7cf53 mm [vI 1, vI (((mm.1 36 g ((nI t).toNatClampNeg)) + 9) / 10)] from ⟨_, _, rfl⟩) ?_
    show X 16 [some (vR 6 g), some (vI (nI t)), some (vI (mm.1 35 g ((nI t).toNatClampNeg))), some (vI (if 1 < (((mm.1 36 g ((nI t).toNatClampNeg)) + 9) / 10) then (((mm.1 36 g ((nI t).toNatClampNeg)) + 9) / 10) else 1))] [] mm
    (try simp only [et])
    rw [eo, epr]
    exact z
  show X 16 [some (vR 6 g), some (vI (nI t)), some (vI (nI o)), some (vI pr)] [] mm
  refine h (fun i => Nat.beq i 40 || Nat.beq i 42) 3000 16 _ _ _ ?_
  refine And.intro (show Pre_X6_weeksToFair mm [vR 6 g] from ⟨g, ns, nm, nt, hV, rfl⟩) ?_
  refine brn_c (fun b18 => ?_) (fun b18 => ?_)
  · -- 18: wfA (abV mm g) = 0 taken
    replace b18 : ¬ (wfA (abV mm g) = 0) := b18
    (try simp only [en, hn, ent] at b18)
    show X 40 [some (vR 6 g), some (vI (nI t)), some (vI (nI o)), some (vI pr)] [] mm
    (try simp only [en, hn, ent])
    exact no (fun z => b18 ((wfA_z hV.1 hV.2.2.2).mpr (hc.mp z).1))
  · -- 18: wfA (abV mm g) = 0 on
    replace b18 : wfA (abV mm g) = 0 := b18
    (try simp only [en, hn, ent] at b18)
    refine And.intro (show Pre_X6_isWed mm [vR 6 g, vI (nI o)] from ⟨g, ns, nm, nt, o, hV, ho, rfl⟩) ?_
    refine brn_c (fun b22 => ?_) (fun b22 => ?_)
    · -- 22: bI (¬ abV mm g (15 + 4 * (nI o).toNatClampNeg) = -1) = 0 taken
      replace b22 : ¬ abV mm g (15 + 4 * (nI o).toNatClampNeg) = -1 := bI_n0.mp b22
      (try simp only [en, hn, ent] at b22)
      show X 40 [some (vR 6 g), some (vI (nI t)), some (vI (nI o)), some (vI pr)] [] mm
      (try simp only [en, hn, ent])
      exact no (fun z => b22 (hc.mp z).2.1)
    · -- 22: bI (¬ abV mm g (15 + 4 * (nI o).toNatClampNeg) = -1) = 0 on
      replace b22 : ¬ (¬ abV mm g (15 + 4 * (nI o).toNatClampNeg) = -1) := bI_0.mp b22
      (try simp only [en, hn, ent] at b22)
      refine And.intro (show Pre_X11_holds mm [vI (mm.1 1 g 5), vI (nI t)] from ⟨_, _, rfl⟩) ?_
      refine br_c (fun b28 => ?_) (fun b28 => ?_)
      · -- 28: bI (inS (mm.1 1 g 5) (nI t)) = 0 taken
        replace b28 : ¬ (inS (mm.1 1 g 5) (nI t)) := bI_0.mp b28
        (try simp only [en, hn, ent] at b28)
        show X 40 [some (vR 6 g), some (vI (nI t)), some (vI (nI o)), some (vI pr)] [] mm
        (try simp only [en, hn, ent])
        exact no (fun z => b28 (hc.mp z).2.2.1)
      · -- 28: bI (inS (mm.1 1 g 5) (nI t)) = 0 on
        replace b28 : inS (mm.1 1 g 5) (nI t) := bI_n0.mp b28
        (try simp only [en, hn, ent] at b28)
        refine And.intro (show inb (nI o) (alen 16) = true from (inb_o 4 rfl rfl rfl (by omega))) ?_
        refine br_c (fun b35 => ?_) (fun b35 => ?_)
        · -- 35: mm.1 16 g ((nI o).toNatClampNeg) < pr taken
          replace b35 : mm.1 16 g ((nI o).toNatClampNeg) < pr := b35
          (try simp only [en, hn, ent] at b35)
          show X 40 [some (vR 6 g), some (vI (nI t)), some (vI (nI o)), some (vI pr)] [] mm
          (try simp only [en, hn, ent])
          exact no (fun z => (hc.mp z).2.2.2.1 b35)
        · -- 35: mm.1 16 g ((nI o).toNatClampNeg) < pr on
          replace b35 : ¬ (mm.1 16 g ((nI o).toNatClampNeg) < pr) := b35
          (try simp only [en, hn, ent] at b35)
          refine And.intro (show Pre_X6_isNeededByGiven mm [vR 6 g, vI (nI t)] from ⟨g, ns, nm, nt, t, hV, by omega, rfl⟩) ?_
          refine br_c (fun b39 => ?_) (fun b39 => ?_)
          · -- 39: bI (¬ bhA (abV mm g) (nI t).toNatClampNeg (mm.1 6 g 15).toNatClampNeg = 0) = 0 taken
            replace b39 : ¬ (¬ bhA (abV mm g) (nI t).toNatClampNeg (mm.1 6 g 15).toNatClampNeg = 0) := bI_0.mp b39
            (try simp only [en, hn, ent] at b39)
            show X 42 [some (vR 6 g), some (vI (nI t)), some (vI (nI o)), some (vI pr)] [] mm
            (try simp only [en, hn, ent])
            exact yes (hc.mpr ⟨(wfA_z hV.1 hV.2.2.2).mp b18, Classical.byContradiction b22, b28, b35, Classical.byContradiction (fun z => b39 (by rw [et]; exact z))⟩)
          · -- 39: bI (¬ bhA (abV mm g) (nI t).toNatClampNeg (mm.1 6 g 15).toNatClampNeg = 0) = 0 on
            replace b39 : ¬ bhA (abV mm g) (nI t).toNatClampNeg (mm.1 6 g 15).toNatClampNeg = 0 := bI_n0.mp b39
            (try simp only [en, hn, ent] at b39)
            show X 40 [some (vR 6 g), some (vI (nI t)), some (vI (nI o)), some (vI pr)] [] mm
            (try simp only [en, hn, ent])
            exact no (fun z => by rw [et] at b39; exact b39 (hc.mp z).2.2.2.2)
theorem con_X6_fetch (l : Launch) : CON l y_X6_fetch prog_8_method_33_code 4 (some .boolean) rm_X6_fetch Pre_X6_fetch Fn_X6_fetch := CON_of (by decide) rfl rfl (sa_X6_fetch l) vc_X6_fetch
/-- whom a MAID has rather: HEARD more, elder, first -/
abbrev ahP (a : Nat → Int32) (d s o : Nat) : Prop := if hdA a (nI s) d = hdA a (nI o) d then (if a (12 + 4 * s) = a (12 + 4 * o) then nI s < nI o else a (12 + 4 * o) < a (12 + 4 * s)) else hdA a (nI o) d < hdA a (nI s) d

--tpl ⟨_, _, _, _, {1N}, {2N}, {3N}, by assumption, by omega, by omega, by omega, rfl⟩ || bI (ahP (abV {m} {g0}) {3n} {1n} {2n})
def Pre_X6_isAhead : PreT := fun m as => ∃ g ns nm nt s o d, VC2 m g ns nm nt ∧ s < 4 ∧ o < 4 ∧ d < 4 ∧ as = [vR 6 g, vI (nI s), vI (nI o), vI (nI d)]
def Fn_X6_isAhead : FnT := fun m as => match as with
  | [Sum.inr (Sum.inr q), Sum.inl s, Sum.inl o, Sum.inl d] => (some (vI (bI (ahP (abV m q.2) d.toNatClampNeg s.toNatClampNeg o.toNatClampNeg))), m)
  | _ => (none, m)
abbrev y_X6_isAhead : MethodName := ⟨"GivenUp$Valley", "isAhead", "(III)Z"⟩
def P_X6_isAhead : List StpT := [s_aload 0, s_iload 1, s_iload 3, s_callV 6 2 Pre_X6_hears Fn_X6_hears, s_istore 4, s_aload 0, s_iload 2, s_iload 3, s_callV 6 2 Pre_X6_hears Fn_X6_hears, s_istore 5, s_iload 4, s_iload 5, s_iceq 20, s_iload 4, s_iload 5, s_icle 18, s_ic (1), s_goto 19, s_ic (0), s_zret, s_aload 0, s_getR 6 1 30, s_iload 1, s_iald, s_aload 0, s_getR 6 1 30, s_iload 2, s_iald, s_iceq 42, s_aload 0, s_getR 6 1 30, s_iload 1, s_iald, s_aload 0, s_getR 6 1 30, s_iload 2, s_iald, s_icle 40, s_ic (1), s_goto 41, s_ic (0), s_zret, s_iload 1, s_iload 2, s_icge 47, s_ic (1), s_goto 48, s_ic (0), s_zret]
def pc_X6_isAhead : Nat → Nat := fun i => [0, 1, 2, 3, 6, 8, 9, 10, 11, 14, 16, 18, 20, 23, 25, 27, 30, 31, 34, 35, 36, 37, 40, 41, 42, 43, 46, 47, 48, 51, 52, 55, 56, 57, 58, 61, 62, 63, 66, 67, 70, 71, 72, 73, 74, 77, 78, 81, 82].getD i 0
def dl_X6_isAhead : List (Nat × Instr × Nat) := [(0, .aload_n 0, 1), (1, .iload_n 1, 1), (2, .iload_n 3, 1), (3, .invokevirtual 157, 3), (6, .istore 4, 2), (8, .aload_n 0, 1), (9, .iload_n 2, 1), (10, .iload_n 3, 1), (11, .invokevirtual 157, 3), (14, .istore 5, 2), (16, .iload 4, 2), (18, .iload 5, 2), (20, .if_icmp .eq 16, 3), (23, .iload 4, 2), (25, .iload 5, 2), (27, .if_icmp .le 7, 3), (30, .iconst 1, 1), (31, .goto 4, 3), (34, .iconst 0, 1), (35, .ireturn, 1), (36, .aload_n 0, 1), (37, .getfield 15, 3), (40, .iload_n 1, 1), (41, .iaload, 1), (42, .aload_n 0, 1), (43, .getfield 15, 3), (46, .iload_n 2, 1), (47, .iaload, 1), (48, .if_icmp .eq 24, 3), (51, .aload_n 0, 1), (52, .getfield 15, 3), (55, .iload_n 1, 1), (56, .iaload, 1), (57, .aload_n 0, 1), (58, .getfield 15, 3), (61, .iload_n 2, 1), (62, .iaload, 1), (63, .if_icmp .le 7, 3), (66, .iconst 1, 1), (67, .goto 4, 3), (70, .iconst 0, 1), (71, .ireturn, 1), (72, .iload_n 1, 1), (73, .iload_n 2, 1), (74, .if_icmp .ge 7, 3), (77, .iconst 1, 1), (78, .goto 4, 3), (81, .iconst 0, 1), (82, .ireturn, 1)]
theorem dc_X6_isAhead : DEC prog_8_method_35_code pc_X6_isAhead dl_X6_isAhead := DEC_of (by decide +kernel)
abbrev rm_X6_isAhead : Room := { frames := 2, cells := 0, slots := 0, locals := 46 }
set_option maxRecDepth 20000 in
theorem sa_X6_isAhead (l : Launch) : SNDALL l prog_8_method_35_code "GivenUp$Valley" 6 (some .boolean) rm_X6_isAhead P_X6_isAhead pc_X6_isAhead := fun p e s m args below meth c cells slots Q D dA ad A RR hC hR => by
  have hM := RTX_room (R := rm_X6_isAhead) hR
  exact ⟨st_aload_n hC (n := 0) (k := 0) (dc_X6_isAhead 0 (0, .aload_n 0, 1) rfl rfl) rfl rfl,
    st_iload_n hC (n := 1) (k := 1) (dc_X6_isAhead 1 (1, .iload_n 1, 1) rfl rfl) rfl rfl,
    st_iload_n hC (n := 2) (k := 3) (dc_X6_isAhead 2 (2, .iload_n 3, 1) rfl rfl) rfl rfl,
    st_callV hC (n := 3) (k := 6) (na := 2) (con_X6_hears l) (dc_X6_isAhead 3 (3, .invokevirtual 157, 3) rfl rfl) rfl wd_1143 wd_155 (by decide) ⟨rfl, rfl, by decide, by decide⟩ hM wd_1160 wd_1141 wd_1142 clf_6,
    st_istore hC (n := 4) (dc_X6_isAhead 4 (6, .istore 4, 2) rfl rfl) rfl (by decide),
    st_aload_n hC (n := 5) (k := 0) (dc_X6_isAhead 5 (8, .aload_n 0, 1) rfl rfl) rfl rfl,
    st_iload_n hC (n := 6) (k := 2) (dc_X6_isAhead 6 (9, .iload_n 2, 1) rfl rfl) rfl rfl,
    st_iload_n hC (n := 7) (k := 3) (dc_X6_isAhead 7 (10, .iload_n 3, 1) rfl rfl) rfl rfl,
    st_callV hC (n := 8) (k := 6) (na := 2) (con_X6_hears l) (dc_X6_isAhead 8 (11, .invokevirtual 157, 3) rfl rfl) rfl wd_1143 wd_155 (by decide) ⟨rfl, rfl, by decide, by decide⟩ hM wd_1160 wd_1141 wd_1142 clf_6,
    st_istore hC (n := 9) (dc_X6_isAhead 9 (14, .istore 5, 2) rfl rfl) rfl (by decide),
    st_iload hC (n := 10) (dc_X6_isAhead 10 (16, .iload 4, 2) rfl rfl) rfl,
    st_iload hC (n := 11) (dc_X6_isAhead 11 (18, .iload 5, 2) rfl rfl) rfl,
    st_iceq hC (n := 12) (dc_X6_isAhead 12 (20, .if_icmp .eq 16, 3) rfl rfl) rfl (by decide),
    st_iload hC (n := 13) (dc_X6_isAhead 13 (23, .iload 4, 2) rfl rfl) rfl,
    st_iload hC (n := 14) (dc_X6_isAhead 14 (25, .iload 5, 2) rfl rfl) rfl,
    st_icle hC (n := 15) (dc_X6_isAhead 15 (27, .if_icmp .le 7, 3) rfl rfl) rfl (by decide),
    st_iconst hC (n := 16) (x := 1) (dc_X6_isAhead 16 (30, .iconst 1, 1) rfl rfl) rfl (by decide),
    st_goto hC (n := 17) (dc_X6_isAhead 17 (31, .goto 4, 3) rfl rfl) (by decide),
    st_iconst hC (n := 18) (x := 0) (dc_X6_isAhead 18 (34, .iconst 0, 1) rfl rfl) rfl (by decide),
    st_zret hC (n := 19) hR (dc_X6_isAhead 19 (35, .ireturn, 1) rfl rfl),
    st_aload_n hC (n := 20) (k := 0) (dc_X6_isAhead 20 (36, .aload_n 0, 1) rfl rfl) rfl rfl,
    st_getR hC (n := 21) (k := 6) (j := 1) (dc_X6_isAhead 21 (37, .getfield 15, 3) rfl rfl) rfl clf_6 (by decide) rfl (by decide) wd_578,
    st_iload_n hC (n := 22) (k := 1) (dc_X6_isAhead 22 (40, .iload_n 1, 1) rfl rfl) rfl rfl,
    st_iald hC (n := 23) (dc_X6_isAhead 23 (41, .iaload, 1) rfl rfl) rfl,
    st_aload_n hC (n := 24) (k := 0) (dc_X6_isAhead 24 (42, .aload_n 0, 1) rfl rfl) rfl rfl,
    st_getR hC (n := 25) (k := 6) (j := 1) (dc_X6_isAhead 25 (43, .getfield 15, 3) rfl rfl) rfl clf_6 (by decide) rfl (by decide) wd_578,
    st_iload_n hC (n := 26) (k := 2) (dc_X6_isAhead 26 (46, .iload_n 2, 1) rfl rfl) rfl rfl,
    st_iald hC (n := 27) (dc_X6_isAhead 27 (47, .iaload, 1) rfl rfl) rfl,
    st_iceq hC (n := 28) (dc_X6_isAhead 28 (48, .if_icmp .eq 24, 3) rfl rfl) rfl (by decide),
    st_aload_n hC (n := 29) (k := 0) (dc_X6_isAhead 29 (51, .aload_n 0, 1) rfl rfl) rfl rfl,
    st_getR hC (n := 30) (k := 6) (j := 1) (dc_X6_isAhead 30 (52, .getfield 15, 3) rfl rfl) rfl clf_6 (by decide) rfl (by decide) wd_578,
    st_iload_n hC (n := 31) (k := 1) (dc_X6_isAhead 31 (55, .iload_n 1, 1) rfl rfl) rfl rfl,
    st_iald hC (n := 32) (dc_X6_isAhead 32 (56, .iaload, 1) rfl rfl) rfl,
    st_aload_n hC (n := 33) (k := 0) (dc_X6_isAhead 33 (57, .aload_n 0, 1) rfl rfl) rfl rfl,
    st_getR hC (n := 34) (k := 6) (j := 1) (dc_X6_isAhead 34 (58, .getfield 15, 3) rfl rfl) rfl clf_6 (by decide) rfl (by decide) wd_578,
    st_iload_n hC (n := 35) (k := 2) (dc_X6_isAhead 35 (61, .iload_n 2, 1) rfl rfl) rfl rfl,
    st_iald hC (n := 36) (dc_X6_isAhead 36 (62, .iaload, 1) rfl rfl) rfl,
    st_icle hC (n := 37) (dc_X6_isAhead 37 (63, .if_icmp .le 7, 3) rfl rfl) rfl (by decide),
    st_iconst hC (n := 38) (x := 1) (dc_X6_isAhead 38 (66, .iconst 1, 1) rfl rfl) rfl (by decide),
    st_goto hC (n := 39) (dc_X6_isAhead 39 (67, .goto 4, 3) rfl rfl) (by decide),
    st_iconst hC (n := 40) (x := 0) (dc_X6_isAhead 40 (70, .iconst 0, 1) rfl rfl) rfl (by decide),
    st_zret hC (n := 41) hR (dc_X6_isAhead 41 (71, .ireturn, 1) rfl rfl),
    st_iload_n hC (n := 42) (k := 1) (dc_X6_isAhead 42 (72, .iload_n 1, 1) rfl rfl) rfl rfl,
    st_iload_n hC (n := 43) (k := 2) (dc_X6_isAhead 43 (73, .iload_n 2, 1) rfl rfl) rfl rfl,
    st_icge hC (n := 44) (dc_X6_isAhead 44 (74, .if_icmp .ge 7, 3) rfl rfl) rfl (by decide),
    st_iconst hC (n := 45) (x := 1) (dc_X6_isAhead 45 (77, .iconst 1, 1) rfl rfl) rfl (by decide),
    st_goto hC (n := 46) (dc_X6_isAhead 46 (78, .goto 4, 3) rfl rfl) (by decide),
    st_iconst hC (n := 47) (x := 0) (dc_X6_isAhead 47 (81, .iconst 0, 1) rfl rfl) rfl (by decide),
    st_zret hC (n := 48) hR (dc_X6_isAhead 48 (82, .ireturn, 1) rfl rfl), trivial⟩
set_option maxRecDepth 8000 in
theorem vc_X6_isAhead : VC P_X6_isAhead 6 Pre_X6_isAhead Fn_X6_isAhead := by
  rintro mm as hom hoa ⟨g, ns, nm, nt, s, o, d, hV, hs, ho, hd, rfl⟩
  refine ⟨Nat.le_of_ble_eq_true rfl, fun X h => ?_⟩
  have es : (nI s).toNatClampNeg = s := nI_clamp (by omega)
  have eo : (nI o).toNatClampNeg = o := nI_clamp (by omega)
  have ed : (nI d).toNatClampNeg = d := nI_clamp (by omega)
  have hF : Fn_X6_isAhead mm [vR 6 g, vI (nI s), vI (nI o), vI (nI d)] = (some (vI (bI (ahP (abV mm g) d s o))), mm) := by
    show (some (vI (bI (ahP (abV mm g) (nI d).toNatClampNeg (nI s).toNatClampNeg (nI o).toNatClampNeg))), mm) = _
    simp only [es, eo, ed]
  rw [hF] at h
  have a1 := ab_age (m := mm) (g := g) hs
  have a2 := ab_age (m := mm) (g := g) ho
  show X 0 [some (vR 6 g), some (vI (nI s)), some (vI (nI o)), some (vI (nI d)), none, none] [] mm
  refine h (fun _ => false) 3000 0 _ _ _ ?_
  refine And.intro (show Pre_X6_hears mm [vR 6 g, vI (nI s), vI (nI d)] from ⟨g, ns, nm, nt, d, hV, hd, _, rfl⟩) ?_
  refine And.intro (show Pre_X6_hears mm [vR 6 g, vI (nI o), vI (nI d)] from ⟨g, ns, nm, nt, d, hV, hd, _, rfl⟩) ?_
  refine br_c (fun b12 => ?_) (fun b12 => ?_)
  · -- 12: hdA (abV mm g) (nI s) (nI d).toNatClampNeg = hdA (abV mm g) (nI o) (nI d).toNatClampNeg taken
    replace b12 : hdA (abV mm g) (nI s) (nI d).toNatClampNeg = hdA (abV mm g) (nI o) (nI d).toNatClampNeg := b12
    (try simp only [es, eo, ed] at b12)
    refine And.intro (show inb (nI s) (alen 30) = true from (inb_o 4 rfl rfl rfl (by omega))) ?_
    refine And.intro (show inb (nI o) (alen 30) = true from (inb_o 4 rfl rfl rfl (by omega))) ?_
    refine br_c (fun b28 => ?_) (fun b28 => ?_)
    · -- 28: mm.1 30 g ((nI s).toNatClampNeg) = mm.1 30 g ((nI o).toNatClampNeg) taken
      replace b28 : mm.1 30 g ((nI s).toNatClampNeg) = mm.1 30 g ((nI o).toNatClampNeg) := b28
      (try simp only [es, eo, ed] at b28)
      refine br_c (fun b44 => ?_) (fun b44 => ?_)
      · -- 44: nI o ≤ nI s taken
        replace b44 : nI o ≤ nI s := b44
        (try simp only [es, eo, ed] at b44)
        refine And.intro (Or.inl rfl) ?_
        show ((some (vI 0) : Option MV), mm) = _
        (try simp only [es, eo, ed])
        refine ret_f ?_
        simp only [if_pos b12, a1, a2, if_pos b28] 
        exact Int32.not_lt.mpr b44
      · -- 44: nI o ≤ nI s on
        replace b44 : ¬ (nI o ≤ nI s) := b44
        (try simp only [es, eo, ed] at b44)
        refine And.intro (Or.inr rfl) ?_
        show ((some (vI 1) : Option MV), mm) = _
        (try simp only [es, eo, ed])
        refine ret_t ?_
        simp only [if_pos b12, a1, a2, if_pos b28] 
        exact Int32.not_le.mp b44
    · -- 28: mm.1 30 g ((nI s).toNatClampNeg) = mm.1 30 g ((nI o).toNatClampNeg) on
      replace b28 : ¬ (mm.1 30 g ((nI s).toNatClampNeg) = mm.1 30 g ((nI o).toNatClampNeg)) := b28
      (try simp only [es, eo, ed] at b28)
      refine And.intro (show inb (nI s) (alen 30) = true from (inb_o 4 rfl rfl rfl (by omega))) ?_
      refine And.intro (show inb (nI o) (alen 30) = true from (inb_o 4 rfl rfl rfl (by omega))) ?_
      refine br_c (fun b37 => ?_) (fun b37 => ?_)
      · -- 37: mm.1 30 g ((nI s).toNatClampNeg) ≤ mm.1 30 g ((nI o).toNatClampNeg) taken
        replace b37 : mm.1 30 g ((nI s).toNatClampNeg) ≤ mm.1 30 g ((nI o).toNatClampNeg) := b37
        (try simp only [es, eo, ed] at b37)
        refine And.intro (Or.inl rfl) ?_
        show ((some (vI 0) : Option MV), mm) = _
        (try simp only [es, eo, ed])
        refine ret_f ?_
        simp only [if_pos b12, a1, a2, if_neg b28] 
        exact Int32.not_lt.mpr b37
      · -- 37: mm.1 30 g ((nI s).toNatClampNeg) ≤ mm.1 30 g ((nI o).toNatClampNeg) on
        replace b37 : ¬ (mm.1 30 g ((nI s).toNatClampNeg) ≤ mm.1 30 g ((nI o).toNatClampNeg)) := b37
        (try simp only [es, eo, ed] at b37)
        refine And.intro (Or.inr rfl) ?_
        show ((some (vI 1) : Option MV), mm) = _
        (try simp only [es, eo, ed])
        refine ret_t ?_
        simp only [if_pos b12, a1, a2, if_neg b28] 
        exact Int32.not_le.mp b37
  · -- 12: hdA (abV mm g) (nI s) (nI d).toNatClampNeg = hdA (abV mm g) (nI o) (nI d).toNatClampNeg on
    replace b12 : ¬ (hdA (abV mm g) (nI s) (nI d).toNatClampNeg = hdA (abV mm g) (nI o) (nI d).toNatClampNeg) := b12
    (try simp only [es, eo, ed] at b12)
    refine br_c (fun b15 => ?_) (fun b15 => ?_)
    · -- 15: hdA (abV mm g) (nI s) (nI d).toNatClampNeg ≤ hdA (abV mm g) (nI o) (nI d).toNatClampNeg taken
      replace b15 : hdA (abV mm g) (nI s) (nI d).toNatClampNeg ≤ hdA (abV mm g) (nI o) (nI d).toNatClampNeg := b15
      (try simp only [es, eo, ed] at b15)
      refine And.intro (Or.inl rfl) ?_
      show ((some (vI 0) : Option MV), mm) = _
      (try simp only [es, eo, ed])
      refine ret_f ?_
      simp only [if_neg b12] 
      exact Int32.not_lt.mpr b15
    · -- 15: hdA (abV mm g) (nI s) (nI d).toNatClampNeg ≤ hdA (abV mm g) (nI o) (nI d).toNatClampNeg on
      replace b15 : ¬ (hdA (abV mm g) (nI s) (nI d).toNatClampNeg ≤ hdA (abV mm g) (nI o) (nI d).toNatClampNeg) := b15
      (try simp only [es, eo, ed] at b15)
      refine And.intro (Or.inr rfl) ?_
      show ((some (vI 1) : Option MV), mm) = _
      (try simp only [es, eo, ed])
      refine ret_t ?_
      simp only [if_neg b12] 
      exact Int32.not_le.mp b15
theorem con_X6_isAhead (l : Launch) : CON l y_X6_isAhead prog_8_method_35_code 6 (some .boolean) rm_X6_isAhead Pre_X6_isAhead Fn_X6_isAhead := CON_of (by decide) rfl rfl (sa_X6_isAhead l) vc_X6_isAhead
def chA (a : Nat → Int32) (d : Nat) : Nat → Int32
  | 0 => -1
  | t + 1 => if a (15 + 4 * t) = -1 ∧ (chA a d t = -1 ∨ ahP a d t (chA a d t).toNatClampNeg) then nI t else chA a d t
theorem chA_in (a : Nat → Int32) (d : Nat) : ∀ t, t ≤ 4 → chA a d t = -1 ∨ ∃ o, o < 4 ∧ chA a d t = nI o
  | 0, _ => Or.inl rfl
  | t + 1, h => by
    rw [chA]
    split
    · exact Or.inr ⟨t, by omega, rfl⟩
    · exact chA_in a d t (by omega)

--tpl ⟨_, _, _, _, {1N}, by assumption, by omega, rfl⟩ || chA (abV {m} {g0}) {1n} ({r 1 6 {g0} 13}).toNatClampNeg
def Pre_X6_chosenBy : PreT := fun m as => ∃ g ns nm nt d, VC2 m g ns nm nt ∧ d < 4 ∧ as = [vR 6 g, vI (nI d)]
def Fn_X6_chosenBy : FnT := fun m as => match as with
  | [Sum.inr (Sum.inr q), Sum.inl d] => (some (vI (chA (abV m q.2) d.toNatClampNeg (m.1 6 q.2 13).toNatClampNeg)), m)
  | _ => (none, m)
abbrev y_X6_chosenBy : MethodName := ⟨"GivenUp$Valley", "chosenBy", "(I)I"⟩
def P_X6_chosenBy : List StpT := [s_ic (-1), s_istore 2, s_ic (0), s_istore 3, s_iload 3, s_aload 0, s_getI 6 13, s_icge 24, s_aload 0, s_iload 3, s_callV 6 1 Pre_X6_isWed Fn_X6_isWed, s_ifne 22, s_iload 2, s_iflt 20, s_aload 0, s_iload 3, s_iload 2, s_iload 1, s_callV 6 3 Pre_X6_isAhead Fn_X6_isAhead, s_ifeq 22, s_iload 3, s_istore 2, s_iinc 3 (1), s_goto 4, s_iload 2, s_iret]
def pc_X6_chosenBy : Nat → Nat := fun i => [0, 1, 2, 3, 4, 5, 6, 9, 12, 13, 14, 17, 20, 21, 24, 25, 26, 27, 28, 31, 34, 35, 36, 39, 42, 43].getD i 0
def dl_X6_chosenBy : List (Nat × Instr × Nat) := [(0, .iconst (-1), 1), (1, .istore_n 2, 1), (2, .iconst 0, 1), (3, .istore_n 3, 1), (4, .iload_n 3, 1), (5, .aload_n 0, 1), (6, .getfield 60, 3), (9, .if_icmp .ge 33, 3), (12, .aload_n 0, 1), (13, .iload_n 3, 1), (14, .invokevirtual 151, 3), (17, .ifCond .ne 19, 3), (20, .iload_n 2, 1), (21, .ifCond .lt 13, 3), (24, .aload_n 0, 1), (25, .iload_n 3, 1), (26, .iload_n 2, 1), (27, .iload_n 1, 1), (28, .invokevirtual 187, 3), (31, .ifCond .eq 5, 3), (34, .iload_n 3, 1), (35, .istore_n 2, 1), (36, .iinc 3 1, 3), (39, .goto (-35), 3), (42, .iload_n 2, 1), (43, .ireturn, 1)]
theorem dc_X6_chosenBy : DEC prog_8_method_36_code pc_X6_chosenBy dl_X6_chosenBy := DEC_of (by decide +kernel)
abbrev rm_X6_chosenBy : Room := { frames := 3, cells := 0, slots := 0, locals := 71 }
set_option maxRecDepth 20000 in
theorem sa_X6_chosenBy (l : Launch) : SNDALL l prog_8_method_36_code "GivenUp$Valley" 4 (some .int) rm_X6_chosenBy P_X6_chosenBy pc_X6_chosenBy := fun p e s m args below meth c cells slots Q D dA ad A RR hC hR => by
  have hM := RTX_room (R := rm_X6_chosenBy) hR
  exact ⟨st_iconst hC (n := 0) (x := (-1)) (dc_X6_chosenBy 0 (0, .iconst (-1), 1) rfl rfl) rfl (by decide),
    st_istore_n hC (n := 1) (k := 2) (dc_X6_chosenBy 1 (1, .istore_n 2, 1) rfl rfl) rfl rfl (by decide),
    st_iconst hC (n := 2) (x := 0) (dc_X6_chosenBy 2 (2, .iconst 0, 1) rfl rfl) rfl (by decide),
    st_istore_n hC (n := 3) (k := 3) (dc_X6_chosenBy 3 (3, .istore_n 3, 1) rfl rfl) rfl rfl (by decide),
    st_iload_n hC (n := 4) (k := 3) (dc_X6_chosenBy 4 (4, .iload_n 3, 1) rfl rfl) rfl rfl,
    st_aload_n hC (n := 5) (k := 0) (dc_X6_chosenBy 5 (5, .aload_n 0, 1) rfl rfl) rfl rfl,
    st_getI hC (n := 6) (k := 6) (j := 13) (dc_X6_chosenBy 6 (6, .getfield 60, 3) rfl rfl) rfl clf_6 (by decide) rfl wd_617,
    st_icge hC (n := 7) (dc_X6_chosenBy 7 (9, .if_icmp .ge 33, 3) rfl rfl) rfl (by decide),
    st_aload_n hC (n := 8) (k := 0) (dc_X6_chosenBy 8 (12, .aload_n 0, 1) rfl rfl) rfl rfl,
    st_iload_n hC (n := 9) (k := 3) (dc_X6_chosenBy 9 (13, .iload_n 3, 1) rfl rfl) rfl rfl,
    st_callV hC (n := 10) (k := 6) (na := 1) (con_X6_isWed l) (dc_X6_chosenBy 10 (14, .invokevirtual 151, 3) rfl rfl) rfl wd_1023 wd_155 (by decide) ⟨rfl, rfl, by decide, by decide⟩ hM wd_1020 wd_1021 wd_1022 clf_6,
    st_ifne hC (n := 11) (dc_X6_chosenBy 11 (17, .ifCond .ne 19, 3) rfl rfl) rfl (by decide),
    st_iload_n hC (n := 12) (k := 2) (dc_X6_chosenBy 12 (20, .iload_n 2, 1) rfl rfl) rfl rfl,
    st_iflt hC (n := 13) (dc_X6_chosenBy 13 (21, .ifCond .lt 13, 3) rfl rfl) rfl (by decide),
    st_aload_n hC (n := 14) (k := 0) (dc_X6_chosenBy 14 (24, .aload_n 0, 1) rfl rfl) rfl rfl,
    st_iload_n hC (n := 15) (k := 3) (dc_X6_chosenBy 15 (25, .iload_n 3, 1) rfl rfl) rfl rfl,
    st_iload_n hC (n := 16) (k := 2) (dc_X6_chosenBy 16 (26, .iload_n 2, 1) rfl rfl) rfl rfl,
    st_iload_n hC (n := 17) (k := 1) (dc_X6_chosenBy 17 (27, .iload_n 1, 1) rfl rfl) rfl rfl,
    st_callV hC (n := 18) (k := 6) (na := 3) (con_X6_isAhead l) (dc_X6_chosenBy 18 (28, .invokevirtual 187, 3) rfl rfl) rfl wd_1218 wd_155 (by decide) ⟨rfl, rfl, by decide, by decide⟩ hM wd_1215 wd_1216 wd_1217 clf_6,
    st_ifeq hC (n := 19) (dc_X6_chosenBy 19 (31, .ifCond .eq 5, 3) rfl rfl) rfl (by decide),
    st_iload_n hC (n := 20) (k := 3) (dc_X6_chosenBy 20 (34, .iload_n 3, 1) rfl rfl) rfl rfl,
    st_istore_n hC (n := 21) (k := 2) (dc_X6_chosenBy 21 (35, .istore_n 2, 1) rfl rfl) rfl rfl (by decide),
    st_iinc hC (n := 22) (x := 1) (dc_X6_chosenBy 22 (36, .iinc 3 1, 3) rfl rfl) rfl (by decide) (by decide),
    st_goto hC (n := 23) (dc_X6_chosenBy 23 (39, .goto (-35), 3) rfl rfl) (by decide),
    st_iload_n hC (n := 24) (k := 2) (dc_X6_chosenBy 24 (42, .iload_n 2, 1) rfl rfl) rfl rfl,
    st_iret hC (n := 25) hR (dc_X6_chosenBy 25 (43, .ireturn, 1) rfl rfl), trivial⟩
set_option maxRecDepth 8000 in
theorem vc_X6_chosenBy : VC P_X6_chosenBy 4 Pre_X6_chosenBy Fn_X6_chosenBy := by
  rintro mm as hom hoa ⟨g, n, nm, nt, d, hV, hd, rfl⟩
  refine ⟨Nat.le_of_ble_eq_true rfl, fun X h => ?_⟩
  have hn : mm.1 6 g 13 = nI n := hV.1.1.1
  have hn4 : n ≤ 4 := hV.1.1.2
  have ed : (nI d).toNatClampNeg = d := nI_clamp (by omega)
  have hF : Fn_X6_chosenBy mm [vR 6 g, vI (nI d)] = (some (vI (chA (abV mm g) d n)), mm) := by
    show (some (vI (chA (abV mm g) (nI d).toNatClampNeg (mm.1 6 g 13).toNatClampNeg)), mm) = _
    rw [hn, ed, nI_clamp (by omega)]
  rw [hF] at h
  have loop : ∀ t, t ≤ n → X 4 [some (vR 6 g), some (vI (nI d)), some (vI (chA (abV mm g) d t)), some (vI (nI t))] [] mm := by
    refine up_ind n ?_ (fun t ht ih => ?_)
    ·
      show X 4 [some (vR 6 g), some (vI (nI d)), some (vI (chA (abV mm g) d n)), some (vI (nI n))] [] mm
      refine h (fun _ => false) 3000 4 _ _ _ ?_
      refine br_t (show mm.1 6 g 13 ≤ nI n from by rw [hn]; exact Int32.le_refl _) ?_
      show ((some (vI (chA (abV mm g) d n)) : Option MV), mm) = _
      exact rfl
    · have et : (nI t).toNatClampNeg = t := nI_clamp (by omega)
      rw [chA] at ih
      obtain ⟨B, hB⟩ : ∃ B, B = chA (abV mm g) d t := ⟨_, rfl⟩
      have hin := chA_in (abV mm g) d t (by omega)
      rw [← hB] at ih hin ⊢
      have k2 : B < 0 ↔ B = -1 := neg_m1 hin
      have no : ¬ (abV mm g (15 + 4 * t) = -1 ∧ (B = -1 ∨ ahP (abV mm g) d t B.toNatClampNeg)) → X 22 [some (vR 6 g), some (vI (nI d)), some (vI (B)), some (vI (nI t))] [] mm := by
        intro hc
        rw [if_neg hc] at ih
        show X 22 [some (vR 6 g), some (vI (nI d)), some (vI B), some (vI (nI t))] [] mm
        refine h (fun i => Nat.beq i 4) 3000 22 _ _ _ ?_
        show X 4 [some (vR 6 g), some (vI (nI d)), some (vI B), some (vI ((nI t) + 1))] [] mm
        rw [nI_1]
        exact ih
      have yes : (abV mm g (15 + 4 * t) = -1 ∧ (B = -1 ∨ ahP (abV mm g) d t B.toNatClampNeg)) → X 20 [some (vR 6 g), some (vI (nI d)), some (vI (B)), some (vI (nI t))] [] mm := by
        intro hc
        rw [if_pos hc] at ih
        show X 20 [some (vR 6 g), some (vI (nI d)), some (vI B), some (vI (nI t))] [] mm
        refine h (fun i => Nat.beq i 4) 3000 20 _ _ _ ?_
        show X 4 [some (vR 6 g), some (vI (nI d)), some (vI (nI t)), some (vI ((nI t) + 1))] [] mm
        rw [nI_1]
        exact ih
      have inB : ¬ B < 0 → ∃ o, o < 4 ∧ B = nI o := fun z => hin.resolve_left (fun y => z (k2.mpr y))
      show X 4 [some (vR 6 g), some (vI (nI d)), some (vI B), some (vI (nI t))] [] mm
      refine h (fun i => Nat.beq i 20 || Nat.beq i 22) 3000 4 _ _ _ ?_
      refine br_f (show ¬ (mm.1 6 g 13 ≤ nI t) from by rw [hn]; exact nI_ge ht (by omega)) ?_
      refine And.intro (show Pre_X6_isWed mm [vR 6 g, vI (nI t)] from ⟨g, n, nm, nt, t, hV, by omega, rfl⟩) ?_
      refine brn_c (fun b11 => ?_) (fun b11 => ?_)
      · -- 11: bI (¬ abV mm g (15 + 4 * (nI t).toNatClampNeg) = -1) = 0 taken
        replace b11 : ¬ abV mm g (15 + 4 * (nI t).toNatClampNeg) = -1 := bI_n0.mp b11
        (try simp only [et, ed] at b11)
        show X 22 [some (vR 6 g), some (vI (nI d)), some (vI B), some (vI (nI t))] [] mm
        (try simp only [et, ed])
        exact no (fun z => b11 z.1)
      · -- 11: bI (¬ abV mm g (15 + 4 * (nI t).toNatClampNeg) = -1) = 0 on
        replace b11 : ¬ (¬ abV mm g (15 + 4 * (nI t).toNatClampNeg) = -1) := bI_0.mp b11
        (try simp only [et, ed] at b11)
        refine br_c (fun b13 => ?_) (fun b13 => ?_)
        · -- 13: B < 0 taken
          replace b13 : B < 0 := b13
          (try simp only [et, ed] at b13)
          show X 20 [some (vR 6 g), some (vI (nI d)), some (vI B), some (vI (nI t))] [] mm
          (try simp only [et, ed])
          exact yes ⟨Classical.byContradiction b11, Or.inl (k2.mp b13)⟩
        · -- 13: B < 0 on
          replace b13 : ¬ (B < 0) := b13
          (try simp only [et, ed] at b13)
          refine And.intro (show Pre_X6_isAhead mm [vR 6 g, vI (nI t), vI B, vI (nI d)] from (by obtain ⟨o, ho, e⟩ := inB b13; exact ⟨g, n, nm, nt, t, o, d, hV, by omega, ho, hd, by rw [e]⟩)) ?_
          refine br_c (fun b19 => ?_) (fun b19 => ?_)
          · -- 19: bI (ahP (abV mm g) (nI d).toNatClampNeg (nI t).toNatClampNeg B.toNatClampNeg) = 0 taken
            replace b19 : ¬ (ahP (abV mm g) (nI d).toNatClampNeg (nI t).toNatClampNeg B.toNatClampNeg) := bI_0.mp b19
            (try simp only [et, ed] at b19)
            show X 22 [some (vR 6 g), some (vI (nI d)), some (vI B), some (vI (nI t))] [] mm
            (try simp only [et, ed])
            exact no (fun z => z.2.elim (fun y => b13 (k2.mpr y)) b19)
          · -- 19: bI (ahP (abV mm g) (nI d).toNatClampNeg (nI t).toNatClampNeg B.toNatClampNeg) = 0 on
            replace b19 : ahP (abV mm g) (nI d).toNatClampNeg (nI t).toNatClampNeg B.toNatClampNeg := bI_n0.mp b19
            (try simp only [et, ed] at b19)
            show X 20 [some (vR 6 g), some (vI (nI d)), some (vI B), some (vI (nI t))] [] mm
            (try simp only [et, ed])
            exact yes ⟨Classical.byContradiction b11, Or.inr b19⟩
  show X 0 [some (vR 6 g), some (vI (nI d)), none, none] [] mm
  refine h (fun i => Nat.beq i 4) 3000 0 _ _ _ ?_
  show X 4 [some (vR 6 g), some (vI (nI d)), some (vI (-1)), some (vI 0)] [] mm
  exact loop 0 (by omega)
theorem con_X6_chosenBy (l : Launch) : CON l y_X6_chosenBy prog_8_method_36_code 4 (some .int) rm_X6_chosenBy Pre_X6_chosenBy Fn_X6_chosenBy := CON_of (by decide) rfl rfl (sa_X6_chosenBy l) vc_X6_chosenBy
--tpl ⟨_, _, _, _, {1N}, by assumption, by omega, rfl⟩ || prS (abV {m} {g0}) {1n} ({r 1 6 {g0} 15}).toNatClampNeg
def Pre_X6_proudTo : PreT := fun m as => ∃ g ns nm nt d, VC2 m g ns nm nt ∧ d < 4 ∧ as = [vR 6 g, vI (nI d)]
def Fn_X6_proudTo : FnT := fun m as => match as with
  | [Sum.inr (Sum.inr q), Sum.inl d] => (some (vI (prS (abV m q.2) d.toNatClampNeg (m.1 6 q.2 15).toNatClampNeg)), m)
  | _ => (none, m)
abbrev y_X6_proudTo : MethodName := ⟨"GivenUp$Valley", "proudTo", "(I)I"⟩
def P_X6_proudTo : List StpT := [s_ic (0), s_istore 2, s_ic (0), s_istore 3, s_iload 3, s_aload 0, s_getI 6 15, s_icge 25, s_aload 0, s_iload 3, s_iload 1, s_callV 6 2 Pre_X6_word Fn_X6_word, s_aload 0, s_getR 6 7 36, s_iload 3, s_iald, s_icle 23, s_iload 2, s_ic (1), s_iload 3, s_ishl, s_ior, s_istore 2, s_iinc 3 (1), s_goto 4, s_iload 2, s_iret]
def pc_X6_proudTo : Nat → Nat := fun i => [0, 1, 2, 3, 4, 5, 6, 9, 12, 13, 14, 15, 18, 19, 22, 23, 24, 27, 28, 29, 30, 31, 32, 33, 36, 39, 40].getD i 0
def dl_X6_proudTo : List (Nat × Instr × Nat) := [(0, .iconst 0, 1), (1, .istore_n 2, 1), (2, .iconst 0, 1), (3, .istore_n 3, 1), (4, .iload_n 3, 1), (5, .aload_n 0, 1), (6, .getfield 67, 3), (9, .if_icmp .ge 30, 3), (12, .aload_n 0, 1), (13, .iload_n 3, 1), (14, .iload_n 1, 1), (15, .invokevirtual 191, 3), (18, .aload_n 0, 1), (19, .getfield 34, 3), (22, .iload_n 3, 1), (23, .iaload, 1), (24, .if_icmp .le 9, 3), (27, .iload_n 2, 1), (28, .iconst 1, 1), (29, .iload_n 3, 1), (30, .ishl, 1), (31, .ior, 1), (32, .istore_n 2, 1), (33, .iinc 3 1, 3), (36, .goto (-32), 3), (39, .iload_n 2, 1), (40, .ireturn, 1)]
theorem dc_X6_proudTo : DEC prog_8_method_37_code pc_X6_proudTo dl_X6_proudTo := DEC_of (by decide +kernel)
abbrev rm_X6_proudTo : Room := { frames := 1, cells := 0, slots := 0, locals := 22 }
set_option maxRecDepth 20000 in
theorem sa_X6_proudTo (l : Launch) : SNDALL l prog_8_method_37_code "GivenUp$Valley" 4 (some .int) rm_X6_proudTo P_X6_proudTo pc_X6_proudTo := fun p e s m args below meth c cells slots Q D dA ad A RR hC hR => by
  have hM := RTX_room (R := rm_X6_proudTo) hR
  exact ⟨st_iconst hC (n := 0) (x := 0) (dc_X6_proudTo 0 (0, .iconst 0, 1) rfl rfl) rfl (by decide),
    st_istore_n hC (n := 1) (k := 2) (dc_X6_proudTo 1 (1, .istore_n 2, 1) rfl rfl) rfl rfl (by decide),
    st_iconst hC (n := 2) (x := 0) (dc_X6_proudTo 2 (2, .iconst 0, 1) rfl rfl) rfl (by decide),
    st_istore_n hC (n := 3) (k := 3) (dc_X6_proudTo 3 (3, .istore_n 3, 1) rfl rfl) rfl rfl (by decide),
    st_iload_n hC (n := 4) (k := 3) (dc_X6_proudTo 4 (4, .iload_n 3, 1) rfl rfl) rfl rfl,
    st_aload_n hC (n := 5) (k := 0) (dc_X6_proudTo 5 (5, .aload_n 0, 1) rfl rfl) rfl rfl,
    st_getI hC (n := 6) (k := 6) (j := 15) (dc_X6_proudTo 6 (6, .getfield 67, 3) rfl rfl) rfl clf_6 (by decide) rfl wd_629,
    st_icge hC (n := 7) (dc_X6_proudTo 7 (9, .if_icmp .ge 30, 3) rfl rfl) rfl (by decide),
    st_aload_n hC (n := 8) (k := 0) (dc_X6_proudTo 8 (12, .aload_n 0, 1) rfl rfl) rfl rfl,
    st_iload_n hC (n := 9) (k := 3) (dc_X6_proudTo 9 (13, .iload_n 3, 1) rfl rfl) rfl rfl,
    st_iload_n hC (n := 10) (k := 1) (dc_X6_proudTo 10 (14, .iload_n 1, 1) rfl rfl) rfl rfl,
    st_callV hC (n := 11) (k := 6) (na := 2) (con_X6_word l) (dc_X6_proudTo 11 (15, .invokevirtual 191, 3) rfl rfl) rfl wd_1082 wd_155 (by decide) ⟨rfl, rfl, by decide, by decide⟩ hM wd_1227 wd_1080 wd_1081 clf_6,
    st_aload_n hC (n := 12) (k := 0) (dc_X6_proudTo 12 (18, .aload_n 0, 1) rfl rfl) rfl rfl,
    st_getR hC (n := 13) (k := 6) (j := 7) (dc_X6_proudTo 13 (19, .getfield 34, 3) rfl rfl) rfl clf_6 (by decide) rfl (by decide) wd_598,
    st_iload_n hC (n := 14) (k := 3) (dc_X6_proudTo 14 (22, .iload_n 3, 1) rfl rfl) rfl rfl,
    st_iald hC (n := 15) (dc_X6_proudTo 15 (23, .iaload, 1) rfl rfl) rfl,
    st_icle hC (n := 16) (dc_X6_proudTo 16 (24, .if_icmp .le 9, 3) rfl rfl) rfl (by decide),
    st_iload_n hC (n := 17) (k := 2) (dc_X6_proudTo 17 (27, .iload_n 2, 1) rfl rfl) rfl rfl,
    st_iconst hC (n := 18) (x := 1) (dc_X6_proudTo 18 (28, .iconst 1, 1) rfl rfl) rfl (by decide),
    st_iload_n hC (n := 19) (k := 3) (dc_X6_proudTo 19 (29, .iload_n 3, 1) rfl rfl) rfl rfl,
    st_ishl hC (n := 20) (dc_X6_proudTo 20 (30, .ishl, 1) rfl rfl) rfl,
    st_ior hC (n := 21) (dc_X6_proudTo 21 (31, .ior, 1) rfl rfl) rfl,
    st_istore_n hC (n := 22) (k := 2) (dc_X6_proudTo 22 (32, .istore_n 2, 1) rfl rfl) rfl rfl (by decide),
    st_iinc hC (n := 23) (x := 1) (dc_X6_proudTo 23 (33, .iinc 3 1, 3) rfl rfl) rfl (by decide) (by decide),
    st_goto hC (n := 24) (dc_X6_proudTo 24 (36, .goto (-32), 3) rfl rfl) (by decide),
    st_iload_n hC (n := 25) (k := 2) (dc_X6_proudTo 25 (39, .iload_n 2, 1) rfl rfl) rfl rfl,
    st_iret hC (n := 26) hR (dc_X6_proudTo 26 (40, .ireturn, 1) rfl rfl), trivial⟩
set_option maxRecDepth 8000 in
theorem vc_X6_proudTo : VC P_X6_proudTo 4 Pre_X6_proudTo Fn_X6_proudTo := by
  rintro mm as hom hoa ⟨g, ns, nm, n, d, hV, hd, rfl⟩
  refine ⟨Nat.le_of_ble_eq_true rfl, fun X h => ?_⟩
  have hn : mm.1 6 g 15 = nI n := hV.1.2.2.1.1
  have hn12 : n ≤ 12 := hV.1.2.2.1.2
  have ed : (nI d).toNatClampNeg = d := nI_clamp (by omega)
  have hF : Fn_X6_proudTo mm [vR 6 g, vI (nI d)] = (some (vI (prS (abV mm g) d n)), mm) := by
    show (some (vI (prS (abV mm g) (nI d).toNatClampNeg (mm.1 6 g 15).toNatClampNeg)), mm) = _
    rw [hn, ed, nI_clamp (by omega)]
  rw [hF] at h
  have loop : ∀ t, t ≤ n → X 4 [some (vR 6 g), some (vI (nI d)), some (vI (prS (abV mm g) d t)), some (vI (nI t))] [] mm := by
    refine up_ind n ?_ (fun t ht ih => ?_)
    ·
      show X 4 [some (vR 6 g), some (vI (nI d)), some (vI (prS (abV mm g) d n)), some (vI (nI n))] [] mm
      refine h (fun _ => false) 3000 4 _ _ _ ?_
      refine br_t (show mm.1 6 g 15 ≤ nI n from by rw [hn]; exact Int32.le_refl _) ?_
      show ((some (vI (prS (abV mm g) d n)) : Option MV), mm) = _
      exact rfl
    · have et : (nI t).toNatClampNeg = t := nI_clamp (by omega)
      rw [prS, ab_wor (show t < 12 by omega)] at ih
      show X 4 [some (vR 6 g), some (vI (nI d)), some (vI (prS (abV mm g) d t)), some (vI (nI t))] [] mm
      refine h (fun i => Nat.beq i 4) 3000 4 _ _ _ ?_
      refine br_f (show ¬ (mm.1 6 g 15 ≤ nI t) from by rw [hn]; exact nI_ge ht (by omega)) ?_
      refine And.intro (show Pre_X6_word mm [vR 6 g, vI (nI t), vI (nI d)] from ⟨g, t, d, by omega, hd, rfl⟩) ?_
      refine And.intro (show inb (nI t) (alen 36) = true from (inb_o 12 rfl rfl rfl (by omega))) ?_
      refine br_c (fun b16 => ?_) (fun b16 => ?_)
      · -- 16: abV mm g (80 + 4 * (nI t).toNatClampNeg + (nI d).toNatClampNeg) ≤ mm.1 36 g ((nI t).toNatClampNeg) taken
        replace b16 : abV mm g (80 + 4 * (nI t).toNatClampNeg + (nI d).toNatClampNeg) ≤ mm.1 36 g ((nI t).toNatClampNeg) := b16
        (try simp only [et, ed] at b16)
        show X 4 [some (vR 6 g), some (vI (nI d)), some (vI (prS (abV mm g) d t)), some (vI ((nI t) + 1))] [] mm
        (try simp only [et, ed])
        rw [if_neg (fun z => z b16), Int32.or_zero] at ih
        rw [nI_1] 
        exact ih
      · -- 16: abV mm g (80 + 4 * (nI t).toNatClampNeg + (nI d).toNatClampNeg) ≤ mm.1 36 g ((nI t).toNatClampNeg) on
        replace b16 : ¬ (abV mm g (80 + 4 * (nI t).toNatClampNeg + (nI d).toNatClampNeg) ≤ mm.1 36 g ((nI t).toNatClampNeg)) := b16
        (try simp only [et, ed] at b16)
        show X 4 [some (vR 6 g), some (vI (nI d)), some (vI ((prS (abV mm g) d t) ||| (1 <<< ((nI t) &&& 31)))), some (vI ((nI t) + 1))] [] mm
        (try simp only [et, ed])
        rw [if_pos b16] at ih
        rw [nI_1] 
        exact ih
  show X 0 [some (vR 6 g), some (vI (nI d)), none, none] [] mm
  refine h (fun i => Nat.beq i 4) 3000 0 _ _ _ ?_
  show X 4 [some (vR 6 g), some (vI (nI d)), some (vI 0), some (vI 0)] [] mm
  exact loop 0 (by omega)
theorem con_X6_proudTo (l : Launch) : CON l y_X6_proudTo prog_8_method_37_code 4 (some .int) rm_X6_proudTo Pre_X6_proudTo Fn_X6_proudTo := CON_of (by decide) rfl rfl (sa_X6_proudTo l) vc_X6_proudTo
