/-! PART 65: the class: a valley that is cleared, told, completed -/

theorem mI_ne {m : MM} {k g i j : Nat} {x : Int32} (e : i ≠ j) : (mI m k g j x).1 k g i = m.1 k g i := by
  rw [mRow_row]
  exact upd_ne e
theorem mI_eq2 {m : MM} {k g j : Nat} {x : Int32} : (mI m k g j x).1 k g j = x := by
  rw [mRow_row]
  exact upd_eq
def flM (m : MM) (k g : Nat) (v : Int32) : MM := mRow m k g (flR (m.1 k g) v (alen k))
def dlM (m : MM) (g : Nat) : MM := mI (mI (mI (flM (flM (flM (flM m 16 g 0) 17 g 0) 18 g (-1)) 19 g (-1)) 1 g 4 0) 1 g 5 0) 1 g 6 0
def ylM (m : MM) (g : Nat) : MM := mI (mI (mI m 9 g 6 0) 9 g 7 0) 9 g 8 0
def vlM1 (m : MM) (g : Nat) : MM := mI (flM (flM (flM (flM (mRowL m 29 g (flQ (m.2.1 29 g) 0 (alen 29))) 31 g 0) 37 g 0) 38 g 0) 39 g (-1)) 6 g 19 0
def vlM2 (m : MM) (g : Nat) : MM := mI (mI (mI (mI (mI (mI m 6 g 13 0) 6 g 14 0) 6 g 15 0) 6 g 16 0) 6 g 17 2) 6 g 18 4
def vlM3 (m : MM) (g : Nat) : MM := vlM2 (ylM (dlM (vlM1 m g) g) g) g
--tpl J7_fill_d0a16: ⟨_, _, Or.inl rfl, _, rfl⟩ ||  || mRowL {m} {k0} {g0} (flQ ({r 2.1 {k0} {g0}}) {1} (alen {k0}))

--tpl ⟨_, rfl⟩ ||  || dlM {m} {g0}
def Pre_X1_clear : PreT := fun _ as => ∃ g : Nat, as = [vR 1 g]
def Fn_X1_clear : FnT := fun m as => match as with
  | [Sum.inr (Sum.inr q)] => (none, dlM m q.2)
  | _ => (none, m)
abbrev y_X1_clear : MethodName := ⟨"GivenUp$Deeds", "clear", "()V"⟩
def P_X1_clear : List StpT := [s_aload 0, s_getR 1 0 16, s_ic (0), s_callS 2 Pre_J7_fill_53178 Fn_J7_fill_53178, s_aload 0, s_getR 1 1 17, s_ic (0), s_callS 2 Pre_J7_fill_53178 Fn_J7_fill_53178, s_aload 0, s_getR 1 2 18, s_ic (-1), s_callS 2 Pre_J7_fill_53178 Fn_J7_fill_53178, s_aload 0, s_getR 1 3 19, s_ic (-1), s_callS 2 Pre_J7_fill_53178 Fn_J7_fill_53178, s_aload 0, s_ic (0), s_putI 1 4, s_aload 0, s_ic (0), s_putI 1 5, s_aload 0, s_ic (0), s_putI 1 6, s_vret]
def pc_X1_clear : Nat → Nat := fun i => [0, 1, 4, 5, 8, 9, 12, 13, 16, 17, 20, 21, 24, 25, 28, 29, 32, 33, 34, 37, 38, 39, 42, 43, 44, 47].getD i 0
def dl_X1_clear : List (Nat × Instr × Nat) := [(0, .aload_n 0, 1), (1, .getfield 9, 3), (4, .iconst 0, 1), (5, .invokestatic 34, 3), (8, .aload_n 0, 1), (9, .getfield 15, 3), (12, .iconst 0, 1), (13, .invokestatic 34, 3), (16, .aload_n 0, 1), (17, .getfield 18, 3), (20, .iconst (-1), 1), (21, .invokestatic 34, 3), (24, .aload_n 0, 1), (25, .getfield 21, 3), (28, .iconst (-1), 1), (29, .invokestatic 34, 3), (32, .aload_n 0, 1), (33, .iconst 0, 1), (34, .putfield 24, 3), (37, .aload_n 0, 1), (38, .iconst 0, 1), (39, .putfield 28, 3), (42, .aload_n 0, 1), (43, .iconst 0, 1), (44, .putfield 31, 3), (47, .return_, 1)]
theorem dc_X1_clear : DEC prog_3_method_2_code pc_X1_clear dl_X1_clear := DEC_of (by decide +kernel)
abbrev rm_X1_clear : Room := { frames := 1, cells := 0, slots := 0, locals := 23 }
set_option maxRecDepth 20000 in
theorem sa_X1_clear (l : Launch) : SNDALL l prog_3_method_2_code "GivenUp$Deeds" 1 none rm_X1_clear P_X1_clear pc_X1_clear := fun p e s m args below meth c cells slots Q D dA ad A RR hC hR => by
  have hM := RTX_room (R := rm_X1_clear) hR
  exact ⟨st_aload_n hC (n := 0) (k := 0) (dc_X1_clear 0 (0, .aload_n 0, 1) rfl rfl) rfl rfl,
    st_getR hC (n := 1) (k := 1) (j := 0) (dc_X1_clear 1 (1, .getfield 9, 3) rfl rfl) rfl clf_1 (by decide) rfl (by decide) wd_463,
    st_iconst hC (n := 2) (x := 0) (dc_X1_clear 2 (4, .iconst 0, 1) rfl rfl) rfl (by decide),
    st_callS hC (n := 3) (na := 2) (con_J7_fill_53178 l) (dc_X1_clear 3 (5, .invokestatic 34, 3) rfl rfl) rfl wd_565 wd_158 (by decide) ⟨rfl, rfl, by decide, by decide⟩ hM wd_570 wd_564,
    st_aload_n hC (n := 4) (k := 0) (dc_X1_clear 4 (8, .aload_n 0, 1) rfl rfl) rfl rfl,
    st_getR hC (n := 5) (k := 1) (j := 1) (dc_X1_clear 5 (9, .getfield 15, 3) rfl rfl) rfl clf_1 (by decide) rfl (by decide) wd_467,
    st_iconst hC (n := 6) (x := 0) (dc_X1_clear 6 (12, .iconst 0, 1) rfl rfl) rfl (by decide),
    st_callS hC (n := 7) (na := 2) (con_J7_fill_53178 l) (dc_X1_clear 7 (13, .invokestatic 34, 3) rfl rfl) rfl wd_565 wd_158 (by decide) ⟨rfl, rfl, by decide, by decide⟩ hM wd_570 wd_564,
    st_aload_n hC (n := 8) (k := 0) (dc_X1_clear 8 (16, .aload_n 0, 1) rfl rfl) rfl rfl,
    st_getR hC (n := 9) (k := 1) (j := 2) (dc_X1_clear 9 (17, .getfield 18, 3) rfl rfl) rfl clf_1 (by decide) rfl (by decide) wd_471,
    st_iconst hC (n := 10) (x := (-1)) (dc_X1_clear 10 (20, .iconst (-1), 1) rfl rfl) rfl (by decide),
    st_callS hC (n := 11) (na := 2) (con_J7_fill_53178 l) (dc_X1_clear 11 (21, .invokestatic 34, 3) rfl rfl) rfl wd_565 wd_158 (by decide) ⟨rfl, rfl, by decide, by decide⟩ hM wd_570 wd_564,
    st_aload_n hC (n := 12) (k := 0) (dc_X1_clear 12 (24, .aload_n 0, 1) rfl rfl) rfl rfl,
    st_getR hC (n := 13) (k := 1) (j := 3) (dc_X1_clear 13 (25, .getfield 21, 3) rfl rfl) rfl clf_1 (by decide) rfl (by decide) wd_474,
    st_iconst hC (n := 14) (x := (-1)) (dc_X1_clear 14 (28, .iconst (-1), 1) rfl rfl) rfl (by decide),
    st_callS hC (n := 15) (na := 2) (con_J7_fill_53178 l) (dc_X1_clear 15 (29, .invokestatic 34, 3) rfl rfl) rfl wd_565 wd_158 (by decide) ⟨rfl, rfl, by decide, by decide⟩ hM wd_570 wd_564,
    st_aload_n hC (n := 16) (k := 0) (dc_X1_clear 16 (32, .aload_n 0, 1) rfl rfl) rfl rfl,
    st_iconst hC (n := 17) (x := 0) (dc_X1_clear 17 (33, .iconst 0, 1) rfl rfl) rfl (by decide),
    st_putI hC (n := 18) (k := 1) (j := 4) (dc_X1_clear 18 (34, .putfield 24, 3) rfl rfl) rfl clf_1 (by decide) rfl rfl rfl wd_477,
    st_aload_n hC (n := 19) (k := 0) (dc_X1_clear 19 (37, .aload_n 0, 1) rfl rfl) rfl rfl,
    st_iconst hC (n := 20) (x := 0) (dc_X1_clear 20 (38, .iconst 0, 1) rfl rfl) rfl (by decide),
    st_putI hC (n := 21) (k := 1) (j := 5) (dc_X1_clear 21 (39, .putfield 28, 3) rfl rfl) rfl clf_1 (by decide) rfl rfl rfl wd_481,
    st_aload_n hC (n := 22) (k := 0) (dc_X1_clear 22 (42, .aload_n 0, 1) rfl rfl) rfl rfl,
    st_iconst hC (n := 23) (x := 0) (dc_X1_clear 23 (43, .iconst 0, 1) rfl rfl) rfl (by decide),
    st_putI hC (n := 24) (k := 1) (j := 6) (dc_X1_clear 24 (44, .putfield 31, 3) rfl rfl) rfl clf_1 (by decide) rfl rfl rfl wd_485,
    st_vret hC (n := 25) hR (dc_X1_clear 25 (47, .return_, 1) rfl rfl), trivial⟩
set_option maxRecDepth 8000 in
theorem vc_X1_clear : VC P_X1_clear 1 Pre_X1_clear Fn_X1_clear := by
  rintro mm as hom hoa ⟨g, rfl⟩
  refine ⟨Nat.le_of_ble_eq_true rfl, fun X h => ?_⟩
  show X 0 [some (vR 1 g)] [] mm
  refine h (fun _ => false) 3000 0 _ _ _ ?_
  refine And.intro (show Pre_J7_fill_53178 mm [vR 16 g, vI 0] from ⟨16, g, rfl, 0, rfl⟩) ?_
  refine And.intro (show Pre_J7_fill_53178 (mRow mm 16 g (flR (mm.1 16 g) 0 (alen 16))) [vR 17 g, vI 0] from ⟨17, g, rfl, 0, rfl⟩) ?_
  refine And.intro (show Pre_J7_fill_53178 (mRow (mRow mm 16 g (flR (mm.1 16 g) 0 (alen 16))) 17 g (flR (mm.1 17 g) 0 (alen 17))) [vR 18 g, vI (-1)] from ⟨18, g, rfl, -1, rfl⟩) ?_
  refine And.intro (show Pre_J7_fill_53178 (mRow (mRow (mRow mm 16 g (flR (mm.1 16 g) 0 (alen 16))) 17 g (flR (mm.1 17 g) 0 (alen 17))) 18 g (flR (mm.1 18 g) (-1) (alen 18))) [vR 19 g, vI (-1)] from ⟨19, g, rfl, -1, rfl⟩) ?_
  show ((none : Option MV), mI (mI (mI (mRow (mRow (mRow (mRow mm 16 g (flR (mm.1 16 g) 0 (alen 16))) 17 g (flR (mm.1 17 g) 0 (alen 17))) 18 g (flR (mm.1 18 g) (-1) (alen 18))) 19 g (flR (mm.1 19 g) (-1) (alen 19))) 1 g 4 0) 1 g 5 0) 1 g 6 0) = _
  exact rfl
theorem con_X1_clear (l : Launch) : CON l y_X1_clear prog_3_method_2_code 1 none rm_X1_clear Pre_X1_clear Fn_X1_clear := CON_of (by decide) rfl rfl (sa_X1_clear l) vc_X1_clear
--tpl ⟨_, rfl⟩ ||  || ylM {m} {g0}
def Pre_X9_clear : PreT := fun _ as => ∃ g : Nat, as = [vR 9 g]
def Fn_X9_clear : FnT := fun m as => match as with
  | [Sum.inr (Sum.inr q)] => (none, ylM m q.2)
  | _ => (none, m)
abbrev y_X9_clear : MethodName := ⟨"GivenUp$Years", "clear", "()V"⟩
def P_X9_clear : List StpT := [s_aload 0, s_ic (0), s_putZ 9 6, s_aload 0, s_ic (0), s_putI 9 7, s_aload 0, s_ic (0), s_putI 9 8, s_vret]
def pc_X9_clear : Nat → Nat := fun i => [0, 1, 2, 5, 6, 7, 10, 11, 12, 15].getD i 0
def dl_X9_clear : List (Nat × Instr × Nat) := [(0, .aload_n 0, 1), (1, .iconst 0, 1), (2, .putfield 30, 3), (5, .aload_n 0, 1), (6, .iconst 0, 1), (7, .putfield 34, 3), (10, .aload_n 0, 1), (11, .iconst 0, 1), (12, .putfield 38, 3), (15, .return_, 1)]
theorem dc_X9_clear : DEC prog_11_method_2_code pc_X9_clear dl_X9_clear := DEC_of (by decide +kernel)
abbrev rm_X9_clear : Room := { frames := 0, cells := 0, slots := 0, locals := 0 }
set_option maxRecDepth 20000 in
theorem sa_X9_clear (l : Launch) : SNDALL l prog_11_method_2_code "GivenUp$Years" 1 none rm_X9_clear P_X9_clear pc_X9_clear := fun p e s m args below meth c cells slots Q D dA ad A RR hC hR => by
  have hM := RTX_room (R := rm_X9_clear) hR
  exact ⟨st_aload_n hC (n := 0) (k := 0) (dc_X9_clear 0 (0, .aload_n 0, 1) rfl rfl) rfl rfl,
    st_iconst hC (n := 1) (x := 0) (dc_X9_clear 1 (1, .iconst 0, 1) rfl rfl) rfl (by decide),
    st_putZ hC (n := 2) (k := 9) (j := 6) (dc_X9_clear 2 (2, .putfield 30, 3) rfl rfl) rfl clf_9 (by decide) rfl rfl rfl wd_528,
    st_aload_n hC (n := 3) (k := 0) (dc_X9_clear 3 (5, .aload_n 0, 1) rfl rfl) rfl rfl,
    st_iconst hC (n := 4) (x := 0) (dc_X9_clear 4 (6, .iconst 0, 1) rfl rfl) rfl (by decide),
    st_putI hC (n := 5) (k := 9) (j := 7) (dc_X9_clear 5 (7, .putfield 34, 3) rfl rfl) rfl clf_9 (by decide) rfl rfl rfl wd_531,
    st_aload_n hC (n := 6) (k := 0) (dc_X9_clear 6 (10, .aload_n 0, 1) rfl rfl) rfl rfl,
    st_iconst hC (n := 7) (x := 0) (dc_X9_clear 7 (11, .iconst 0, 1) rfl rfl) rfl (by decide),
    st_putI hC (n := 8) (k := 9) (j := 8) (dc_X9_clear 8 (12, .putfield 38, 3) rfl rfl) rfl clf_9 (by decide) rfl rfl rfl wd_534,
    st_vret hC (n := 9) hR (dc_X9_clear 9 (15, .return_, 1) rfl rfl), trivial⟩
set_option maxRecDepth 8000 in
theorem vc_X9_clear : VC P_X9_clear 1 Pre_X9_clear Fn_X9_clear := by
  rintro mm as hom hoa ⟨g, rfl⟩
  refine ⟨Nat.le_of_ble_eq_true rfl, fun X h => ?_⟩
  show X 0 [some (vR 9 g)] [] mm
  refine h (fun _ => false) 3000 0 _ _ _ ?_
  refine And.intro (Or.inl rfl) ?_
  show ((none : Option MV), mI (mI (mI mm 9 g 6 0) 9 g 7 0) 9 g 8 0) = _
  exact rfl
theorem con_X9_clear (l : Launch) : CON l y_X9_clear prog_11_method_2_code 1 none rm_X9_clear Pre_X9_clear Fn_X9_clear := CON_of (by decide) rfl rfl (sa_X9_clear l) vc_X9_clear
--tpl ⟨_, rfl⟩ ||  || vlM3 {m} {g0}
def Pre_X6_clear : PreT := fun _ as => ∃ g : Nat, as = [vR 6 g]
def Fn_X6_clear : FnT := fun m as => match as with
  | [Sum.inr (Sum.inr q)] => (none, vlM3 m q.2)
  | _ => (none, m)
abbrev y_X6_clear : MethodName := ⟨"GivenUp$Valley", "clear", "()V"⟩
def P_X6_clear : List StpT := [s_aload 0, s_getR 6 0 29, s_lc 0, s_callS 2 Pre_J7_fill_d0a16 Fn_J7_fill_d0a16, s_aload 0, s_getR 6 2 31, s_ic (0), s_callS 2 Pre_J7_fill_53178 Fn_J7_fill_53178, s_aload 0, s_getR 6 8 37, s_ic (0), s_callS 2 Pre_J7_fill_53178 Fn_J7_fill_53178, s_aload 0, s_getR 6 9 38, s_ic (0), s_callS 2 Pre_J7_fill_53178 Fn_J7_fill_53178, s_aload 0, s_getR 6 10 39, s_ic (-1), s_callS 2 Pre_J7_fill_53178 Fn_J7_fill_53178, s_aload 0, s_ic (0), s_putI 6 19, s_aload 0, s_getR 6 11 1, s_callV 1 0 Pre_X1_clear Fn_X1_clear, s_aload 0, s_getR 6 12 9, s_callV 9 0 Pre_X9_clear Fn_X9_clear, s_aload 0, s_ic (0), s_putI 6 13, s_aload 0, s_ic (0), s_putI 6 14, s_aload 0, s_ic (0), s_putI 6 15, s_aload 0, s_ic (0), s_putI 6 16, s_aload 0, s_ic (2), s_putI 6 17, s_aload 0, s_ic (4), s_putI 6 18, s_vret]
def pc_X6_clear : Nat → Nat := fun i => [0, 1, 4, 5, 8, 9, 12, 13, 16, 17, 20, 21, 24, 25, 28, 29, 32, 33, 36, 37, 40, 41, 42, 45, 46, 49, 52, 53, 56, 59, 60, 61, 64, 65, 66, 69, 70, 71, 74, 75, 76, 79, 80, 81, 84, 85, 86, 89].getD i 0
def dl_X6_clear : List (Nat × Instr × Nat) := [(0, .aload_n 0, 1), (1, .getfield 9, 3), (4, .lconst 0, 1), (5, .invokestatic 85, 3), (8, .aload_n 0, 1), (9, .getfield 19, 3), (12, .iconst 0, 1), (13, .invokestatic 91, 3), (16, .aload_n 0, 1), (17, .getfield 37, 3), (20, .iconst 0, 1), (21, .invokestatic 91, 3), (24, .aload_n 0, 1), (25, .getfield 40, 3), (28, .iconst 0, 1), (29, .invokestatic 91, 3), (32, .aload_n 0, 1), (33, .getfield 43, 3), (36, .iconst (-1), 1), (37, .invokestatic 91, 3), (40, .aload_n 0, 1), (41, .iconst 0, 1), (42, .putfield 79, 3), (45, .aload_n 0, 1), (46, .getfield 49, 3), (49, .invokevirtual 94, 3), (52, .aload_n 0, 1), (53, .getfield 56, 3), (56, .invokevirtual 95, 3), (59, .aload_n 0, 1), (60, .iconst 0, 1), (61, .putfield 60, 3), (64, .aload_n 0, 1), (65, .iconst 0, 1), (66, .putfield 64, 3), (69, .aload_n 0, 1), (70, .iconst 0, 1), (71, .putfield 67, 3), (74, .aload_n 0, 1), (75, .iconst 0, 1), (76, .putfield 70, 3), (79, .aload_n 0, 1), (80, .iconst 2, 1), (81, .putfield 73, 3), (84, .aload_n 0, 1), (85, .iconst 4, 1), (86, .putfield 76, 3), (89, .return_, 1)]
theorem dc_X6_clear : DEC prog_8_method_2_code pc_X6_clear dl_X6_clear := DEC_of (by decide +kernel)
abbrev rm_X6_clear : Room := { frames := 2, cells := 0, slots := 0, locals := 43 }
set_option maxRecDepth 20000 in
theorem sa_X6_clear (l : Launch) : SNDALL l prog_8_method_2_code "GivenUp$Valley" 1 none rm_X6_clear P_X6_clear pc_X6_clear := fun p e s m args below meth c cells slots Q D dA ad A RR hC hR => by
  have hM := RTX_room (R := rm_X6_clear) hR
  exact ⟨st_aload_n hC (n := 0) (k := 0) (dc_X6_clear 0 (0, .aload_n 0, 1) rfl rfl) rfl rfl,
    st_getR hC (n := 1) (k := 6) (j := 0) (dc_X6_clear 1 (1, .getfield 9, 3) rfl rfl) rfl clf_6 (by decide) rfl (by decide) wd_575,
    st_lconst hC (n := 2) (x := 0) (dc_X6_clear 2 (4, .lconst 0, 1) rfl rfl) rfl (by decide),
    st_callS hC (n := 3) (na := 2) (con_J7_fill_d0a16 l) (dc_X6_clear 3 (5, .invokestatic 85, 3) rfl rfl) rfl wd_562 wd_158 (by decide) ⟨rfl, rfl, by decide, by decide⟩ hM wd_560 wd_561,
    st_aload_n hC (n := 4) (k := 0) (dc_X6_clear 4 (8, .aload_n 0, 1) rfl rfl) rfl rfl,
    st_getR hC (n := 5) (k := 6) (j := 2) (dc_X6_clear 5 (9, .getfield 19, 3) rfl rfl) rfl clf_6 (by decide) rfl (by decide) wd_581,
    st_iconst hC (n := 6) (x := 0) (dc_X6_clear 6 (12, .iconst 0, 1) rfl rfl) rfl (by decide),
    st_callS hC (n := 7) (na := 2) (con_J7_fill_53178 l) (dc_X6_clear 7 (13, .invokestatic 91, 3) rfl rfl) rfl wd_565 wd_158 (by decide) ⟨rfl, rfl, by decide, by decide⟩ hM wd_563 wd_564,
    st_aload_n hC (n := 8) (k := 0) (dc_X6_clear 8 (16, .aload_n 0, 1) rfl rfl) rfl rfl,
    st_getR hC (n := 9) (k := 6) (j := 8) (dc_X6_clear 9 (17, .getfield 37, 3) rfl rfl) rfl clf_6 (by decide) rfl (by decide) wd_601,
    st_iconst hC (n := 10) (x := 0) (dc_X6_clear 10 (20, .iconst 0, 1) rfl rfl) rfl (by decide),
    st_callS hC (n := 11) (na := 2) (con_J7_fill_53178 l) (dc_X6_clear 11 (21, .invokestatic 91, 3) rfl rfl) rfl wd_565 wd_158 (by decide) ⟨rfl, rfl, by decide, by decide⟩ hM wd_563 wd_564,
    st_aload_n hC (n := 12) (k := 0) (dc_X6_clear 12 (24, .aload_n 0, 1) rfl rfl) rfl rfl,
    st_getR hC (n := 13) (k := 6) (j := 9) (dc_X6_clear 13 (25, .getfield 40, 3) rfl rfl) rfl clf_6 (by decide) rfl (by decide) wd_605,
    st_iconst hC (n := 14) (x := 0) (dc_X6_clear 14 (28, .iconst 0, 1) rfl rfl) rfl (by decide),
    st_callS hC (n := 15) (na := 2) (con_J7_fill_53178 l) (dc_X6_clear 15 (29, .invokestatic 91, 3) rfl rfl) rfl wd_565 wd_158 (by decide) ⟨rfl, rfl, by decide, by decide⟩ hM wd_563 wd_564,
    st_aload_n hC (n := 16) (k := 0) (dc_X6_clear 16 (32, .aload_n 0, 1) rfl rfl) rfl rfl,
    st_getR hC (n := 17) (k := 6) (j := 10) (dc_X6_clear 17 (33, .getfield 43, 3) rfl rfl) rfl clf_6 (by decide) rfl (by decide) wd_608,
    st_iconst hC (n := 18) (x := (-1)) (dc_X6_clear 18 (36, .iconst (-1), 1) rfl rfl) rfl (by decide),
    st_callS hC (n := 19) (na := 2) (con_J7_fill_53178 l) (dc_X6_clear 19 (37, .invokestatic 91, 3) rfl rfl) rfl wd_565 wd_158 (by decide) ⟨rfl, rfl, by decide, by decide⟩ hM wd_563 wd_564,
    st_aload_n hC (n := 20) (k := 0) (dc_X6_clear 20 (40, .aload_n 0, 1) rfl rfl) rfl rfl,
    st_iconst hC (n := 21) (x := 0) (dc_X6_clear 21 (41, .iconst 0, 1) rfl rfl) rfl (by decide),
    st_putI hC (n := 22) (k := 6) (j := 19) (dc_X6_clear 22 (42, .putfield 79, 3) rfl rfl) rfl clf_6 (by decide) rfl rfl rfl wd_644,
    st_aload_n hC (n := 23) (k := 0) (dc_X6_clear 23 (45, .aload_n 0, 1) rfl rfl) rfl rfl,
    st_getR hC (n := 24) (k := 6) (j := 11) (dc_X6_clear 24 (46, .getfield 49, 3) rfl rfl) rfl clf_6 (by decide) rfl (by decide) wd_610,
    st_callV hC (n := 25) (k := 1) (na := 0) (con_X1_clear l) (dc_X6_clear 25 (49, .invokevirtual 94, 3) rfl rfl) rfl wd_569 wd_156 (by decide) ⟨rfl, rfl, by decide, by decide⟩ hM wd_566 wd_567 wd_568 clf_1,
    st_aload_n hC (n := 26) (k := 0) (dc_X6_clear 26 (52, .aload_n 0, 1) rfl rfl) rfl rfl,
    st_getR hC (n := 27) (k := 6) (j := 12) (dc_X6_clear 27 (53, .getfield 56, 3) rfl rfl) rfl clf_6 (by decide) rfl (by decide) wd_614,
    st_callV hC (n := 28) (k := 9) (na := 0) (con_X9_clear l) (dc_X6_clear 28 (56, .invokevirtual 95, 3) rfl rfl) rfl wd_574 wd_157 (by decide) ⟨rfl, rfl, by decide, by decide⟩ hM wd_571 wd_572 wd_573 clf_9,
    st_aload_n hC (n := 29) (k := 0) (dc_X6_clear 29 (59, .aload_n 0, 1) rfl rfl) rfl rfl,
    st_iconst hC (n := 30) (x := 0) (dc_X6_clear 30 (60, .iconst 0, 1) rfl rfl) rfl (by decide),
    st_putI hC (n := 31) (k := 6) (j := 13) (dc_X6_clear 31 (61, .putfield 60, 3) rfl rfl) rfl clf_6 (by decide) rfl rfl rfl wd_617,
    st_aload_n hC (n := 32) (k := 0) (dc_X6_clear 32 (64, .aload_n 0, 1) rfl rfl) rfl rfl,
    st_iconst hC (n := 33) (x := 0) (dc_X6_clear 33 (65, .iconst 0, 1) rfl rfl) rfl (by decide),
    st_putI hC (n := 34) (k := 6) (j := 14) (dc_X6_clear 34 (66, .putfield 64, 3) rfl rfl) rfl clf_6 (by decide) rfl rfl rfl wd_623,
    st_aload_n hC (n := 35) (k := 0) (dc_X6_clear 35 (69, .aload_n 0, 1) rfl rfl) rfl rfl,
    st_iconst hC (n := 36) (x := 0) (dc_X6_clear 36 (70, .iconst 0, 1) rfl rfl) rfl (by decide),
    st_putI hC (n := 37) (k := 6) (j := 15) (dc_X6_clear 37 (71, .putfield 67, 3) rfl rfl) rfl clf_6 (by decide) rfl rfl rfl wd_629,
    st_aload_n hC (n := 38) (k := 0) (dc_X6_clear 38 (74, .aload_n 0, 1) rfl rfl) rfl rfl,
    st_iconst hC (n := 39) (x := 0) (dc_X6_clear 39 (75, .iconst 0, 1) rfl rfl) rfl (by decide),
    st_putI hC (n := 40) (k := 6) (j := 16) (dc_X6_clear 40 (76, .putfield 70, 3) rfl rfl) rfl clf_6 (by decide) rfl rfl rfl wd_634,
    st_aload_n hC (n := 41) (k := 0) (dc_X6_clear 41 (79, .aload_n 0, 1) rfl rfl) rfl rfl,
    st_iconst hC (n := 42) (x := 2) (dc_X6_clear 42 (80, .iconst 2, 1) rfl rfl) rfl (by decide),
    st_putI hC (n := 43) (k := 6) (j := 17) (dc_X6_clear 43 (81, .putfield 73, 3) rfl rfl) rfl clf_6 (by decide) rfl rfl rfl wd_637,
    st_aload_n hC (n := 44) (k := 0) (dc_X6_clear 44 (84, .aload_n 0, 1) rfl rfl) rfl rfl,
    st_iconst hC (n := 45) (x := 4) (dc_X6_clear 45 (85, .iconst 4, 1) rfl rfl) rfl (by decide),
    st_putI hC (n := 46) (k := 6) (j := 18) (dc_X6_clear 46 (86, .putfield 76, 3) rfl rfl) rfl clf_6 (by decide) rfl rfl rfl wd_641,
    st_vret hC (n := 47) hR (dc_X6_clear 47 (89, .return_, 1) rfl rfl), trivial⟩
set_option maxRecDepth 8000 in
theorem vc_X6_clear : VC P_X6_clear 1 Pre_X6_clear Fn_X6_clear := by
  rintro mm as hom hoa ⟨g, rfl⟩
  refine ⟨Nat.le_of_ble_eq_true rfl, fun X h => ?_⟩
  have c29 : ∀ M : MM, vlM2 M g = (Fn_X6_clear mm [vR 6 g]).2 → X 29 [some (vR 6 g)] [] (M) := by
    intro M hM
    have e : Fn_X6_clear mm [vR 6 g] = (none, vlM2 M g) := by rw [hM]; rfl
    rw [e] at h
    show X 29 [some (vR 6 g)] [] M
    refine h (fun _ => false) 3000 29 _ _ _ ?_
    show ((none : Option MV), mI (mI (mI (mI (mI (mI M 6 g 13 0) 6 g 14 0) 6 g 15 0) 6 g 16 0) 6 g 17 2) 6 g 18 4) = _
    exact rfl
  have c23 : ∀ M : MM, X 29 [some (vR 6 g)] [] (ylM (dlM M g) g) → X 23 [some (vR 6 g)] [] (M) := by
    intro M hX
    show X 23 [some (vR 6 g)] [] M
    refine h (fun i => Nat.beq i 29) 3000 23 _ _ _ ?_
    refine And.intro (show Pre_X1_clear M [vR 1 g] from ⟨g, rfl⟩) ?_
    refine And.intro (show Pre_X9_clear (dlM M g) [vR 9 g] from ⟨g, rfl⟩) ?_
    show X 29 [some (vR 6 g)] [] (ylM (dlM M g) g)
    exact hX
  have c12 : ∀ M : MM, X 23 [some (vR 6 g)] [] (mI (flM (flM M 38 g 0) 39 g (-1)) 6 g 19 0) → X 12 [some (vR 6 g)] [] (M) := by
    intro M hX
    show X 12 [some (vR 6 g)] [] M
    refine h (fun i => Nat.beq i 23) 3000 12 _ _ _ ?_
    refine And.intro (show Pre_J7_fill_53178 M [vR 38 g, vI 0] from ⟨38, g, rfl, 0, rfl⟩) ?_
    refine And.intro (show Pre_J7_fill_53178 (mRow M 38 g (flR (M.1 38 g) 0 (alen 38))) [vR 39 g, vI (-1)] from ⟨39, g, rfl, -1, rfl⟩) ?_
    show X 23 [some (vR 6 g)] [] (mI (mRow (mRow M 38 g (flR (M.1 38 g) 0 (alen 38))) 39 g (flR (M.1 39 g) (-1) (alen 39))) 6 g 19 0)
    exact hX
  have c4 : ∀ M : MM, X 12 [some (vR 6 g)] [] (flM (flM M 31 g 0) 37 g 0) → X 4 [some (vR 6 g)] [] (M) := by
    intro M hX
    show X 4 [some (vR 6 g)] [] M
    refine h (fun i => Nat.beq i 12) 3000 4 _ _ _ ?_
    refine And.intro (show Pre_J7_fill_53178 M [vR 31 g, vI 0] from ⟨31, g, rfl, 0, rfl⟩) ?_
    refine And.intro (show Pre_J7_fill_53178 (mRow M 31 g (flR (M.1 31 g) 0 (alen 31))) [vR 37 g, vI 0] from ⟨37, g, rfl, 0, rfl⟩) ?_
    show X 12 [some (vR 6 g)] [] (mRow (mRow M 31 g (flR (M.1 31 g) 0 (alen 31))) 37 g (flR (M.1 37 g) 0 (alen 37)))
    exact hX
  have c0 : ∀ M : MM, X 4 [some (vR 6 g)] [] (mRowL M 29 g (flQ (M.2.1 29 g) 0 (alen 29))) → X 0 [some (vR 6 g)] [] (M) := by
    intro M hX
    show X 0 [some (vR 6 g)] [] M
    refine h (fun i => Nat.beq i 4) 3000 0 _ _ _ ?_
    refine And.intro (show Pre_J7_fill_d0a16 M [vR 29 g, vL 0] from ⟨29, g, Or.inl rfl, 0, rfl⟩) ?_
    show X 4 [some (vR 6 g)] [] (mRowL M 29 g (flQ (M.2.1 29 g) 0 (alen 29)))
    exact hX
  exact c0 _ (c4 _ (c12 _ (c23 _ (c29 _ rfl))))
theorem con_X6_clear (l : Launch) : CON l y_X6_clear prog_8_method_2_code 1 none rm_X6_clear Pre_X6_clear Fn_X6_clear := CON_of (by decide) rfl rfl (sa_X6_clear l) vc_X6_clear
def adM (m : MM) (g : Nat) (n : Int64) (s w : Int32) : MM := mI (mRow (mRow (mRowL m 29 g (vp_updL (m.2.1 29 g) (8 + (m.1 6 g 15).toNatClampNeg) n)) 35 g (upd (m.1 35 g) (m.1 6 g 15).toNatClampNeg s)) 36 g (upd (m.1 36 g) (m.1 6 g 15).toNatClampNeg w)) 6 g 15 (m.1 6 g 15 + 1)

--tpl ⟨_, _, by assumption, by omega, _, _, _, rfl⟩ ||  || adM {m} {g0} {1} {2} {3}
def Pre_X6_addThing : PreT := fun m as => ∃ g t : Nat, m.1 6 g 15 = nI t ∧ t < 12 ∧ ∃ (n : Int64) (s w : Int32), as = [vR 6 g, vL n, vI s, vI w]
def Fn_X6_addThing : FnT := fun m as => match as with
  | [Sum.inr (Sum.inr q), Sum.inr (Sum.inl n), Sum.inl s, Sum.inl w] => (none, adM m q.2 n s w)
  | _ => (none, m)
abbrev y_X6_addThing : MethodName := ⟨"GivenUp$Valley", "addThing", "(JII)V"⟩
def P_X6_addThing : List StpT := [s_aload 0, s_getR 6 0 29, s_ic (8), s_aload 0, s_getI 6 15, s_iadd, s_lload 1, s_last, s_aload 0, s_getR 6 6 35, s_aload 0, s_getI 6 15, s_iload 3, s_iast, s_aload 0, s_getR 6 7 36, s_aload 0, s_getI 6 15, s_iload 4, s_iast, s_aload 0, s_dup, s_getI 6 15, s_ic (1), s_iadd, s_putI 6 15, s_vret]
def pc_X6_addThing : Nat → Nat := fun i => [0, 1, 4, 6, 7, 10, 11, 12, 13, 14, 17, 18, 21, 22, 23, 24, 27, 28, 31, 33, 34, 35, 36, 39, 40, 41, 44].getD i 0
def dl_X6_addThing : List (Nat × Instr × Nat) := [(0, .aload_n 0, 1), (1, .getfield 9, 3), (4, .bipush 8, 2), (6, .aload_n 0, 1), (7, .getfield 67, 3), (10, .iadd, 1), (11, .lload_n 1, 1), (12, .lastore, 1), (13, .aload_n 0, 1), (14, .getfield 31, 3), (17, .aload_n 0, 1), (18, .getfield 67, 3), (21, .iload_n 3, 1), (22, .iastore, 1), (23, .aload_n 0, 1), (24, .getfield 34, 3), (27, .aload_n 0, 1), (28, .getfield 67, 3), (31, .iload 4, 2), (33, .iastore, 1), (34, .aload_n 0, 1), (35, .dup, 1), (36, .getfield 67, 3), (39, .iconst 1, 1), (40, .iadd, 1), (41, .putfield 67, 3), (44, .return_, 1)]
theorem dc_X6_addThing : DEC prog_8_method_4_code pc_X6_addThing dl_X6_addThing := DEC_of (by decide +kernel)
abbrev rm_X6_addThing : Room := { frames := 0, cells := 0, slots := 0, locals := 0 }
set_option maxRecDepth 20000 in
theorem sa_X6_addThing (l : Launch) : SNDALL l prog_8_method_4_code "GivenUp$Valley" 5 none rm_X6_addThing P_X6_addThing pc_X6_addThing := fun p e s m args below meth c cells slots Q D dA ad A RR hC hR => by
  have hM := RTX_room (R := rm_X6_addThing) hR
  exact ⟨st_aload_n hC (n := 0) (k := 0) (dc_X6_addThing 0 (0, .aload_n 0, 1) rfl rfl) rfl rfl,
    st_getR hC (n := 1) (k := 6) (j := 0) (dc_X6_addThing 1 (1, .getfield 9, 3) rfl rfl) rfl clf_6 (by decide) rfl (by decide) wd_575,
    st_bipush hC (n := 2) (x := 8) (dc_X6_addThing 2 (4, .bipush 8, 2) rfl rfl) rfl (by decide),
    st_aload_n hC (n := 3) (k := 0) (dc_X6_addThing 3 (6, .aload_n 0, 1) rfl rfl) rfl rfl,
    st_getI hC (n := 4) (k := 6) (j := 15) (dc_X6_addThing 4 (7, .getfield 67, 3) rfl rfl) rfl clf_6 (by decide) rfl wd_629,
    st_iadd hC (n := 5) (dc_X6_addThing 5 (10, .iadd, 1) rfl rfl) rfl,
    st_lload_n hC (n := 6) (k := 1) (dc_X6_addThing 6 (11, .lload_n 1, 1) rfl rfl) rfl rfl,
    st_last hC (n := 7) (dc_X6_addThing 7 (12, .lastore, 1) rfl rfl) rfl,
    st_aload_n hC (n := 8) (k := 0) (dc_X6_addThing 8 (13, .aload_n 0, 1) rfl rfl) rfl rfl,
    st_getR hC (n := 9) (k := 6) (j := 6) (dc_X6_addThing 9 (14, .getfield 31, 3) rfl rfl) rfl clf_6 (by decide) rfl (by decide) wd_595,
    st_aload_n hC (n := 10) (k := 0) (dc_X6_addThing 10 (17, .aload_n 0, 1) rfl rfl) rfl rfl,
    st_getI hC (n := 11) (k := 6) (j := 15) (dc_X6_addThing 11 (18, .getfield 67, 3) rfl rfl) rfl clf_6 (by decide) rfl wd_629,
    st_iload_n hC (n := 12) (k := 3) (dc_X6_addThing 12 (21, .iload_n 3, 1) rfl rfl) rfl rfl,
    st_iast hC (n := 13) (dc_X6_addThing 13 (22, .iastore, 1) rfl rfl) rfl,
    st_aload_n hC (n := 14) (k := 0) (dc_X6_addThing 14 (23, .aload_n 0, 1) rfl rfl) rfl rfl,
    st_getR hC (n := 15) (k := 6) (j := 7) (dc_X6_addThing 15 (24, .getfield 34, 3) rfl rfl) rfl clf_6 (by decide) rfl (by decide) wd_598,
    st_aload_n hC (n := 16) (k := 0) (dc_X6_addThing 16 (27, .aload_n 0, 1) rfl rfl) rfl rfl,
    st_getI hC (n := 17) (k := 6) (j := 15) (dc_X6_addThing 17 (28, .getfield 67, 3) rfl rfl) rfl clf_6 (by decide) rfl wd_629,
    st_iload hC (n := 18) (dc_X6_addThing 18 (31, .iload 4, 2) rfl rfl) rfl,
    st_iast hC (n := 19) (dc_X6_addThing 19 (33, .iastore, 1) rfl rfl) rfl,
    st_aload_n hC (n := 20) (k := 0) (dc_X6_addThing 20 (34, .aload_n 0, 1) rfl rfl) rfl rfl,
    st_dup hC (n := 21) (dc_X6_addThing 21 (35, .dup, 1) rfl rfl) rfl,
    st_getI hC (n := 22) (k := 6) (j := 15) (dc_X6_addThing 22 (36, .getfield 67, 3) rfl rfl) rfl clf_6 (by decide) rfl wd_629,
    st_iconst hC (n := 23) (x := 1) (dc_X6_addThing 23 (39, .iconst 1, 1) rfl rfl) rfl (by decide),
    st_iadd hC (n := 24) (dc_X6_addThing 24 (40, .iadd, 1) rfl rfl) rfl,
    st_putI hC (n := 25) (k := 6) (j := 15) (dc_X6_addThing 25 (41, .putfield 67, 3) rfl rfl) rfl clf_6 (by decide) rfl rfl rfl wd_629,
    st_vret hC (n := 26) hR (dc_X6_addThing 26 (44, .return_, 1) rfl rfl), trivial⟩
set_option maxRecDepth 8000 in
theorem vc_X6_addThing : VC P_X6_addThing 5 Pre_X6_addThing Fn_X6_addThing := by
  rintro mm as hom hoa ⟨g, t, e, ht, n, s, w, rfl⟩
  refine ⟨Nat.le_of_ble_eq_true rfl, fun X h => ?_⟩
  have et : (nI t).toNatClampNeg = t := nI_clamp (by omega)
  have e8 : (8 + nI t).toNatClampNeg = 8 + t := by simp (disch := omega) only [li, pk_mul, nI_add, nI_clamp]
  have hF : Fn_X6_addThing mm [vR 6 g, vL n, vI s, vI w] = (none, mI (mRow (mRow (mRowL mm 29 g (vp_updL (mm.2.1 29 g) (8 + t) n)) 35 g (upd (mm.1 35 g) t s)) 36 g (upd (mm.1 36 g) t w)) 6 g 15 (nI t + 1)) := by
    show (none, adM mm g n s w) = _
    unfold adM
    rw [e, et]
  rw [hF] at h
  show X 0 [some (vR 6 g), some (vL n), none, some (vI s), some (vI w)] [] mm
  refine h (fun _ => false) 3000 0 _ _ _ ?_
  refine And.intro (show inb (8 + (mm.1 6 g 15)) (alen 29) = true from (by rw [e]; exact inb_o 20 rfl rfl (j := 8 + t) (by simp (disch := omega) only [li, pk_mul, nI_add, nI_clamp]) (by omega))) ?_
  refine And.intro (show inb (mm.1 6 g 15) (alen 35) = true from (by rw [e]; exact inb_o 12 rfl rfl rfl ht)) ?_
  refine And.intro (show inb (mm.1 6 g 15) (alen 36) = true from (by rw [e]; exact inb_o 12 rfl rfl rfl ht)) ?_
  show ((none : Option MV), mI (mRow (mRow (mRowL mm 29 g (vp_updL (mm.2.1 29 g) (8 + (mm.1 6 g 15)).toNatClampNeg n)) 35 g (upd (mm.1 35 g) (mm.1 6 g 15).toNatClampNeg s)) 36 g (upd (mm.1 36 g) (mm.1 6 g 15).toNatClampNeg w)) 6 g 15 ((mm.1 6 g 15) + 1)) = _
  rw [e, et, e8]
theorem con_X6_addThing (l : Launch) : CON l y_X6_addThing prog_8_method_4_code 5 none rm_X6_addThing Pre_X6_addThing Fn_X6_addThing := CON_of (by decide) rfl rfl (sa_X6_addThing l) vc_X6_addThing
def fnI (f : Nat → Int32) (md : Nat) : Nat → (Nat → Int32)
  | 0 => f
  | t + 1 => if inS (fnI f md t t) (nI md) then upd (fnI f md t) t (fnI f md t t ||| fnI f md t md) else fnI f md t
def fnO (f : Nat → Int32) : Nat → (Nat → Int32)
  | 0 => f
  | md + 1 => fnI (fnO f md) md 12
def fnM (m : MM) (g : Nat) : MM := mRow m 38 g (fnO (va_cpy (m.1 37 g) (m.1 38 g) 0 0 12) 12)

--tpl ⟨_, rfl⟩ ||  || fnM {m} {g0}
def Pre_X6_findNeeds : PreT := fun _ as => ∃ g : Nat, as = [vR 6 g]
def Fn_X6_findNeeds : FnT := fun m as => match as with
  | [Sum.inr (Sum.inr q)] => (none, fnM m q.2)
  | _ => (none, m)
abbrev y_X6_findNeeds : MethodName := ⟨"GivenUp$Valley", "findNeeds", "()V"⟩
def P_X6_findNeeds : List StpT := [s_aload 0, s_getR 6 8 37, s_ic (0), s_aload 0, s_getR 6 9 38, s_ic (0), s_ic (12), s_acI, s_ic (0), s_istore 1, s_iload 1, s_ic (12), s_icge 40, s_ic (0), s_istore 2, s_iload 2, s_ic (12), s_icge 38, s_aload 0, s_getR 6 9 38, s_iload 2, s_iald, s_iload 1, s_callS 2 Pre_X11_holds Fn_X11_holds, s_ifeq 36, s_aload 0, s_getR 6 9 38, s_iload 2, s_dup2, s_iald, s_aload 0, s_getR 6 9 38, s_iload 1, s_iald, s_ior, s_iast, s_iinc 2 (1), s_goto 15, s_iinc 1 (1), s_goto 10, s_vret]
def pc_X6_findNeeds : Nat → Nat := fun i => [0, 1, 4, 5, 6, 9, 10, 12, 15, 16, 17, 18, 20, 23, 24, 25, 26, 28, 31, 32, 35, 36, 37, 38, 41, 44, 45, 48, 49, 50, 51, 52, 55, 56, 57, 58, 59, 62, 65, 68, 71].getD i 0
def dl_X6_findNeeds : List (Nat × Instr × Nat) := [(0, .aload_n 0, 1), (1, .getfield 37, 3), (4, .iconst 0, 1), (5, .aload_n 0, 1), (6, .getfield 40, 3), (9, .iconst 0, 1), (10, .bipush 12, 2), (12, .invokestatic 96, 3), (15, .iconst 0, 1), (16, .istore_n 1, 1), (17, .iload_n 1, 1), (18, .bipush 12, 2), (20, .if_icmp .ge 51, 3), (23, .iconst 0, 1), (24, .istore_n 2, 1), (25, .iload_n 2, 1), (26, .bipush 12, 2), (28, .if_icmp .ge 37, 3), (31, .aload_n 0, 1), (32, .getfield 40, 3), (35, .iload_n 2, 1), (36, .iaload, 1), (37, .iload_n 1, 1), (38, .invokestatic 116, 3), (41, .ifCond .eq 18, 3), (44, .aload_n 0, 1), (45, .getfield 40, 3), (48, .iload_n 2, 1), (49, .dup2, 1), (50, .iaload, 1), (51, .aload_n 0, 1), (52, .getfield 40, 3), (55, .iload_n 1, 1), (56, .iaload, 1), (57, .ior, 1), (58, .iastore, 1), (59, .iinc 2 1, 3), (62, .goto (-37), 3), (65, .iinc 1 1, 3), (68, .goto (-51), 3), (71, .return_, 1)]
theorem dc_X6_findNeeds : DEC prog_8_method_6_code pc_X6_findNeeds dl_X6_findNeeds := DEC_of (by decide +kernel)
abbrev rm_X6_findNeeds : Room := { frames := 1, cells := 0, slots := 0, locals := 26 }
set_option maxRecDepth 20000 in
theorem sa_X6_findNeeds (l : Launch) : SNDALL l prog_8_method_6_code "GivenUp$Valley" 3 none rm_X6_findNeeds P_X6_findNeeds pc_X6_findNeeds := fun p e s m args below meth c cells slots Q D dA ad A RR hC hR => by
  have hM := RTX_room (R := rm_X6_findNeeds) hR
  exact ⟨st_aload_n hC (n := 0) (k := 0) (dc_X6_findNeeds 0 (0, .aload_n 0, 1) rfl rfl) rfl rfl,
    st_getR hC (n := 1) (k := 6) (j := 8) (dc_X6_findNeeds 1 (1, .getfield 37, 3) rfl rfl) rfl clf_6 (by decide) rfl (by decide) wd_601,
    st_iconst hC (n := 2) (x := 0) (dc_X6_findNeeds 2 (4, .iconst 0, 1) rfl rfl) rfl (by decide),
    st_aload_n hC (n := 3) (k := 0) (dc_X6_findNeeds 3 (5, .aload_n 0, 1) rfl rfl) rfl rfl,
    st_getR hC (n := 4) (k := 6) (j := 9) (dc_X6_findNeeds 4 (6, .getfield 40, 3) rfl rfl) rfl clf_6 (by decide) rfl (by decide) wd_605,
    st_iconst hC (n := 5) (x := 0) (dc_X6_findNeeds 5 (9, .iconst 0, 1) rfl rfl) rfl (by decide),
    st_bipush hC (n := 6) (x := 12) (dc_X6_findNeeds 6 (10, .bipush 12, 2) rfl rfl) rfl (by decide),
    st_acI hC (n := 7) (dc_X6_findNeeds 7 (12, .invokestatic 96, 3) rfl rfl) rfl wd_952 wd_831 wd_830 wd_161 (by decide) (by decide),
    st_iconst hC (n := 8) (x := 0) (dc_X6_findNeeds 8 (15, .iconst 0, 1) rfl rfl) rfl (by decide),
    st_istore_n hC (n := 9) (k := 1) (dc_X6_findNeeds 9 (16, .istore_n 1, 1) rfl rfl) rfl rfl (by decide),
    st_iload_n hC (n := 10) (k := 1) (dc_X6_findNeeds 10 (17, .iload_n 1, 1) rfl rfl) rfl rfl,
    st_bipush hC (n := 11) (x := 12) (dc_X6_findNeeds 11 (18, .bipush 12, 2) rfl rfl) rfl (by decide),
    st_icge hC (n := 12) (dc_X6_findNeeds 12 (20, .if_icmp .ge 51, 3) rfl rfl) rfl (by decide),
    st_iconst hC (n := 13) (x := 0) (dc_X6_findNeeds 13 (23, .iconst 0, 1) rfl rfl) rfl (by decide),
    st_istore_n hC (n := 14) (k := 2) (dc_X6_findNeeds 14 (24, .istore_n 2, 1) rfl rfl) rfl rfl (by decide),
    st_iload_n hC (n := 15) (k := 2) (dc_X6_findNeeds 15 (25, .iload_n 2, 1) rfl rfl) rfl rfl,
    st_bipush hC (n := 16) (x := 12) (dc_X6_findNeeds 16 (26, .bipush 12, 2) rfl rfl) rfl (by decide),
    st_icge hC (n := 17) (dc_X6_findNeeds 17 (28, .if_icmp .ge 37, 3) rfl rfl) rfl (by decide),
    st_aload_n hC (n := 18) (k := 0) (dc_X6_findNeeds 18 (31, .aload_n 0, 1) rfl rfl) rfl rfl,
    st_getR hC (n := 19) (k := 6) (j := 9) (dc_X6_findNeeds 19 (32, .getfield 40, 3) rfl rfl) rfl clf_6 (by decide) rfl (by decide) wd_605,
    st_iload_n hC (n := 20) (k := 2) (dc_X6_findNeeds 20 (35, .iload_n 2, 1) rfl rfl) rfl rfl,
    st_iald hC (n := 21) (dc_X6_findNeeds 21 (36, .iaload, 1) rfl rfl) rfl,
    st_iload_n hC (n := 22) (k := 1) (dc_X6_findNeeds 22 (37, .iload_n 1, 1) rfl rfl) rfl rfl,
    st_callSN hC (n := 23) (na := 2) (con_X11_holds l) (dc_X6_findNeeds 23 (38, .invokestatic 116, 3) rfl rfl) rfl wd_955 wd_143 (by decide) ⟨rfl, rfl, by decide, by decide⟩ hM ⟨"GivenUp", by decide⟩ wd_954,
    st_ifeq hC (n := 24) (dc_X6_findNeeds 24 (41, .ifCond .eq 18, 3) rfl rfl) rfl (by decide),
    st_aload_n hC (n := 25) (k := 0) (dc_X6_findNeeds 25 (44, .aload_n 0, 1) rfl rfl) rfl rfl,
    st_getR hC (n := 26) (k := 6) (j := 9) (dc_X6_findNeeds 26 (45, .getfield 40, 3) rfl rfl) rfl clf_6 (by decide) rfl (by decide) wd_605,
    st_iload_n hC (n := 27) (k := 2) (dc_X6_findNeeds 27 (48, .iload_n 2, 1) rfl rfl) rfl rfl,
    st_dup2 hC (n := 28) (dc_X6_findNeeds 28 (49, .dup2, 1) rfl rfl) rfl,
    st_iald hC (n := 29) (dc_X6_findNeeds 29 (50, .iaload, 1) rfl rfl) rfl,
    st_aload_n hC (n := 30) (k := 0) (dc_X6_findNeeds 30 (51, .aload_n 0, 1) rfl rfl) rfl rfl,
    st_getR hC (n := 31) (k := 6) (j := 9) (dc_X6_findNeeds 31 (52, .getfield 40, 3) rfl rfl) rfl clf_6 (by decide) rfl (by decide) wd_605,
    st_iload_n hC (n := 32) (k := 1) (dc_X6_findNeeds 32 (55, .iload_n 1, 1) rfl rfl) rfl rfl,
    st_iald hC (n := 33) (dc_X6_findNeeds 33 (56, .iaload, 1) rfl rfl) rfl,
    st_ior hC (n := 34) (dc_X6_findNeeds 34 (57, .ior, 1) rfl rfl) rfl,
    st_iast hC (n := 35) (dc_X6_findNeeds 35 (58, .iastore, 1) rfl rfl) rfl,
    st_iinc hC (n := 36) (x := 1) (dc_X6_findNeeds 36 (59, .iinc 2 1, 3) rfl rfl) rfl (by decide) (by decide),
    st_goto hC (n := 37) (dc_X6_findNeeds 37 (62, .goto (-37), 3) rfl rfl) (by decide),
    st_iinc hC (n := 38) (x := 1) (dc_X6_findNeeds 38 (65, .iinc 1 1, 3) rfl rfl) rfl (by decide) (by decide),
    st_goto hC (n := 39) (dc_X6_findNeeds 39 (68, .goto (-51), 3) rfl rfl) (by decide),
    st_vret hC (n := 40) hR (dc_X6_findNeeds 40 (71, .return_, 1) rfl rfl), trivial⟩
set_option maxRecDepth 8000 in
theorem vc_X6_findNeeds : VC P_X6_findNeeds 3 Pre_X6_findNeeds Fn_X6_findNeeds := by
  rintro mm as hom hoa ⟨g, rfl⟩
  refine ⟨Nat.le_of_ble_eq_true rfl, fun X h => ?_⟩
  replace h : RUN P_X6_findNeeds (fun r m' => (r, m') = (none, fnM mm g)) X := h
  unfold fnM at h
  obtain ⟨F, hF⟩ : ∃ F, F = va_cpy (mm.1 37 g) (mm.1 38 g) 0 0 12 := ⟨_, rfl⟩
  rw [← hF] at h
  have outer : ∀ md, md ≤ 12 → ∀ L2, X 10 [some (vR 6 g), some (vI (nI md)), L2] [] (mRow mm 38 g (fnO F md)) := by
    refine up_ind 12 ?_ (fun md hmd ih => ?_)
    · intro L2
      show X 10 [some (vR 6 g), some (vI (nI 12)), L2] [] (mRow mm 38 g (fnO F 12))
      refine h (fun _ => false) 3000 10 _ _ _ ?_
      refine br_t (show 12 ≤ nI 12 from Int32.le_refl _) ?_
      show ((none : Option MV), mRow mm 38 g (fnO F 12)) = _
      exact rfl
    · intro L2
      have inner : ∀ t, t ≤ 12 → X 15 [some (vR 6 g), some (vI (nI md)), some (vI (nI t))] [] (mRow mm 38 g (fnI (fnO F md) md t)) := by
        refine up_ind 12 ?_ (fun t ht iht => ?_)
        ·
          show X 15 [some (vR 6 g), some (vI (nI md)), some (vI (nI 12))] [] (mRow mm 38 g (fnI (fnO F md) md 12))
          refine h (fun i => Nat.beq i 10) 3000 15 _ _ _ ?_
          refine br_t (show 12 ≤ nI 12 from Int32.le_refl _) ?_
          show X 10 [some (vR 6 g), some (vI ((nI md) + 1)), some (vI (nI 12))] [] (mRow mm 38 g (fnI (fnO F md) md 12))
          rw [nI_1]
          exact ih _
        · have et : (nI t).toNatClampNeg = t := nI_clamp (by omega)
          have em : (nI md).toNatClampNeg = md := nI_clamp (by omega)
          rw [fnI] at iht
          obtain ⟨Q, hQ⟩ : ∃ Q, Q = fnI (fnO F md) md t := ⟨_, rfl⟩
          rw [← hQ] at iht ⊢
          have r1 : ∀ i, (mRow mm 38 g Q).1 38 g i = Q i := fun i => by rw [mRow_row]
          show X 15 [some (vR 6 g), some (vI (nI md)), some (vI (nI t))] [] (mRow mm 38 g Q)
          refine h (fun i => Nat.beq i 15) 3000 15 _ _ _ ?_
          refine br_f (show ¬ (12 ≤ nI t) from show ¬ nI 12 ≤ nI t from nI_ge ht (by omega)) ?_
          refine And.intro (show inb (nI t) (alen 38) = true from (inb_o 12 rfl rfl rfl (by omega))) ?_
          refine And.intro (show Pre_X11_holds (mRow mm 38 g Q) [vI ((mRow mm 38 g Q).1 38 g ((nI t).toNatClampNeg)), vI (nI md)] from ⟨_, _, rfl⟩) ?_
          refine br_c (fun b24 => ?_) (fun b24 => ?_)
          · -- 24: bI (inS ((mRow mm 38 g Q).1 38 g ((nI t).toNatClampNeg)) (nI md)) = 0 taken
            replace b24 : ¬ (inS ((mRow mm 38 g Q).1 38 g ((nI t).toNatClampNeg)) (nI md)) := bI_0.mp b24
            (try simp only [et, em, r1] at b24)
            show X 15 [some (vR 6 g), some (vI (nI md)), some (vI ((nI t) + 1))] [] (mRow mm 38 g Q)
            (try simp only [et, em, r1])
            rw [if_neg b24] at iht
            rw [nI_1] 
            exact iht
          · -- 24: bI (inS ((mRow mm 38 g Q).1 38 g ((nI t).toNatClampNeg)) (nI md)) = 0 on
            replace b24 : inS ((mRow mm 38 g Q).1 38 g ((nI t).toNatClampNeg)) (nI md) := bI_n0.mp b24
            (try simp only [et, em, r1] at b24)
            refine And.intro (show inb (nI t) (alen 38) = true from (inb_o 12 rfl rfl rfl (by omega))) ?_
            refine And.intro (show inb (nI md) (alen 38) = true from (inb_o 12 rfl rfl rfl (by omega))) ?_
            refine And.intro (show inb (nI t) (alen 38) = true from (inb_o 12 rfl rfl rfl (by omega))) ?_
            show X 15 [some (vR 6 g), some (vI (nI md)), some (vI ((nI t) + 1))] [] (mRow (mRow mm 38 g Q) 38 g (upd ((mRow mm 38 g Q).1 38 g) (nI t).toNatClampNeg (((mRow mm 38 g Q).1 38 g ((nI t).toNatClampNeg)) ||| ((mRow mm 38 g Q).1 38 g ((nI md).toNatClampNeg)))))
            (try simp only [et, em, r1])
            rw [if_pos b24] at iht
            rw [nI_1, mRow2, mRow_row] 
            exact iht
      have i0 := inner 0 (by omega)
      show X 10 [some (vR 6 g), some (vI (nI md)), L2] [] (mRow mm 38 g (fnO F md))
      refine h (fun i => Nat.beq i 15) 3000 10 _ _ _ ?_
      refine br_f (show ¬ (12 ≤ nI md) from show ¬ nI 12 ≤ nI md from nI_ge hmd (by omega)) ?_
      show X 15 [some (vR 6 g), some (vI (nI md)), some (vI 0)] [] (mRow mm 38 g (fnO F md))
      exact i0
  have o0 := outer 0 (by omega) none
  show X 0 [some (vR 6 g), none, none] [] mm
  refine h (fun i => Nat.beq i 10) 3000 0 _ _ _ ?_
  refine And.intro (by decide) ?_
  show X 10 [some (vR 6 g), some (vI 0), none] [] (mRow mm 38 g (va_cpy (mm.1 37 g) (mm.1 38 g) 0 0 12))
  rw [show mRow mm 38 g (fnO F 0) = mRow mm 38 g F from rfl, hF] at o0
  exact o0
theorem con_X6_findNeeds (l : Launch) : CON l y_X6_findNeeds prog_8_method_6_code 3 none rm_X6_findNeeds Pre_X6_findNeeds Fn_X6_findNeeds := CON_of (by decide) rfl rfl (sa_X6_findNeeds l) vc_X6_findNeeds
abbrev hpP (f : Nat → Int32) (t n : Nat) : Prop := ¬ ∀ o, o < n → ¬ (inS (f t ||| 1 <<< (nI t &&& 31)) (nI o) ∧ inS (f o) (nI o))

--tpl rfl || bI (hpP ({r 1 38 {g0}}) {1n} ({r 1 6 {g0} 15}).toNatClampNeg)
def Pre_X6_isHopeless : PreT := fun m as => ∃ g t n : Nat, m.1 6 g 15 = nI n ∧ n ≤ 12 ∧ t < 12 ∧ as = [vR 6 g, vI (nI t)]
def Fn_X6_isHopeless : FnT := fun m as => match as with
  | [Sum.inr (Sum.inr q), Sum.inl t] => (some (vI (bI (hpP (m.1 38 q.2) t.toNatClampNeg (m.1 6 q.2 15).toNatClampNeg))), m)
  | _ => (none, m)
abbrev y_X6_isHopeless : MethodName := ⟨"GivenUp$Valley", "isHopeless", "(I)Z"⟩
def P_X6_isHopeless : List StpT := [s_aload 0, s_getR 6 9 38, s_iload 1, s_iald, s_ic (1), s_iload 1, s_ishl, s_ior, s_istore 2, s_ic (0), s_istore 3, s_iload 3, s_aload 0, s_getI 6 15, s_icge 30, s_iload 2, s_iload 3, s_callS 2 Pre_X11_holds Fn_X11_holds, s_ifeq 28, s_aload 0, s_getR 6 9 38, s_iload 3, s_iald, s_iload 3, s_callS 2 Pre_X11_holds Fn_X11_holds, s_ifeq 28, s_ic (1), s_zret, s_iinc 3 (1), s_goto 11, s_ic (0), s_zret]
def pc_X6_isHopeless : Nat → Nat := fun i => [0, 1, 4, 5, 6, 7, 8, 9, 10, 11, 12, 13, 14, 15, 18, 21, 22, 23, 26, 29, 30, 33, 34, 35, 36, 39, 42, 43, 44, 47, 50, 51].getD i 0
def dl_X6_isHopeless : List (Nat × Instr × Nat) := [(0, .aload_n 0, 1), (1, .getfield 40, 3), (4, .iload_n 1, 1), (5, .iaload, 1), (6, .iconst 1, 1), (7, .iload_n 1, 1), (8, .ishl, 1), (9, .ior, 1), (10, .istore_n 2, 1), (11, .iconst 0, 1), (12, .istore_n 3, 1), (13, .iload_n 3, 1), (14, .aload_n 0, 1), (15, .getfield 67, 3), (18, .if_icmp .ge 32, 3), (21, .iload_n 2, 1), (22, .iload_n 3, 1), (23, .invokestatic 116, 3), (26, .ifCond .eq 18, 3), (29, .aload_n 0, 1), (30, .getfield 40, 3), (33, .iload_n 3, 1), (34, .iaload, 1), (35, .iload_n 3, 1), (36, .invokestatic 116, 3), (39, .ifCond .eq 5, 3), (42, .iconst 1, 1), (43, .ireturn, 1), (44, .iinc 3 1, 3), (47, .goto (-34), 3), (50, .iconst 0, 1), (51, .ireturn, 1)]
theorem dc_X6_isHopeless : DEC prog_8_method_7_code pc_X6_isHopeless dl_X6_isHopeless := DEC_of (by decide +kernel)
abbrev rm_X6_isHopeless : Room := { frames := 1, cells := 0, slots := 0, locals := 21 }
set_option maxRecDepth 20000 in
theorem sa_X6_isHopeless (l : Launch) : SNDALL l prog_8_method_7_code "GivenUp$Valley" 4 (some .boolean) rm_X6_isHopeless P_X6_isHopeless pc_X6_isHopeless := fun p e s m args below meth c cells slots Q D dA ad A RR hC hR => by
  have hM := RTX_room (R := rm_X6_isHopeless) hR
  exact ⟨st_aload_n hC (n := 0) (k := 0) (dc_X6_isHopeless 0 (0, .aload_n 0, 1) rfl rfl) rfl rfl,
    st_getR hC (n := 1) (k := 6) (j := 9) (dc_X6_isHopeless 1 (1, .getfield 40, 3) rfl rfl) rfl clf_6 (by decide) rfl (by decide) wd_605,
    st_iload_n hC (n := 2) (k := 1) (dc_X6_isHopeless 2 (4, .iload_n 1, 1) rfl rfl) rfl rfl,
    st_iald hC (n := 3) (dc_X6_isHopeless 3 (5, .iaload, 1) rfl rfl) rfl,
    st_iconst hC (n := 4) (x := 1) (dc_X6_isHopeless 4 (6, .iconst 1, 1) rfl rfl) rfl (by decide),
    st_iload_n hC (n := 5) (k := 1) (dc_X6_isHopeless 5 (7, .iload_n 1, 1) rfl rfl) rfl rfl,
    st_ishl hC (n := 6) (dc_X6_isHopeless 6 (8, .ishl, 1) rfl rfl) rfl,
    st_ior hC (n := 7) (dc_X6_isHopeless 7 (9, .ior, 1) rfl rfl) rfl,
    st_istore_n hC (n := 8) (k := 2) (dc_X6_isHopeless 8 (10, .istore_n 2, 1) rfl rfl) rfl rfl (by decide),
    st_iconst hC (n := 9) (x := 0) (dc_X6_isHopeless 9 (11, .iconst 0, 1) rfl rfl) rfl (by decide),
    st_istore_n hC (n := 10) (k := 3) (dc_X6_isHopeless 10 (12, .istore_n 3, 1) rfl rfl) rfl rfl (by decide),
    st_iload_n hC (n := 11) (k := 3) (dc_X6_isHopeless 11 (13, .iload_n 3, 1) rfl rfl) rfl rfl,
    st_aload_n hC (n := 12) (k := 0) (dc_X6_isHopeless 12 (14, .aload_n 0, 1) rfl rfl) rfl rfl,
    st_getI hC (n := 13) (k := 6) (j := 15) (dc_X6_isHopeless 13 (15, .getfield 67, 3) rfl rfl) rfl clf_6 (by decide) rfl wd_629,
    st_icge hC (n := 14) (dc_X6_isHopeless 14 (18, .if_icmp .ge 32, 3) rfl rfl) rfl (by decide),
    st_iload_n hC (n := 15) (k := 2) (dc_X6_isHopeless 15 (21, .iload_n 2, 1) rfl rfl) rfl rfl,
    st_iload_n hC (n := 16) (k := 3) (dc_X6_isHopeless 16 (22, .iload_n 3, 1) rfl rfl) rfl rfl,
    st_callSN hC (n := 17) (na := 2) (con_X11_holds l) (dc_X6_isHopeless 17 (23, .invokestatic 116, 3) rfl rfl) rfl wd_955 wd_143 (by decide) ⟨rfl, rfl, by decide, by decide⟩ hM ⟨"GivenUp", by decide⟩ wd_954,
    st_ifeq hC (n := 18) (dc_X6_isHopeless 18 (26, .ifCond .eq 18, 3) rfl rfl) rfl (by decide),
    st_aload_n hC (n := 19) (k := 0) (dc_X6_isHopeless 19 (29, .aload_n 0, 1) rfl rfl) rfl rfl,
    st_getR hC (n := 20) (k := 6) (j := 9) (dc_X6_isHopeless 20 (30, .getfield 40, 3) rfl rfl) rfl clf_6 (by decide) rfl (by decide) wd_605,
    st_iload_n hC (n := 21) (k := 3) (dc_X6_isHopeless 21 (33, .iload_n 3, 1) rfl rfl) rfl rfl,
    st_iald hC (n := 22) (dc_X6_isHopeless 22 (34, .iaload, 1) rfl rfl) rfl,
    st_iload_n hC (n := 23) (k := 3) (dc_X6_isHopeless 23 (35, .iload_n 3, 1) rfl rfl) rfl rfl,
    st_callSN hC (n := 24) (na := 2) (con_X11_holds l) (dc_X6_isHopeless 24 (36, .invokestatic 116, 3) rfl rfl) rfl wd_955 wd_143 (by decide) ⟨rfl, rfl, by decide, by decide⟩ hM ⟨"GivenUp", by decide⟩ wd_954,
    st_ifeq hC (n := 25) (dc_X6_isHopeless 25 (39, .ifCond .eq 5, 3) rfl rfl) rfl (by decide),
    st_iconst hC (n := 26) (x := 1) (dc_X6_isHopeless 26 (42, .iconst 1, 1) rfl rfl) rfl (by decide),
    st_zret hC (n := 27) hR (dc_X6_isHopeless 27 (43, .ireturn, 1) rfl rfl),
    st_iinc hC (n := 28) (x := 1) (dc_X6_isHopeless 28 (44, .iinc 3 1, 3) rfl rfl) rfl (by decide) (by decide),
    st_goto hC (n := 29) (dc_X6_isHopeless 29 (47, .goto (-34), 3) rfl rfl) (by decide),
    st_iconst hC (n := 30) (x := 0) (dc_X6_isHopeless 30 (50, .iconst 0, 1) rfl rfl) rfl (by decide),
    st_zret hC (n := 31) hR (dc_X6_isHopeless 31 (51, .ireturn, 1) rfl rfl), trivial⟩
set_option maxRecDepth 8000 in
theorem vc_X6_isHopeless : VC P_X6_isHopeless 4 Pre_X6_isHopeless Fn_X6_isHopeless := by
  rintro mm as hom hoa ⟨g, t, n, hn, hn12, ht, rfl⟩
  refine ⟨Nat.le_of_ble_eq_true rfl, fun X h => ?_⟩
  have et : (nI t).toNatClampNeg = t := nI_clamp (by omega)
  have hF : Fn_X6_isHopeless mm [vR 6 g, vI (nI t)] = (some (vI (bI (hpP (mm.1 38 g) t n))), mm) := by
    show (some (vI (bI (hpP (mm.1 38 g) (nI t).toNatClampNeg (mm.1 6 g 15).toNatClampNeg))), mm) = _
    rw [hn]
    simp only [et, nI_clamp (show n < 2 ^ 31 by omega)]
  rw [hF] at h
  obtain ⟨Z, hZ⟩ : ∃ Z, Z = mm.1 38 g t ||| 1 <<< (nI t &&& 31) := ⟨_, rfl⟩
  have loop : ∀ k, k ≤ n → (∀ o, o < k → ¬ (inS Z (nI o) ∧ inS (mm.1 38 g o) (nI o))) → X 11 [some (vR 6 g), some (vI (nI t)), some (vI (Z)), some (vI (nI k))] [] mm := by
    refine up_ind n ?_ (fun k hk ih => ?_)
    · intro hall
      show X 11 [some (vR 6 g), some (vI (nI t)), some (vI Z), some (vI (nI n))] [] mm
      refine h (fun _ => false) 3000 11 _ _ _ ?_
      refine br_t (show mm.1 6 g 15 ≤ nI n from by rw [hn]; exact Int32.le_refl _) ?_
      refine And.intro (Or.inl rfl) ?_
      show ((some (vI 0) : Option MV), mm) = _
      exact ret_f (fun z => z (by rw [← hZ]; exact hall))
    · intro hall
      have ek : (nI k).toNatClampNeg = k := nI_clamp (by omega)
      have on : ¬ (inS Z (nI k) ∧ inS (mm.1 38 g k) (nI k)) → X 28 [some (vR 6 g), some (vI (nI t)), some (vI (Z)), some (vI (nI k))] [] mm := by
        intro hc
        show X 28 [some (vR 6 g), some (vI (nI t)), some (vI Z), some (vI (nI k))] [] mm
        refine h (fun i => Nat.beq i 11) 3000 28 _ _ _ ?_
        show X 11 [some (vR 6 g), some (vI (nI t)), some (vI Z), some (vI ((nI k) + 1))] [] mm
        rw [nI_1]
        refine ih (fun o ho => ?_) 
        rcases Nat.eq_or_lt_of_le (Nat.le_of_lt_succ ho) with q | q 
        · rw [q]; exact hc 
        · exact hall o q
      show X 11 [some (vR 6 g), some (vI (nI t)), some (vI Z), some (vI (nI k))] [] mm
      refine h (fun i => Nat.beq i 28) 3000 11 _ _ _ ?_
      refine br_f (show ¬ (mm.1 6 g 15 ≤ nI k) from by rw [hn]; exact nI_ge hk (by omega)) ?_
      refine And.intro (show Pre_X11_holds mm [vI Z, vI (nI k)] from ⟨_, _, rfl⟩) ?_
      refine br_c (fun b18 => ?_) (fun b18 => ?_)
      · -- 18: bI (inS Z (nI k)) = 0 taken
        replace b18 : ¬ (inS Z (nI k)) := bI_0.mp b18
        (try simp only [ek] at b18)
        show X 28 [some (vR 6 g), some (vI (nI t)), some (vI Z), some (vI (nI k))] [] mm
        (try simp only [ek])
        exact on (fun z => b18 z.1)
      · -- 18: bI (inS Z (nI k)) = 0 on
        replace b18 : inS Z (nI k) := bI_n0.mp b18
        (try simp only [ek] at b18)
        refine And.intro (show inb (nI k) (alen 38) = true from (inb_o 12 rfl rfl rfl (by omega))) ?_
        refine And.intro (show Pre_X11_holds mm [vI (mm.1 38 g ((nI k).toNatClampNeg)), vI (nI k)] from ⟨_, _, rfl⟩) ?_
        refine br_c (fun b25 => ?_) (fun b25 => ?_)
        · -- 25: bI (inS (mm.1 38 g ((nI k).toNatClampNeg)) (nI k)) = 0 taken
          replace b25 : ¬ (inS (mm.1 38 g ((nI k).toNatClampNeg)) (nI k)) := bI_0.mp b25
          (try simp only [ek] at b25)
          show X 28 [some (vR 6 g), some (vI (nI t)), some (vI Z), some (vI (nI k))] [] mm
          (try simp only [ek])
          exact on (fun z => b25 z.2)
        · -- 25: bI (inS (mm.1 38 g ((nI k).toNatClampNeg)) (nI k)) = 0 on
          replace b25 : inS (mm.1 38 g ((nI k).toNatClampNeg)) (nI k) := bI_n0.mp b25
          (try simp only [ek] at b25)
          refine And.intro (Or.inr rfl) ?_
          show ((some (vI 1) : Option MV), mm) = _
          (try simp only [ek])
          exact ret_t (fun z => z k hk ⟨by rw [← hZ]; exact b18, b25⟩)
  show X 0 [some (vR 6 g), some (vI (nI t)), none, none] [] mm
  refine h (fun i => Nat.beq i 11) 3000 0 _ _ _ ?_
  refine And.intro (show inb (nI t) (alen 38) = true from (inb_o 12 rfl rfl rfl (by omega))) ?_
  show X 11 [some (vR 6 g), some (vI (nI t)), some (vI ((mm.1 38 g ((nI t).toNatClampNeg)) ||| (1 <<< ((nI t) &&& 31)))), some (vI 0)] [] mm
  (try simp only [et])
  rw [← hZ]
  exact loop 0 (by omega) (fun o ho => by omega)
theorem con_X6_isHopeless (l : Launch) : CON l y_X6_isHopeless prog_8_method_7_code 4 (some .boolean) rm_X6_isHopeless Pre_X6_isHopeless Fn_X6_isHopeless := CON_of (by decide) rfl rfl (sa_X6_isHopeless l) vc_X6_isHopeless
def csR (y w : Nat → Int32) : Nat → (Nat → Int32)
  | 0 => y
  | i + 1 => upd (csR y w i) i (if csR y w i i < 0 then w (i / 4) else csR y w i i)
def hpS (h0 : Int32) (f : Nat → Int32) (n : Nat) : Nat → Int32
  | 0 => h0
  | t + 1 => hpS h0 f n t ||| (if hpP f t n then 1 <<< (nI t &&& 31) else 0)
def coM1 (m : MM) (g : Nat) : MM := fnM (mRow m 39 g (csR (m.1 39 g) (m.1 36 g) 48)) g
def coM (m : MM) (g : Nat) : MM := mI (coM1 m g) 6 g 19 (hpS ((coM1 m g).1 6 g 19) ((coM1 m g).1 38 g) ((coM1 m g).1 6 g 15).toNatClampNeg ((coM1 m g).1 6 g 15).toNatClampNeg)

--tpl ⟨_, _, by assumption, by omega, rfl⟩ ||  || coM {m} {g0}
def Pre_X6_complete : PreT := fun m as => ∃ g n : Nat, m.1 6 g 15 = nI n ∧ n ≤ 12 ∧ as = [vR 6 g]
def Fn_X6_complete : FnT := fun m as => match as with
  | [Sum.inr (Sum.inr q)] => (none, coM m q.2)
  | _ => (none, m)
abbrev y_X6_complete : MethodName := ⟨"GivenUp$Valley", "complete", "()V"⟩
def P_X6_complete : List StpT := [s_ic (0), s_istore 1, s_iload 1, s_ic (48), s_icge 27, s_aload 0, s_getR 6 10 39, s_iload 1, s_aload 0, s_getR 6 10 39, s_iload 1, s_iald, s_ifge 20, s_aload 0, s_getR 6 7 36, s_iload 1, s_ic (4), s_idiv, s_iald, s_goto 24, s_aload 0, s_getR 6 10 39, s_iload 1, s_iald, s_iast, s_iinc 1 (1), s_goto 2, s_aload 0, s_callV 6 0 Pre_X6_findNeeds Fn_X6_findNeeds, s_ic (0), s_istore 1, s_iload 1, s_aload 0, s_getI 6 15, s_icge 51, s_aload 0, s_dup, s_getI 6 19, s_aload 0, s_iload 1, s_callV 6 1 Pre_X6_isHopeless Fn_X6_isHopeless, s_ifeq 46, s_ic (1), s_iload 1, s_ishl, s_goto 47, s_ic (0), s_ior, s_putI 6 19, s_iinc 1 (1), s_goto 31, s_vret]
def pc_X6_complete : Nat → Nat := fun i => [0, 1, 2, 3, 5, 8, 9, 12, 13, 14, 17, 18, 19, 22, 23, 26, 27, 28, 29, 30, 33, 34, 37, 38, 39, 40, 43, 46, 47, 50, 51, 52, 53, 54, 57, 60, 61, 62, 65, 66, 67, 70, 73, 74, 75, 76, 79, 80, 81, 84, 87, 90].getD i 0
def dl_X6_complete : List (Nat × Instr × Nat) := [(0, .iconst 0, 1), (1, .istore_n 1, 1), (2, .iload_n 1, 1), (3, .bipush 48, 2), (5, .if_icmp .ge 41, 3), (8, .aload_n 0, 1), (9, .getfield 43, 3), (12, .iload_n 1, 1), (13, .aload_n 0, 1), (14, .getfield 43, 3), (17, .iload_n 1, 1), (18, .iaload, 1), (19, .ifCond .ge 14, 3), (22, .aload_n 0, 1), (23, .getfield 34, 3), (26, .iload_n 1, 1), (27, .iconst 4, 1), (28, .idiv, 1), (29, .iaload, 1), (30, .goto 9, 3), (33, .aload_n 0, 1), (34, .getfield 43, 3), (37, .iload_n 1, 1), (38, .iaload, 1), (39, .iastore, 1), (40, .iinc 1 1, 3), (43, .goto (-41), 3), (46, .aload_n 0, 1), (47, .invokevirtual 109, 3), (50, .iconst 0, 1), (51, .istore_n 1, 1), (52, .iload_n 1, 1), (53, .aload_n 0, 1), (54, .getfield 67, 3), (57, .if_icmp .ge 33, 3), (60, .aload_n 0, 1), (61, .dup, 1), (62, .getfield 79, 3), (65, .aload_n 0, 1), (66, .iload_n 1, 1), (67, .invokevirtual 112, 3), (70, .ifCond .eq 9, 3), (73, .iconst 1, 1), (74, .iload_n 1, 1), (75, .ishl, 1), (76, .goto 4, 3), (79, .iconst 0, 1), (80, .ior, 1), (81, .putfield 79, 3), (84, .iinc 1 1, 3), (87, .goto (-35), 3), (90, .return_, 1)]
theorem dc_X6_complete : DEC prog_8_method_5_code pc_X6_complete dl_X6_complete := DEC_of (by decide +kernel)
abbrev rm_X6_complete : Room := { frames := 2, cells := 0, slots := 0, locals := 48 }
set_option maxRecDepth 20000 in
theorem sa_X6_complete (l : Launch) : SNDALL l prog_8_method_5_code "GivenUp$Valley" 2 none rm_X6_complete P_X6_complete pc_X6_complete := fun p e s m args below meth c cells slots Q D dA ad A RR hC hR => by
  have hM := RTX_room (R := rm_X6_complete) hR
  exact ⟨st_iconst hC (n := 0) (x := 0) (dc_X6_complete 0 (0, .iconst 0, 1) rfl rfl) rfl (by decide),
    st_istore_n hC (n := 1) (k := 1) (dc_X6_complete 1 (1, .istore_n 1, 1) rfl rfl) rfl rfl (by decide),
    st_iload_n hC (n := 2) (k := 1) (dc_X6_complete 2 (2, .iload_n 1, 1) rfl rfl) rfl rfl,
    st_bipush hC (n := 3) (x := 48) (dc_X6_complete 3 (3, .bipush 48, 2) rfl rfl) rfl (by decide),
    st_icge hC (n := 4) (dc_X6_complete 4 (5, .if_icmp .ge 41, 3) rfl rfl) rfl (by decide),
    st_aload_n hC (n := 5) (k := 0) (dc_X6_complete 5 (8, .aload_n 0, 1) rfl rfl) rfl rfl,
    st_getR hC (n := 6) (k := 6) (j := 10) (dc_X6_complete 6 (9, .getfield 43, 3) rfl rfl) rfl clf_6 (by decide) rfl (by decide) wd_608,
    st_iload_n hC (n := 7) (k := 1) (dc_X6_complete 7 (12, .iload_n 1, 1) rfl rfl) rfl rfl,
    st_aload_n hC (n := 8) (k := 0) (dc_X6_complete 8 (13, .aload_n 0, 1) rfl rfl) rfl rfl,
    st_getR hC (n := 9) (k := 6) (j := 10) (dc_X6_complete 9 (14, .getfield 43, 3) rfl rfl) rfl clf_6 (by decide) rfl (by decide) wd_608,
    st_iload_n hC (n := 10) (k := 1) (dc_X6_complete 10 (17, .iload_n 1, 1) rfl rfl) rfl rfl,
    st_iald hC (n := 11) (dc_X6_complete 11 (18, .iaload, 1) rfl rfl) rfl,
    st_ifge hC (n := 12) (dc_X6_complete 12 (19, .ifCond .ge 14, 3) rfl rfl) rfl (by decide),
    st_aload_n hC (n := 13) (k := 0) (dc_X6_complete 13 (22, .aload_n 0, 1) rfl rfl) rfl rfl,
    st_getR hC (n := 14) (k := 6) (j := 7) (dc_X6_complete 14 (23, .getfield 34, 3) rfl rfl) rfl clf_6 (by decide) rfl (by decide) wd_598,
    st_iload_n hC (n := 15) (k := 1) (dc_X6_complete 15 (26, .iload_n 1, 1) rfl rfl) rfl rfl,
    st_iconst hC (n := 16) (x := 4) (dc_X6_complete 16 (27, .iconst 4, 1) rfl rfl) rfl (by decide),
    st_idiv hC (n := 17) (dc_X6_complete 17 (28, .idiv, 1) rfl rfl) rfl,
    st_iald hC (n := 18) (dc_X6_complete 18 (29, .iaload, 1) rfl rfl) rfl,
    st_goto hC (n := 19) (dc_X6_complete 19 (30, .goto 9, 3) rfl rfl) (by decide),
    st_aload_n hC (n := 20) (k := 0) (dc_X6_complete 20 (33, .aload_n 0, 1) rfl rfl) rfl rfl,
    st_getR hC (n := 21) (k := 6) (j := 10) (dc_X6_complete 21 (34, .getfield 43, 3) rfl rfl) rfl clf_6 (by decide) rfl (by decide) wd_608,
    st_iload_n hC (n := 22) (k := 1) (dc_X6_complete 22 (37, .iload_n 1, 1) rfl rfl) rfl rfl,
    st_iald hC (n := 23) (dc_X6_complete 23 (38, .iaload, 1) rfl rfl) rfl,
    st_iast hC (n := 24) (dc_X6_complete 24 (39, .iastore, 1) rfl rfl) rfl,
    st_iinc hC (n := 25) (x := 1) (dc_X6_complete 25 (40, .iinc 1 1, 3) rfl rfl) rfl (by decide) (by decide),
    st_goto hC (n := 26) (dc_X6_complete 26 (43, .goto (-41), 3) rfl rfl) (by decide),
    st_aload_n hC (n := 27) (k := 0) (dc_X6_complete 27 (46, .aload_n 0, 1) rfl rfl) rfl rfl,
    st_callV hC (n := 28) (k := 6) (na := 0) (con_X6_findNeeds l) (dc_X6_complete 28 (47, .invokevirtual 109, 3) rfl rfl) rfl wd_951 wd_155 (by decide) ⟨rfl, rfl, by decide, by decide⟩ hM wd_948 wd_950 wd_14 clf_6,
    st_iconst hC (n := 29) (x := 0) (dc_X6_complete 29 (50, .iconst 0, 1) rfl rfl) rfl (by decide),
    st_istore_n hC (n := 30) (k := 1) (dc_X6_complete 30 (51, .istore_n 1, 1) rfl rfl) rfl rfl (by decide),
    st_iload_n hC (n := 31) (k := 1) (dc_X6_complete 31 (52, .iload_n 1, 1) rfl rfl) rfl rfl,
    st_aload_n hC (n := 32) (k := 0) (dc_X6_complete 32 (53, .aload_n 0, 1) rfl rfl) rfl rfl,
    st_getI hC (n := 33) (k := 6) (j := 15) (dc_X6_complete 33 (54, .getfield 67, 3) rfl rfl) rfl clf_6 (by decide) rfl wd_629,
    st_icge hC (n := 34) (dc_X6_complete 34 (57, .if_icmp .ge 33, 3) rfl rfl) rfl (by decide),
    st_aload_n hC (n := 35) (k := 0) (dc_X6_complete 35 (60, .aload_n 0, 1) rfl rfl) rfl rfl,
    st_dup hC (n := 36) (dc_X6_complete 36 (61, .dup, 1) rfl rfl) rfl,
    st_getI hC (n := 37) (k := 6) (j := 19) (dc_X6_complete 37 (62, .getfield 79, 3) rfl rfl) rfl clf_6 (by decide) rfl wd_644,
    st_aload_n hC (n := 38) (k := 0) (dc_X6_complete 38 (65, .aload_n 0, 1) rfl rfl) rfl rfl,
    st_iload_n hC (n := 39) (k := 1) (dc_X6_complete 39 (66, .iload_n 1, 1) rfl rfl) rfl rfl,
    st_callV hC (n := 40) (k := 6) (na := 1) (con_X6_isHopeless l) (dc_X6_complete 40 (67, .invokevirtual 112, 3) rfl rfl) rfl wd_959 wd_155 (by decide) ⟨rfl, rfl, by decide, by decide⟩ hM wd_956 wd_958 wd_15 clf_6,
    st_ifeq hC (n := 41) (dc_X6_complete 41 (70, .ifCond .eq 9, 3) rfl rfl) rfl (by decide),
    st_iconst hC (n := 42) (x := 1) (dc_X6_complete 42 (73, .iconst 1, 1) rfl rfl) rfl (by decide),
    st_iload_n hC (n := 43) (k := 1) (dc_X6_complete 43 (74, .iload_n 1, 1) rfl rfl) rfl rfl,
    st_ishl hC (n := 44) (dc_X6_complete 44 (75, .ishl, 1) rfl rfl) rfl,
    st_goto hC (n := 45) (dc_X6_complete 45 (76, .goto 4, 3) rfl rfl) (by decide),
    st_iconst hC (n := 46) (x := 0) (dc_X6_complete 46 (79, .iconst 0, 1) rfl rfl) rfl (by decide),
    st_ior hC (n := 47) (dc_X6_complete 47 (80, .ior, 1) rfl rfl) rfl,
    st_putI hC (n := 48) (k := 6) (j := 19) (dc_X6_complete 48 (81, .putfield 79, 3) rfl rfl) rfl clf_6 (by decide) rfl rfl rfl wd_644,
    st_iinc hC (n := 49) (x := 1) (dc_X6_complete 49 (84, .iinc 1 1, 3) rfl rfl) rfl (by decide) (by decide),
    st_goto hC (n := 50) (dc_X6_complete 50 (87, .goto (-35), 3) rfl rfl) (by decide),
    st_vret hC (n := 51) hR (dc_X6_complete 51 (90, .return_, 1) rfl rfl), trivial⟩
set_option maxRecDepth 8000 in
theorem vc_X6_complete : VC P_X6_complete 2 Pre_X6_complete Fn_X6_complete := by
  rintro mm as hom hoa ⟨g, n, hn, hn12, rfl⟩
  refine ⟨Nat.le_of_ble_eq_true rfl, fun X h => ?_⟩
  replace h : RUN P_X6_complete (fun r m' => (r, m') = (none, coM mm g)) X := h
  unfold coM at h
  have s29 : ∀ L1, X 29 [some (vR 6 g), L1] [] (coM1 mm g) := by
    intro L1
    have hn2 : (coM1 mm g).1 6 g 15 = nI n := hn
    generalize coM1 mm g = M at h hn2
    rw [hn2, nI_clamp (show n < 2 ^ 31 by omega)] at h
    have loop : ∀ t, t ≤ n → X 31 [some (vR 6 g), some (vI (nI t))] [] (mI M 6 g 19 (hpS (M.1 6 g 19) (M.1 38 g) n t)) := by
      refine up_ind n ?_ (fun t ht ih => ?_)
      ·
        show X 31 [some (vR 6 g), some (vI (nI n))] [] (mI M 6 g 19 (hpS (M.1 6 g 19) (M.1 38 g) n n))
        refine h (fun _ => false) 3000 31 _ _ _ ?_
        refine br_t (show (mI M 6 g 19 (hpS (M.1 6 g 19) (M.1 38 g) n n)).1 6 g 15 ≤ nI n from by rw [mI_ne (by decide), hn2]; exact Int32.le_refl _) ?_
        show ((none : Option MV), mI M 6 g 19 (hpS (M.1 6 g 19) (M.1 38 g) n n)) = _
        exact rfl
      · have et : (nI t).toNatClampNeg = t := nI_clamp (by omega)
        have ent : (nI n).toNatClampNeg = n := nI_clamp (by omega)
        rw [hpS] at ih
        obtain ⟨v, hv⟩ : ∃ v, v = hpS (M.1 6 g 19) (M.1 38 g) n t := ⟨_, rfl⟩
        rw [← hv] at ih ⊢
        have r15 : (mI M 6 g 19 v).1 6 g 15 = nI n := by rw [mI_ne (by decide)]; exact hn2
        have r19 : (mI M 6 g 19 v).1 6 g 19 = v := mI_eq2
        have two : ∀ x, mI (mI M 6 g 19 v) 6 g 19 x = mI M 6 g 19 x := fun x => by
          show mRow (mRow M 6 g _) 6 g (upd ((mRow M 6 g _).1 6 g) 19 x) = _
          rw [mRow2, mRow_row, upd2]
        show X 31 [some (vR 6 g), some (vI (nI t))] [] (mI M 6 g 19 v)
        refine h (fun i => Nat.beq i 31) 3000 31 _ _ _ ?_
        refine br_f (show ¬ ((mI M 6 g 19 v).1 6 g 15 ≤ nI t) from by rw [r15]; exact nI_ge ht (by omega)) ?_
        refine And.intro (show Pre_X6_isHopeless (mI M 6 g 19 v) [vR 6 g, vI (nI t)] from ⟨g, t, n, r15, hn12, by omega, rfl⟩) ?_
        refine br_c (fun b41 => ?_) (fun b41 => ?_)
        · -- 41: bI (hpP (M.1 38 g) (nI t).toNatClampNeg ((mI M 6 g 19 v).1 6 g 15).toNatClampNeg) = 0 taken
          replace b41 : ¬ (hpP (M.1 38 g) (nI t).toNatClampNeg ((mI M 6 g 19 v).1 6 g 15).toNatClampNeg) := bI_0.mp b41
          (try simp only [et, ent, r15] at b41)
          show X 31 [some (vR 6 g), some (vI ((nI t) + 1))] [] (mI (mI M 6 g 19 v) 6 g 19 (((mI M 6 g 19 v).1 6 g 19) ||| 0))
          (try simp only [et, ent, r15])
          rw [if_neg b41] at ih
          rw [nI_1, r19, two] 
          exact ih
        · -- 41: bI (hpP (M.1 38 g) (nI t).toNatClampNeg ((mI M 6 g 19 v).1 6 g 15).toNatClampNeg) = 0 on
          replace b41 : hpP (M.1 38 g) (nI t).toNatClampNeg ((mI M 6 g 19 v).1 6 g 15).toNatClampNeg := bI_n0.mp b41
          (try simp only [et, ent, r15] at b41)
          show X 31 [some (vR 6 g), some (vI ((nI t) + 1))] [] (mI (mI M 6 g 19 v) 6 g 19 (((mI M 6 g 19 v).1 6 g 19) ||| (1 <<< ((nI t) &&& 31))))
          (try simp only [et, ent, r15])
          rw [if_pos b41] at ih
          rw [nI_1, r19, two] 
          exact ih
    have l0 := loop 0 (by omega)
    have e0 : mI M 6 g 19 (hpS (M.1 6 g 19) (M.1 38 g) n 0) = M := by
      show mRow M 6 g (upd (M.1 6 g) 19 (M.1 6 g 19)) = M
      rw [upd_self rfl, mRow_self]
    rw [e0] at l0
    show X 29 [some (vR 6 g), L1] [] M
    refine h (fun i => Nat.beq i 31) 3000 29 _ _ _ ?_
    show X 31 [some (vR 6 g), some (vI 0)] [] M
    exact l0
  have loop1 : ∀ i, i ≤ 48 → X 2 [some (vR 6 g), some (vI (nI i))] [] (mRow mm 39 g (csR (mm.1 39 g) (mm.1 36 g) i)) := by
    refine up_ind 48 ?_ (fun i hi ih => ?_)
    ·
      show X 2 [some (vR 6 g), some (vI (nI 48))] [] (mRow mm 39 g (csR (mm.1 39 g) (mm.1 36 g) 48))
      refine h (fun i => Nat.beq i 29) 3000 2 _ _ _ ?_
      refine br_t (show 48 ≤ nI 48 from Int32.le_refl _) ?_
      refine And.intro (show Pre_X6_findNeeds (mRow mm 39 g (csR (mm.1 39 g) (mm.1 36 g) 48)) [vR 6 g] from ⟨g, rfl⟩) ?_
      show X 29 [some (vR 6 g), some (vI (nI 48))] [] (fnM (mRow mm 39 g (csR (mm.1 39 g) (mm.1 36 g) 48)) g)
      exact s29 _
    · have ei : (nI i).toNatClampNeg = i := nI_clamp (by omega)
      have e4 : nI i / 4 = nI (i / 4) := by rw [show (4 : Int32) = nI 4 from rfl]; exact nIdv (by omega) (by omega) (by omega)
      have e4n : (nI (i / 4)).toNatClampNeg = i / 4 := nI_clamp (by omega)
      rw [csR] at ih
      obtain ⟨Q, hQ⟩ : ∃ Q, Q = csR (mm.1 39 g) (mm.1 36 g) i := ⟨_, rfl⟩
      rw [← hQ] at ih ⊢
      have r1 : ∀ j, (mRow mm 39 g Q).1 39 g j = Q j := fun j => by rw [mRow_row]
      show X 2 [some (vR 6 g), some (vI (nI i))] [] (mRow mm 39 g Q)
      refine h (fun i => Nat.beq i 2) 3000 2 _ _ _ ?_
      refine br_f (show ¬ (48 ≤ nI i) from show ¬ nI 48 ≤ nI i from nI_ge hi (by omega)) ?_
      refine And.intro (show inb (nI i) (alen 39) = true from (inb_o 48 rfl rfl rfl (by omega))) ?_
      refine br_c (fun b12 => ?_) (fun b12 => ?_)
      · -- 12: 0 ≤ (mRow mm 39 g Q).1 39 g ((nI i).toNatClampNeg) taken
        replace b12 : 0 ≤ (mRow mm 39 g Q).1 39 g ((nI i).toNatClampNeg) := b12
        (try simp only [ei, e4, e4n, r1] at b12)
        refine And.intro (show inb (nI i) (alen 39) = true from (inb_o 48 rfl rfl rfl (by omega))) ?_
        refine And.intro (show inb (nI i) (alen 39) = true from (inb_o 48 rfl rfl rfl (by omega))) ?_
        show X 2 [some (vR 6 g), some (vI ((nI i) + 1))] [] (mRow (mRow mm 39 g Q) 39 g (upd ((mRow mm 39 g Q).1 39 g) (nI i).toNatClampNeg ((mRow mm 39 g Q).1 39 g ((nI i).toNatClampNeg))))
        (try simp only [ei, e4, e4n, r1])
        rw [if_neg (Int32.not_lt.mpr b12)] at ih
        rw [nI_1, mRow2, mRow_row] 
        exact ih
      · -- 12: 0 ≤ (mRow mm 39 g Q).1 39 g ((nI i).toNatClampNeg) on
        replace b12 : ¬ (0 ≤ (mRow mm 39 g Q).1 39 g ((nI i).toNatClampNeg)) := b12
        (try simp only [ei, e4, e4n, r1] at b12)
        refine And.intro (by decide) ?_
        refine And.intro (show inb ((nI i) / 4) (alen 36) = true from (inb_o 12 rfl rfl e4 (by omega))) ?_
        refine And.intro (show inb (nI i) (alen 39) = true from (inb_o 48 rfl rfl rfl (by omega))) ?_
        show X 2 [some (vR 6 g), some (vI ((nI i) + 1))] [] (mRow (mRow mm 39 g Q) 39 g (upd ((mRow mm 39 g Q).1 39 g) (nI i).toNatClampNeg (mm.1 36 g (((nI i) / 4).toNatClampNeg))))
        (try simp only [ei, e4, e4n, r1])
        rw [if_pos (Int32.not_le.mp b12)] at ih
        rw [nI_1, mRow2, mRow_row] 
        exact ih
  have l0 := loop1 0 (by omega)
  have e0 : mRow mm 39 g (csR (mm.1 39 g) (mm.1 36 g) 0) = mm := mRow_self _ _ _
  rw [e0] at l0
  show X 0 [some (vR 6 g), none] [] mm
  refine h (fun i => Nat.beq i 2) 3000 0 _ _ _ ?_
  show X 2 [some (vR 6 g), some (vI 0)] [] mm
  exact l0
theorem con_X6_complete (l : Launch) : CON l y_X6_complete prog_8_method_5_code 2 none rm_X6_complete Pre_X6_complete Fn_X6_complete := CON_of (by decide) rfl rfl (sa_X6_complete l) vc_X6_complete
