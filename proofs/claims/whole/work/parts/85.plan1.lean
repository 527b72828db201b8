/-! PART 85: the class: a plan is weighed -/

abbrev ilC (m : MM) (ch many sum : Int32) : Prop := if sum = m.1 3 0 12 then (if many = m.1 3 0 11 then ch < m.1 3 0 13 else many < m.1 3 0 11) else sum < m.1 3 0 12

--tpl ⟨_, _, _, rfl⟩ || bI (ilC {m} {1} {2} {3})
def Pre_X3_isLess : PreT := fun _ as => ∃ ch many sum : Int32, as = [vR 3 0, vI ch, vI many, vI sum]
def Fn_X3_isLess : FnT := fun m as => match as with
  | [_, Sum.inl ch, Sum.inl many, Sum.inl sum] => (some (vI (bI (ilC m ch many sum))), m)
  | _ => (none, m)
abbrev y_X3_isLess : MethodName := ⟨"GivenUp$Plan", "isLess", "(III)Z"⟩
def P_X3_isLess : List StpT := [s_iload 3, s_aload 0, s_getI 3 12, s_iceq 12, s_iload 3, s_aload 0, s_getI 3 12, s_icge 10, s_ic (1), s_goto 11, s_ic (0), s_zret, s_iload 2, s_aload 0, s_getI 3 11, s_iceq 24, s_iload 2, s_aload 0, s_getI 3 11, s_icge 22, s_ic (1), s_goto 31, s_ic (0), s_goto 31, s_iload 1, s_aload 0, s_getI 3 13, s_icge 30, s_ic (1), s_goto 31, s_ic (0), s_zret]
def pc_X3_isLess : Nat → Nat := fun i => [0, 1, 2, 5, 8, 9, 10, 13, 16, 17, 20, 21, 22, 23, 24, 27, 30, 31, 32, 35, 38, 39, 42, 43, 46, 47, 48, 51, 54, 55, 58, 59].getD i 0
def dl_X3_isLess : List (Nat × Instr × Nat) := [(0, .iload_n 3, 1), (1, .aload_n 0, 1), (2, .getfield 49, 3), (5, .if_icmp .eq 17, 3), (8, .iload_n 3, 1), (9, .aload_n 0, 1), (10, .getfield 49, 3), (13, .if_icmp .ge 7, 3), (16, .iconst 1, 1), (17, .goto 4, 3), (20, .iconst 0, 1), (21, .ireturn, 1), (22, .iload_n 2, 1), (23, .aload_n 0, 1), (24, .getfield 46, 3), (27, .if_icmp .eq 19, 3), (30, .iload_n 2, 1), (31, .aload_n 0, 1), (32, .getfield 46, 3), (35, .if_icmp .ge 7, 3), (38, .iconst 1, 1), (39, .goto 20, 3), (42, .iconst 0, 1), (43, .goto 16, 3), (46, .iload_n 1, 1), (47, .aload_n 0, 1), (48, .getfield 52, 3), (51, .if_icmp .ge 7, 3), (54, .iconst 1, 1), (55, .goto 4, 3), (58, .iconst 0, 1), (59, .ireturn, 1)]
theorem dc_X3_isLess : DEC prog_5_method_7_code pc_X3_isLess dl_X3_isLess := DEC_of (by decide +kernel)
abbrev rm_X3_isLess : Room := { frames := 0, cells := 0, slots := 0, locals := 0 }
set_option maxRecDepth 20000 in
theorem sa_X3_isLess (l : Launch) : SNDALL l prog_5_method_7_code "GivenUp$Plan" 4 (some .boolean) rm_X3_isLess P_X3_isLess pc_X3_isLess := fun p e s m args below meth c cells slots Q D dA ad A RR hC hR => by
  have hM := RTX_room (R := rm_X3_isLess) hR
  exact ⟨st_iload_n hC (n := 0) (k := 3) (dc_X3_isLess 0 (0, .iload_n 3, 1) rfl rfl) rfl rfl,
    st_aload_n hC (n := 1) (k := 0) (dc_X3_isLess 1 (1, .aload_n 0, 1) rfl rfl) rfl rfl,
    st_getI hC (n := 2) (k := 3) (j := 12) (dc_X3_isLess 2 (2, .getfield 49, 3) rfl rfl) rfl clf_3 (by decide) rfl wd_324,
    st_iceq hC (n := 3) (dc_X3_isLess 3 (5, .if_icmp .eq 17, 3) rfl rfl) rfl (by decide),
    st_iload_n hC (n := 4) (k := 3) (dc_X3_isLess 4 (8, .iload_n 3, 1) rfl rfl) rfl rfl,
    st_aload_n hC (n := 5) (k := 0) (dc_X3_isLess 5 (9, .aload_n 0, 1) rfl rfl) rfl rfl,
    st_getI hC (n := 6) (k := 3) (j := 12) (dc_X3_isLess 6 (10, .getfield 49, 3) rfl rfl) rfl clf_3 (by decide) rfl wd_324,
    st_icge hC (n := 7) (dc_X3_isLess 7 (13, .if_icmp .ge 7, 3) rfl rfl) rfl (by decide),
    st_iconst hC (n := 8) (x := 1) (dc_X3_isLess 8 (16, .iconst 1, 1) rfl rfl) rfl (by decide),
    st_goto hC (n := 9) (dc_X3_isLess 9 (17, .goto 4, 3) rfl rfl) (by decide),
    st_iconst hC (n := 10) (x := 0) (dc_X3_isLess 10 (20, .iconst 0, 1) rfl rfl) rfl (by decide),
    st_zret hC (n := 11) hR (dc_X3_isLess 11 (21, .ireturn, 1) rfl rfl),
    st_iload_n hC (n := 12) (k := 2) (dc_X3_isLess 12 (22, .iload_n 2, 1) rfl rfl) rfl rfl,
    st_aload_n hC (n := 13) (k := 0) (dc_X3_isLess 13 (23, .aload_n 0, 1) rfl rfl) rfl rfl,
    st_getI hC (n := 14) (k := 3) (j := 11) (dc_X3_isLess 14 (24, .getfield 46, 3) rfl rfl) rfl clf_3 (by decide) rfl wd_323,
    st_iceq hC (n := 15) (dc_X3_isLess 15 (27, .if_icmp .eq 19, 3) rfl rfl) rfl (by decide),
    st_iload_n hC (n := 16) (k := 2) (dc_X3_isLess 16 (30, .iload_n 2, 1) rfl rfl) rfl rfl,
    st_aload_n hC (n := 17) (k := 0) (dc_X3_isLess 17 (31, .aload_n 0, 1) rfl rfl) rfl rfl,
    st_getI hC (n := 18) (k := 3) (j := 11) (dc_X3_isLess 18 (32, .getfield 46, 3) rfl rfl) rfl clf_3 (by decide) rfl wd_323,
    st_icge hC (n := 19) (dc_X3_isLess 19 (35, .if_icmp .ge 7, 3) rfl rfl) rfl (by decide),
    st_iconst hC (n := 20) (x := 1) (dc_X3_isLess 20 (38, .iconst 1, 1) rfl rfl) rfl (by decide),
    st_goto hC (n := 21) (dc_X3_isLess 21 (39, .goto 20, 3) rfl rfl) (by decide),
    st_iconst hC (n := 22) (x := 0) (dc_X3_isLess 22 (42, .iconst 0, 1) rfl rfl) rfl (by decide),
    st_goto hC (n := 23) (dc_X3_isLess 23 (43, .goto 16, 3) rfl rfl) (by decide),
    st_iload_n hC (n := 24) (k := 1) (dc_X3_isLess 24 (46, .iload_n 1, 1) rfl rfl) rfl rfl,
    st_aload_n hC (n := 25) (k := 0) (dc_X3_isLess 25 (47, .aload_n 0, 1) rfl rfl) rfl rfl,
    st_getI hC (n := 26) (k := 3) (j := 13) (dc_X3_isLess 26 (48, .getfield 52, 3) rfl rfl) rfl clf_3 (by decide) rfl wd_327,
    st_icge hC (n := 27) (dc_X3_isLess 27 (51, .if_icmp .ge 7, 3) rfl rfl) rfl (by decide),
    st_iconst hC (n := 28) (x := 1) (dc_X3_isLess 28 (54, .iconst 1, 1) rfl rfl) rfl (by decide),
    st_goto hC (n := 29) (dc_X3_isLess 29 (55, .goto 4, 3) rfl rfl) (by decide),
    st_iconst hC (n := 30) (x := 0) (dc_X3_isLess 30 (58, .iconst 0, 1) rfl rfl) rfl (by decide),
    st_zret hC (n := 31) hR (dc_X3_isLess 31 (59, .ireturn, 1) rfl rfl), trivial⟩
set_option maxRecDepth 8000 in
theorem vc_X3_isLess : VC P_X3_isLess 4 Pre_X3_isLess Fn_X3_isLess := by
  rintro mm as hom hoa ⟨ch, many, sum, rfl⟩
  refine ⟨Nat.le_of_ble_eq_true rfl, fun X h => ?_⟩
  replace h : RUN P_X3_isLess (fun r m' => (r, m') = (some (vI (bI (ilC mm ch many sum))), mm)) X := h
  show X 0 [some (vR 3 0), some (vI ch), some (vI many), some (vI sum)] [] mm
  refine h (fun _ => false) 3000 0 _ _ _ ?_
  refine br_c (fun b3 => ?_) (fun b3 => ?_)
  · -- 3: sum = mm.1 3 0 12 taken
    replace b3 : sum = mm.1 3 0 12 := b3
    refine br_c (fun b15 => ?_) (fun b15 => ?_)
    · -- 15: many = mm.1 3 0 11 taken
      replace b15 : many = mm.1 3 0 11 := b15
      refine br_c (fun b27 => ?_) (fun b27 => ?_)
      · -- 27: mm.1 3 0 13 ≤ ch taken
        replace b27 : mm.1 3 0 13 ≤ ch := b27
        refine And.intro (Or.inl rfl) ?_
        show ((some (vI 0) : Option MV), mm) = _
        exact ret_f (fun z => by unfold ilC at z; rw [if_pos b3, if_pos b15] at z; exact Int32.not_lt.mpr b27 z)
      · -- 27: mm.1 3 0 13 ≤ ch on
        replace b27 : ¬ (mm.1 3 0 13 ≤ ch) := b27
        refine And.intro (Or.inr rfl) ?_
        show ((some (vI 1) : Option MV), mm) = _
        exact ret_t (by unfold ilC; rw [if_pos b3, if_pos b15]; exact Int32.not_le.mp b27)
    · -- 15: many = mm.1 3 0 11 on
      replace b15 : ¬ (many = mm.1 3 0 11) := b15
      refine br_c (fun b19 => ?_) (fun b19 => ?_)
      · -- 19: mm.1 3 0 11 ≤ many taken
        replace b19 : mm.1 3 0 11 ≤ many := b19
        refine And.intro (Or.inl rfl) ?_
        show ((some (vI 0) : Option MV), mm) = _
        exact ret_f (fun z => by unfold ilC at z; rw [if_pos b3, if_neg b15] at z; exact Int32.not_lt.mpr b19 z)
      · -- 19: mm.1 3 0 11 ≤ many on
        replace b19 : ¬ (mm.1 3 0 11 ≤ many) := b19
        refine And.intro (Or.inr rfl) ?_
        show ((some (vI 1) : Option MV), mm) = _
        exact ret_t (by unfold ilC; rw [if_pos b3, if_neg b15]; exact Int32.not_le.mp b19)
  · -- 3: sum = mm.1 3 0 12 on
    replace b3 : ¬ (sum = mm.1 3 0 12) := b3
    refine br_c (fun b7 => ?_) (fun b7 => ?_)
    · -- 7: mm.1 3 0 12 ≤ sum taken
      replace b7 : mm.1 3 0 12 ≤ sum := b7
      refine And.intro (Or.inl rfl) ?_
      show ((some (vI 0) : Option MV), mm) = _
      exact ret_f (fun z => by unfold ilC at z; rw [if_neg b3] at z; exact Int32.not_lt.mpr b7 z)
    · -- 7: mm.1 3 0 12 ≤ sum on
      replace b7 : ¬ (mm.1 3 0 12 ≤ sum) := b7
      refine And.intro (Or.inr rfl) ?_
      show ((some (vI 1) : Option MV), mm) = _
      exact ret_t (by unfold ilC; rw [if_neg b3]; exact Int32.not_le.mp b7)
theorem con_X3_isLess (l : Launch) : CON l y_X3_isLess prog_5_method_7_code 4 (some .boolean) rm_X3_isLess Pre_X3_isLess Fn_X3_isLess := CON_of (by decide) rfl rfl (sa_X3_isLess l) vc_X3_isLess
--tpl rfl || bI (¬ {r 1 3 0 13} < 0)
def Pre_X3_isFound : PreT := fun _ as => as = [vR 3 0]
def Fn_X3_isFound : FnT := fun m _ => (some (vI (bI (¬ m.1 3 0 13 < 0))), m)
abbrev y_X3_isFound : MethodName := ⟨"GivenUp$Plan", "isFound", "()Z"⟩
def P_X3_isFound : List StpT := [s_aload 0, s_getI 3 13, s_iflt 5, s_ic (1), s_goto 6, s_ic (0), s_zret]
def pc_X3_isFound : Nat → Nat := fun i => [0, 1, 4, 7, 8, 11, 12].getD i 0
def dl_X3_isFound : List (Nat × Instr × Nat) := [(0, .aload_n 0, 1), (1, .getfield 52, 3), (4, .ifCond .lt 7, 3), (7, .iconst 1, 1), (8, .goto 4, 3), (11, .iconst 0, 1), (12, .ireturn, 1)]
theorem dc_X3_isFound : DEC prog_5_method_3_code pc_X3_isFound dl_X3_isFound := DEC_of (by decide +kernel)
abbrev rm_X3_isFound : Room := { frames := 0, cells := 0, slots := 0, locals := 0 }
set_option maxRecDepth 20000 in
theorem sa_X3_isFound (l : Launch) : SNDALL l prog_5_method_3_code "GivenUp$Plan" 1 (some .boolean) rm_X3_isFound P_X3_isFound pc_X3_isFound := fun p e s m args below meth c cells slots Q D dA ad A RR hC hR => by
  have hM := RTX_room (R := rm_X3_isFound) hR
  exact ⟨st_aload_n hC (n := 0) (k := 0) (dc_X3_isFound 0 (0, .aload_n 0, 1) rfl rfl) rfl rfl,
    st_getI hC (n := 1) (k := 3) (j := 13) (dc_X3_isFound 1 (1, .getfield 52, 3) rfl rfl) rfl clf_3 (by decide) rfl wd_327,
    st_iflt hC (n := 2) (dc_X3_isFound 2 (4, .ifCond .lt 7, 3) rfl rfl) rfl (by decide),
    st_iconst hC (n := 3) (x := 1) (dc_X3_isFound 3 (7, .iconst 1, 1) rfl rfl) rfl (by decide),
    st_goto hC (n := 4) (dc_X3_isFound 4 (8, .goto 4, 3) rfl rfl) (by decide),
    st_iconst hC (n := 5) (x := 0) (dc_X3_isFound 5 (11, .iconst 0, 1) rfl rfl) rfl (by decide),
    st_zret hC (n := 6) hR (dc_X3_isFound 6 (12, .ireturn, 1) rfl rfl), trivial⟩
set_option maxRecDepth 8000 in
theorem vc_X3_isFound : VC P_X3_isFound 1 Pre_X3_isFound Fn_X3_isFound := by
  rintro mm as hom hoa rfl
  refine ⟨Nat.le_of_ble_eq_true rfl, fun X h => ?_⟩
  replace h : RUN P_X3_isFound (fun r m' => (r, m') = (some (vI (bI (¬ mm.1 3 0 13 < 0))), mm)) X := h
  show X 0 [some (vR 3 0)] [] mm
  refine h (fun _ => false) 3000 0 _ _ _ ?_
  refine br_c (fun b2 => ?_) (fun b2 => ?_)
  · -- 2: mm.1 3 0 13 < 0 taken
    replace b2 : mm.1 3 0 13 < 0 := b2
    refine And.intro (Or.inl rfl) ?_
    show ((some (vI 0) : Option MV), mm) = _
    exact ret_f (fun z => z b2)
  · -- 2: mm.1 3 0 13 < 0 on
    replace b2 : ¬ (mm.1 3 0 13 < 0) := b2
    refine And.intro (Or.inr rfl) ?_
    show ((some (vI 1) : Option MV), mm) = _
    exact ret_t b2
theorem con_X3_isFound (l : Launch) : CON l y_X3_isFound prog_5_method_3_code 1 (some .boolean) rm_X3_isFound Pre_X3_isFound Fn_X3_isFound := CON_of (by decide) rfl rfl (sa_X3_isFound l) vc_X3_isFound
def wkC3 (m : MM) (many : Int32) : Int32 := if m.1 3 0 6 < many ∧ 0 < m.1 3 0 7 then (many - m.1 3 0 6 + m.1 3 0 7 - 1) / m.1 3 0 7 else 0
def we0 (m : MM) (heard : Int32) : MM := mI m 3 0 16 (if m.1 3 0 16 < heard then heard else m.1 3 0 16)
def weA (m : MM) (many : Int32) : MM := mI m 3 0 14 (if m.1 3 0 13 < 0 then many else if many < m.1 3 0 14 then many else m.1 3 0 14)
def weB (m : MM) (w : Int32) : MM := mI m 3 0 15 (if m.1 3 0 13 < 0 then w else if w < m.1 3 0 15 then w else m.1 3 0 15)
def we3 (m : MM) (ch many sum : Int32) : MM := if m.1 3 0 13 < 0 ∨ ilC m ch many sum then mI (mI (mI m 3 0 13 ch) 3 0 11 many) 3 0 12 sum else m
def we1 (m : MM) (ch many sum heard w : Int32) : MM := if heard < m.1 3 0 9 + m.1 3 0 10 * w then m else we3 (weB (weA m many) w) ch many sum
def weM (m : MM) (ch many sum heard : Int32) : MM := we1 (we0 m heard) ch many sum heard (wkC3 (we0 m heard) many)

--tpl ⟨_, _, _, _, rfl⟩ ||  || weM {m} {1} {2} {3} {4}
def Pre_X3_weigh : PreT := fun _ as => ∃ ch many sum heard : Int32, as = [vR 3 0, vI ch, vI many, vI sum, vI heard]
def Fn_X3_weigh : FnT := fun m as => match as with
  | [_, Sum.inl ch, Sum.inl many, Sum.inl sum, Sum.inl heard] => (none, weM m ch many sum heard)
  | _ => (none, m)
abbrev y_X3_weigh : MethodName := ⟨"GivenUp$Plan", "weigh", "(IIII)V"⟩
def P_X3_weigh : List StpT := [s_aload 0, s_aload 0, s_getI 3 16, s_iload 4, s_callS 2 Pre_J9_max_7cf53 Fn_J9_max_7cf53, s_putI 3 16, s_ic (0), s_istore 5, s_iload 2, s_aload 0, s_getI 3 6, s_icle 28, s_aload 0, s_getI 3 7, s_ifle 28, s_iload 2, s_aload 0, s_getI 3 6, s_isub, s_aload 0, s_getI 3 7, s_iadd, s_ic (1), s_isub, s_aload 0, s_getI 3 7, s_idiv, s_istore 5, s_iload 4, s_aload 0, s_getI 3 9, s_aload 0, s_getI 3 10, s_iload 5, s_imul, s_iadd, s_icge 38, s_vret, s_aload 0, s_aload 0, s_getI 3 13, s_ifge 44, s_iload 2, s_goto 48, s_aload 0, s_getI 3 14, s_iload 2, s_callS 2 Pre_J9_min_7cf53 Fn_J9_min_7cf53, s_putI 3 14, s_aload 0, s_aload 0, s_getI 3 13, s_ifge 55, s_iload 5, s_goto 59, s_aload 0, s_getI 3 15, s_iload 5, s_callS 2 Pre_J9_min_7cf53 Fn_J9_min_7cf53, s_putI 3 15, s_aload 0, s_getI 3 13, s_iflt 69, s_aload 0, s_iload 1, s_iload 2, s_iload 3, s_callV 3 3 Pre_X3_isLess Fn_X3_isLess, s_ifeq 78, s_aload 0, s_iload 1, s_putI 3 13, s_aload 0, s_iload 2, s_putI 3 11, s_aload 0, s_iload 3, s_putI 3 12, s_vret]
def pc_X3_weigh : Nat → Nat := fun i => [0, 1, 2, 5, 7, 10, 13, 14, 16, 17, 18, 21, 24, 25, 28, 31, 32, 33, 36, 37, 38, 41, 42, 43, 44, 45, 48, 49, 51, 53, 54, 57, 58, 61, 63, 64, 65, 68, 69, 70, 71, 74, 77, 78, 81, 82, 85, 86, 89, 92, 93, 94, 97, 100, 102, 105, 106, 109, 111, 114, 117, 118, 121, 124, 125, 126, 127, 128, 131, 134, 135, 136, 139, 140, 141, 144, 145, 146, 149].getD i 0
def dl_X3_weigh : List (Nat × Instr × Nat) := [(0, .aload_n 0, 1), (1, .aload_n 0, 1), (2, .getfield 61, 3), (5, .iload 4, 2), (7, .invokestatic 139, 3), (10, .putfield 61, 3), (13, .iconst 0, 1), (14, .istore 5, 2), (16, .iload_n 2, 1), (17, .aload_n 0, 1), (18, .getfield 31, 3), (21, .if_icmp .le 30, 3), (24, .aload_n 0, 1), (25, .getfield 34, 3), (28, .ifCond .le 23, 3), (31, .iload_n 2, 1), (32, .aload_n 0, 1), (33, .getfield 31, 3), (36, .isub, 1), (37, .aload_n 0, 1), (38, .getfield 34, 3), (41, .iadd, 1), (42, .iconst 1, 1), (43, .isub, 1), (44, .aload_n 0, 1), (45, .getfield 34, 3), (48, .idiv, 1), (49, .istore 5, 2), (51, .iload 4, 2), (53, .aload_n 0, 1), (54, .getfield 40, 3), (57, .aload_n 0, 1), (58, .getfield 43, 3), (61, .iload 5, 2), (63, .imul, 1), (64, .iadd, 1), (65, .if_icmp .ge 4, 3), (68, .return_, 1), (69, .aload_n 0, 1), (70, .aload_n 0, 1), (71, .getfield 52, 3), (74, .ifCond .ge 7, 3), (77, .iload_n 2, 1), (78, .goto 11, 3), (81, .aload_n 0, 1), (82, .getfield 55, 3), (85, .iload_n 2, 1), (86, .invokestatic 80, 3), (89, .putfield 55, 3), (92, .aload_n 0, 1), (93, .aload_n 0, 1), (94, .getfield 52, 3), (97, .ifCond .ge 8, 3), (100, .iload 5, 2), (102, .goto 12, 3), (105, .aload_n 0, 1), (106, .getfield 58, 3), (109, .iload 5, 2), (111, .invokestatic 80, 3), (114, .putfield 58, 3), (117, .aload_n 0, 1), (118, .getfield 52, 3), (121, .ifCond .lt 13, 3), (124, .aload_n 0, 1), (125, .iload_n 1, 1), (126, .iload_n 2, 1), (127, .iload_n 3, 1), (128, .invokevirtual 142, 3), (131, .ifCond .eq 18, 3), (134, .aload_n 0, 1), (135, .iload_n 1, 1), (136, .putfield 52, 3), (139, .aload_n 0, 1), (140, .iload_n 2, 1), (141, .putfield 46, 3), (144, .aload_n 0, 1), (145, .iload_n 3, 1), (146, .putfield 49, 3), (149, .return_, 1)]
theorem dc_X3_weigh : DEC prog_5_method_6_code pc_X3_weigh dl_X3_weigh := DEC_of (by decide +kernel)
abbrev rm_X3_weigh : Room := { frames := 1, cells := 0, slots := 0, locals := 23 }
set_option maxRecDepth 20000 in
theorem sa_X3_weigh (l : Launch) : SNDALL l prog_5_method_6_code "GivenUp$Plan" 6 none rm_X3_weigh P_X3_weigh pc_X3_weigh := fun p e s m args below meth c cells slots Q D dA ad A RR hC hR => by
  have hM := RTX_room (R := rm_X3_weigh) hR
  exact ⟨st_aload_n hC (n := 0) (k := 0) (dc_X3_weigh 0 (0, .aload_n 0, 1) rfl rfl) rfl rfl,
    st_aload_n hC (n := 1) (k := 0) (dc_X3_weigh 1 (1, .aload_n 0, 1) rfl rfl) rfl rfl,
    st_getI hC (n := 2) (k := 3) (j := 16) (dc_X3_weigh 2 (2, .getfield 61, 3) rfl rfl) rfl clf_3 (by decide) rfl wd_333,
    st_iload hC (n := 3) (dc_X3_weigh 3 (5, .iload 4, 2) rfl rfl) rfl,
    st_callS hC (n := 4) (na := 2) (con_J9_max_7cf53 l) (dc_X3_weigh 4 (7, .invokestatic 139, 3) rfl rfl) rfl wd_1185 wd_162 (by decide) ⟨rfl, rfl, by decide, by decide⟩ hM wd_1297 wd_1184,
    st_putI hC (n := 5) (k := 3) (j := 16) (dc_X3_weigh 5 (10, .putfield 61, 3) rfl rfl) rfl clf_3 (by decide) rfl rfl rfl wd_333,
    st_iconst hC (n := 6) (x := 0) (dc_X3_weigh 6 (13, .iconst 0, 1) rfl rfl) rfl (by decide),
    st_istore hC (n := 7) (dc_X3_weigh 7 (14, .istore 5, 2) rfl rfl) rfl (by decide),
    st_iload_n hC (n := 8) (k := 2) (dc_X3_weigh 8 (16, .iload_n 2, 1) rfl rfl) rfl rfl,
    st_aload_n hC (n := 9) (k := 0) (dc_X3_weigh 9 (17, .aload_n 0, 1) rfl rfl) rfl rfl,
    st_getI hC (n := 10) (k := 3) (j := 6) (dc_X3_weigh 10 (18, .getfield 31, 3) rfl rfl) rfl clf_3 (by decide) rfl wd_318,
    st_icle hC (n := 11) (dc_X3_weigh 11 (21, .if_icmp .le 30, 3) rfl rfl) rfl (by decide),
    st_aload_n hC (n := 12) (k := 0) (dc_X3_weigh 12 (24, .aload_n 0, 1) rfl rfl) rfl rfl,
    st_getI hC (n := 13) (k := 3) (j := 7) (dc_X3_weigh 13 (25, .getfield 34, 3) rfl rfl) rfl clf_3 (by decide) rfl wd_319,
    st_ifle hC (n := 14) (dc_X3_weigh 14 (28, .ifCond .le 23, 3) rfl rfl) rfl (by decide),
    st_iload_n hC (n := 15) (k := 2) (dc_X3_weigh 15 (31, .iload_n 2, 1) rfl rfl) rfl rfl,
    st_aload_n hC (n := 16) (k := 0) (dc_X3_weigh 16 (32, .aload_n 0, 1) rfl rfl) rfl rfl,
    st_getI hC (n := 17) (k := 3) (j := 6) (dc_X3_weigh 17 (33, .getfield 31, 3) rfl rfl) rfl clf_3 (by decide) rfl wd_318,
    st_isub hC (n := 18) (dc_X3_weigh 18 (36, .isub, 1) rfl rfl) rfl,
    st_aload_n hC (n := 19) (k := 0) (dc_X3_weigh 19 (37, .aload_n 0, 1) rfl rfl) rfl rfl,
    st_getI hC (n := 20) (k := 3) (j := 7) (dc_X3_weigh 20 (38, .getfield 34, 3) rfl rfl) rfl clf_3 (by decide) rfl wd_319,
    st_iadd hC (n := 21) (dc_X3_weigh 21 (41, .iadd, 1) rfl rfl) rfl,
    st_iconst hC (n := 22) (x := 1) (dc_X3_weigh 22 (42, .iconst 1, 1) rfl rfl) rfl (by decide),
    st_isub hC (n := 23) (dc_X3_weigh 23 (43, .isub, 1) rfl rfl) rfl,
    st_aload_n hC (n := 24) (k := 0) (dc_X3_weigh 24 (44, .aload_n 0, 1) rfl rfl) rfl rfl,
    st_getI hC (n := 25) (k := 3) (j := 7) (dc_X3_weigh 25 (45, .getfield 34, 3) rfl rfl) rfl clf_3 (by decide) rfl wd_319,
    st_idiv hC (n := 26) (dc_X3_weigh 26 (48, .idiv, 1) rfl rfl) rfl,
    st_istore hC (n := 27) (dc_X3_weigh 27 (49, .istore 5, 2) rfl rfl) rfl (by decide),
    st_iload hC (n := 28) (dc_X3_weigh 28 (51, .iload 4, 2) rfl rfl) rfl,
    st_aload_n hC (n := 29) (k := 0) (dc_X3_weigh 29 (53, .aload_n 0, 1) rfl rfl) rfl rfl,
    st_getI hC (n := 30) (k := 3) (j := 9) (dc_X3_weigh 30 (54, .getfield 40, 3) rfl rfl) rfl clf_3 (by decide) rfl wd_321,
    st_aload_n hC (n := 31) (k := 0) (dc_X3_weigh 31 (57, .aload_n 0, 1) rfl rfl) rfl rfl,
    st_getI hC (n := 32) (k := 3) (j := 10) (dc_X3_weigh 32 (58, .getfield 43, 3) rfl rfl) rfl clf_3 (by decide) rfl wd_322,
    st_iload hC (n := 33) (dc_X3_weigh 33 (61, .iload 5, 2) rfl rfl) rfl,
    st_imul hC (n := 34) (dc_X3_weigh 34 (63, .imul, 1) rfl rfl) rfl,
    st_iadd hC (n := 35) (dc_X3_weigh 35 (64, .iadd, 1) rfl rfl) rfl,
    st_icge hC (n := 36) (dc_X3_weigh 36 (65, .if_icmp .ge 4, 3) rfl rfl) rfl (by decide),
    st_vret hC (n := 37) hR (dc_X3_weigh 37 (68, .return_, 1) rfl rfl),
    st_aload_n hC (n := 38) (k := 0) (dc_X3_weigh 38 (69, .aload_n 0, 1) rfl rfl) rfl rfl,
    st_aload_n hC (n := 39) (k := 0) (dc_X3_weigh 39 (70, .aload_n 0, 1) rfl rfl) rfl rfl,
    st_getI hC (n := 40) (k := 3) (j := 13) (dc_X3_weigh 40 (71, .getfield 52, 3) rfl rfl) rfl clf_3 (by decide) rfl wd_327,
    st_ifge hC (n := 41) (dc_X3_weigh 41 (74, .ifCond .ge 7, 3) rfl rfl) rfl (by decide),
    st_iload_n hC (n := 42) (k := 2) (dc_X3_weigh 42 (77, .iload_n 2, 1) rfl rfl) rfl rfl,
    st_goto hC (n := 43) (dc_X3_weigh 43 (78, .goto 11, 3) rfl rfl) (by decide),
    st_aload_n hC (n := 44) (k := 0) (dc_X3_weigh 44 (81, .aload_n 0, 1) rfl rfl) rfl rfl,
    st_getI hC (n := 45) (k := 3) (j := 14) (dc_X3_weigh 45 (82, .getfield 55, 3) rfl rfl) rfl clf_3 (by decide) rfl wd_329,
    st_iload_n hC (n := 46) (k := 2) (dc_X3_weigh 46 (85, .iload_n 2, 1) rfl rfl) rfl rfl,
    st_callS hC (n := 47) (na := 2) (con_J9_min_7cf53 l) (dc_X3_weigh 47 (86, .invokestatic 80, 3) rfl rfl) rfl wd_855 wd_162 (by decide) ⟨rfl, rfl, by decide, by decide⟩ hM wd_1278 wd_854,
    st_putI hC (n := 48) (k := 3) (j := 14) (dc_X3_weigh 48 (89, .putfield 55, 3) rfl rfl) rfl clf_3 (by decide) rfl rfl rfl wd_329,
    st_aload_n hC (n := 49) (k := 0) (dc_X3_weigh 49 (92, .aload_n 0, 1) rfl rfl) rfl rfl,
    st_aload_n hC (n := 50) (k := 0) (dc_X3_weigh 50 (93, .aload_n 0, 1) rfl rfl) rfl rfl,
    st_getI hC (n := 51) (k := 3) (j := 13) (dc_X3_weigh 51 (94, .getfield 52, 3) rfl rfl) rfl clf_3 (by decide) rfl wd_327,
    st_ifge hC (n := 52) (dc_X3_weigh 52 (97, .ifCond .ge 8, 3) rfl rfl) rfl (by decide),
    st_iload hC (n := 53) (dc_X3_weigh 53 (100, .iload 5, 2) rfl rfl) rfl,
    st_goto hC (n := 54) (dc_X3_weigh 54 (102, .goto 12, 3) rfl rfl) (by decide),
    st_aload_n hC (n := 55) (k := 0) (dc_X3_weigh 55 (105, .aload_n 0, 1) rfl rfl) rfl rfl,
    st_getI hC (n := 56) (k := 3) (j := 15) (dc_X3_weigh 56 (106, .getfield 58, 3) rfl rfl) rfl clf_3 (by decide) rfl wd_331,
    st_iload hC (n := 57) (dc_X3_weigh 57 (109, .iload 5, 2) rfl rfl) rfl,
    st_callS hC (n := 58) (na := 2) (con_J9_min_7cf53 l) (dc_X3_weigh 58 (111, .invokestatic 80, 3) rfl rfl) rfl wd_855 wd_162 (by decide) ⟨rfl, rfl, by decide, by decide⟩ hM wd_1278 wd_854,
    st_putI hC (n := 59) (k := 3) (j := 15) (dc_X3_weigh 59 (114, .putfield 58, 3) rfl rfl) rfl clf_3 (by decide) rfl rfl rfl wd_331,
    st_aload_n hC (n := 60) (k := 0) (dc_X3_weigh 60 (117, .aload_n 0, 1) rfl rfl) rfl rfl,
    st_getI hC (n := 61) (k := 3) (j := 13) (dc_X3_weigh 61 (118, .getfield 52, 3) rfl rfl) rfl clf_3 (by decide) rfl wd_327,
    st_iflt hC (n := 62) (dc_X3_weigh 62 (121, .ifCond .lt 13, 3) rfl rfl) rfl (by decide),
    st_aload_n hC (n := 63) (k := 0) (dc_X3_weigh 63 (124, .aload_n 0, 1) rfl rfl) rfl rfl,
    st_iload_n hC (n := 64) (k := 1) (dc_X3_weigh 64 (125, .iload_n 1, 1) rfl rfl) rfl rfl,
    st_iload_n hC (n := 65) (k := 2) (dc_X3_weigh 65 (126, .iload_n 2, 1) rfl rfl) rfl rfl,
    st_iload_n hC (n := 66) (k := 3) (dc_X3_weigh 66 (127, .iload_n 3, 1) rfl rfl) rfl rfl,
    st_callV hC (n := 67) (k := 3) (na := 3) (con_X3_isLess l) (dc_X3_weigh 67 (128, .invokevirtual 142, 3) rfl rfl) rfl wd_1301 wd_151 (by decide) ⟨rfl, rfl, by decide, by decide⟩ hM wd_1298 wd_1300 wd_33 clf_3,
    st_ifeq hC (n := 68) (dc_X3_weigh 68 (131, .ifCond .eq 18, 3) rfl rfl) rfl (by decide),
    st_aload_n hC (n := 69) (k := 0) (dc_X3_weigh 69 (134, .aload_n 0, 1) rfl rfl) rfl rfl,
    st_iload_n hC (n := 70) (k := 1) (dc_X3_weigh 70 (135, .iload_n 1, 1) rfl rfl) rfl rfl,
    st_putI hC (n := 71) (k := 3) (j := 13) (dc_X3_weigh 71 (136, .putfield 52, 3) rfl rfl) rfl clf_3 (by decide) rfl rfl rfl wd_327,
    st_aload_n hC (n := 72) (k := 0) (dc_X3_weigh 72 (139, .aload_n 0, 1) rfl rfl) rfl rfl,
    st_iload_n hC (n := 73) (k := 2) (dc_X3_weigh 73 (140, .iload_n 2, 1) rfl rfl) rfl rfl,
    st_putI hC (n := 74) (k := 3) (j := 11) (dc_X3_weigh 74 (141, .putfield 46, 3) rfl rfl) rfl clf_3 (by decide) rfl rfl rfl wd_323,
    st_aload_n hC (n := 75) (k := 0) (dc_X3_weigh 75 (144, .aload_n 0, 1) rfl rfl) rfl rfl,
    st_iload_n hC (n := 76) (k := 3) (dc_X3_weigh 76 (145, .iload_n 3, 1) rfl rfl) rfl rfl,
    st_putI hC (n := 77) (k := 3) (j := 12) (dc_X3_weigh 77 (146, .putfield 49, 3) rfl rfl) rfl clf_3 (by decide) rfl rfl rfl wd_324,
    st_vret hC (n := 78) hR (dc_X3_weigh 78 (149, .return_, 1) rfl rfl), trivial⟩
set_option maxRecDepth 8000 in
theorem vc_X3_weigh : VC P_X3_weigh 6 Pre_X3_weigh Fn_X3_weigh := by
  rintro mm as hom hoa ⟨ch, many, sum, heard, rfl⟩
  refine ⟨Nat.le_of_ble_eq_true rfl, fun X h => ?_⟩
  replace h : RUN P_X3_weigh (fun r m' => (r, m') = (none, weM mm ch many sum heard)) X := h
  obtain ⟨R, eR⟩ : ∃ R, R = weM mm ch many sum heard := ⟨_, rfl⟩
  rw [← eR] at h
  unfold weM at eR
  have s60 : ∀ M w, R = we3 M ch many sum → X 60 [some (vR 3 0), some (vI (ch)), some (vI (many)), some (vI (sum)), some (vI (heard)), some (vI (w))] [] (M) := by
    intro M w hR
    unfold we3 at hR
    show X 60 [some (vR 3 0), some (vI ch), some (vI many), some (vI sum), some (vI heard), some (vI w)] [] M
    refine h (fun _ => false) 3000 60 _ _ _ ?_
    refine br_c (fun b62 => ?_) (fun b62 => ?_)
    · -- 62: M.1 3 0 13 < 0 taken
      replace b62 : M.1 3 0 13 < 0 := b62
      show ((none : Option MV), mI (mI (mI M 3 0 13 ch) 3 0 11 many) 3 0 12 sum) = _
      rw [hR, if_pos (Or.inl b62)]
    · -- 62: M.1 3 0 13 < 0 on
      replace b62 : ¬ (M.1 3 0 13 < 0) := b62
      refine And.intro (show Pre_X3_isLess M [vR 3 0, vI ch, vI many, vI sum] from ⟨_, _, _, rfl⟩) ?_
      refine br_c (fun b68 => ?_) (fun b68 => ?_)
      · -- 68: bI (ilC M ch many sum) = 0 taken
        replace b68 : ¬ (ilC M ch many sum) := bI_0.mp b68
        show ((none : Option MV), M) = _
        rw [hR, if_neg (fun z => z.elim b62 b68)]
      · -- 68: bI (ilC M ch many sum) = 0 on
        replace b68 : ilC M ch many sum := bI_n0.mp b68
        show ((none : Option MV), mI (mI (mI M 3 0 13 ch) 3 0 11 many) 3 0 12 sum) = _
        rw [hR, if_pos (Or.inr b68)]
  have s59 : ∀ M w v, v = (if M.1 3 0 13 < 0 then w else if w < M.1 3 0 15 then w else M.1 3 0 15) → R = we3 (weB M w) ch many sum → X 59 [some (vR 3 0), some (vI (ch)), some (vI (many)), some (vI (sum)), some (vI (heard)), some (vI (w))] [vI (v), vR 3 0] (M) := by
    intro M w v hv hR
    have z := s60 _ w hR
    unfold weB at z
    rw [← hv] at z
    show X 59 [some (vR 3 0), some (vI ch), some (vI many), some (vI sum), some (vI heard), some (vI w)] [vI v, vR 3 0] M
    refine h (fun i => Nat.beq i 60) 3000 59 _ _ _ ?_
    show X 60 [some (vR 3 0), some (vI ch), some (vI many), some (vI sum), some (vI heard), some (vI w)] [] (mI M 3 0 15 v)
    exact z
  have s49 : ∀ M w, R = we3 (weB M w) ch many sum → X 49 [some (vR 3 0), some (vI (ch)), some (vI (many)), some (vI (sum)), some (vI (heard)), some (vI (w))] [] (M) := by
    intro M w hR
    show X 49 [some (vR 3 0), some (vI ch), some (vI many), some (vI sum), some (vI heard), some (vI w)] [] M
    refine h (fun i => Nat.beq i 59) 3000 49 _ _ _ ?_
    refine br_c (fun b52 => ?_) (fun b52 => ?_)
    · -- 52: 0 ≤ M.1 3 0 13 taken
      replace b52 : 0 ≤ M.1 3 0 13 := b52
      refine And.intro (show Pre_J9_min_7cf53 M [vI (M.1 3 0 15), vI w] from ⟨_, _, rfl⟩) ?_
      show X 59 [some (vR 3 0), some (vI ch), some (vI many), some (vI sum), some (vI heard), some (vI w)] [vI (if w < (M.1 3 0 15) then w else (M.1 3 0 15)), vR 3 0] M
      exact s59 M w _ (if_neg (Int32.not_lt.mpr b52)).symm hR
    · -- 52: 0 ≤ M.1 3 0 13 on
      replace b52 : ¬ (0 ≤ M.1 3 0 13) := b52
      show X 59 [some (vR 3 0), some (vI ch), some (vI many), some (vI sum), some (vI heard), some (vI w)] [vI w, vR 3 0] M
      exact s59 M w _ (if_pos (Int32.not_le.mp b52)).symm hR
  have s48 : ∀ M w v, v = (if M.1 3 0 13 < 0 then many else if many < M.1 3 0 14 then many else M.1 3 0 14) → R = we3 (weB (weA M many) w) ch many sum → X 48 [some (vR 3 0), some (vI (ch)), some (vI (many)), some (vI (sum)), some (vI (heard)), some (vI (w))] [vI (v), vR 3 0] (M) := by
    intro M w v hv hR
    have z := s49 _ w hR
    unfold weA at z
    rw [← hv] at z
    show X 48 [some (vR 3 0), some (vI ch), some (vI many), some (vI sum), some (vI heard), some (vI w)] [vI v, vR 3 0] M
    refine h (fun i => Nat.beq i 49) 3000 48 _ _ _ ?_
    show X 49 [some (vR 3 0), some (vI ch), some (vI many), some (vI sum), some (vI heard), some (vI w)] [] (mI M 3 0 14 v)
    exact z
  have s28 : ∀ M w, R = we1 M ch many sum heard w → X 28 [some (vR 3 0), some (vI (ch)), some (vI (many)), some (vI (sum)), some (vI (heard)), some (vI (w))] [] (M) := by
    intro M w hR
    unfold we1 at hR
    show X 28 [some (vR 3 0), some (vI ch), some (vI many), some (vI sum), some (vI heard), some (vI w)] [] M
    refine h (fun i => Nat.beq i 48) 3000 28 _ _ _ ?_
    refine br_c (fun b36 => ?_) (fun b36 => ?_)
    · -- 36: (M.1 3 0 9) + ((M.1 3 0 10) * w) ≤ heard taken
      replace b36 : (M.1 3 0 9) + ((M.1 3 0 10) * w) ≤ heard := b36
      refine br_c (fun b41 => ?_) (fun b41 => ?_)
      · -- 41: 0 ≤ M.1 3 0 13 taken
        replace b41 : 0 ≤ M.1 3 0 13 := b41
        refine And.intro (show Pre_J9_min_7cf53 M [vI (M.1 3 0 14), vI many] from ⟨_, _, rfl⟩) ?_
        show X 48 [some (vR 3 0), some (vI ch), some (vI many), some (vI sum), some (vI heard), some (vI w)] [vI (if many < (M.1 3 0 14) then many else (M.1 3 0 14)), vR 3 0] M
        rw [if_neg (Int32.not_lt.mpr b36)] at hR
        exact s48 M w _ (if_neg (Int32.not_lt.mpr b41)).symm hR
      · -- 41: 0 ≤ M.1 3 0 13 on
        replace b41 : ¬ (0 ≤ M.1 3 0 13) := b41
        show X 48 [some (vR 3 0), some (vI ch), some (vI many), some (vI sum), some (vI heard), some (vI w)] [vI many, vR 3 0] M
        rw [if_neg (Int32.not_lt.mpr b36)] at hR
        exact s48 M w _ (if_pos (Int32.not_le.mp b41)).symm hR
    · -- 36: (M.1 3 0 9) + ((M.1 3 0 10) * w) ≤ heard on
      replace b36 : ¬ ((M.1 3 0 9) + ((M.1 3 0 10) * w) ≤ heard) := b36
      show ((none : Option MV), M) = _
      rw [hR, if_pos (Int32.not_le.mp b36)]
  have s6 : ∀ M, R = we1 M ch many sum heard (wkC3 M many) → X 6 [some (vR 3 0), some (vI (ch)), some (vI (many)), some (vI (sum)), some (vI (heard)), none] [] (M) := by
    intro M hR
    unfold wkC3 at hR
    show X 6 [some (vR 3 0), some (vI ch), some (vI many), some (vI sum), some (vI heard), none] [] M
    refine h (fun i => Nat.beq i 28) 3000 6 _ _ _ ?_
    refine br_c (fun b11 => ?_) (fun b11 => ?_)
    · -- 11: many ≤ M.1 3 0 6 taken
      replace b11 : many ≤ M.1 3 0 6 := b11
      show X 28 [some (vR 3 0), some (vI ch), some (vI many), some (vI sum), some (vI heard), some (vI 0)] [] M
      rw [if_neg (fun z => Int32.not_lt.mpr b11 z.1)] at hR
      exact s28 M _ hR
    · -- 11: many ≤ M.1 3 0 6 on
      replace b11 : ¬ (many ≤ M.1 3 0 6) := b11
      refine br_c (fun b14 => ?_) (fun b14 => ?_)
      · -- 14: M.1 3 0 7 ≤ 0 taken
        replace b14 : M.1 3 0 7 ≤ 0 := b14
        show X 28 [some (vR 3 0), some (vI ch), some (vI many), some (vI sum), some (vI heard), some (vI 0)] [] M
        rw [if_neg (fun z => Int32.not_lt.mpr b14 z.2)] at hR
        exact s28 M _ hR
      · -- 14: M.1 3 0 7 ≤ 0 on
        replace b14 : ¬ (M.1 3 0 7 ≤ 0) := b14
        refine And.intro (fun z => by rw [z] at b14; exact b14 (Int32.le_refl _)) ?_
        show X 28 [some (vR 3 0), some (vI ch), some (vI many), some (vI sum), some (vI heard), some (vI ((((many - (M.1 3 0 6)) + (M.1 3 0 7)) - 1) / (M.1 3 0 7)))] [] M
        rw [if_pos ⟨Int32.not_le.mp b11, Int32.not_le.mp b14⟩] at hR
        exact s28 M _ hR
  have z := s6 _ eR
  unfold we0 at z
  show X 0 [some (vR 3 0), some (vI ch), some (vI many), some (vI sum), some (vI heard), none] [] mm
  refine h (fun i => Nat.beq i 6) 3000 0 _ _ _ ?_
  refine And.intro (show Pre_J9_max_7cf53 mm [vI (mm.1 3 0 16), vI heard] from ⟨_, _, rfl⟩) ?_
  show X 6 [some (vR 3 0), some (vI ch), some (vI many), some (vI sum), some (vI heard), none] [] (mI mm 3 0 16 (if (mm.1 3 0 16) < heard then heard else (mm.1 3 0 16)))
  exact z
theorem con_X3_weigh (l : Launch) : CON l y_X3_weigh prog_5_method_6_code 6 none rm_X3_weigh Pre_X3_weigh Fn_X3_weigh := CON_of (by decide) rfl rfl (sa_X3_weigh l) vc_X3_weigh
