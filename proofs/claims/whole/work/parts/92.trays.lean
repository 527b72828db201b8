/-! PART 92: the class: status, trays, texts that are fed, faults -/

noncomputable section
def Pre_X11_status : PreT := fun _ as => as = [vR 11 0]
def Fn_X11_status : FnT := fun m _ => (some (vI (m.1 11 0 15)), m)
abbrev y_X11_status : MethodName := ⟨"GivenUp", "status", "()I"⟩
def P_X11_status : List StpT := [s_aload 0, s_getI 11 15, s_iret]
def pc_X11_status : Nat → Nat := fun i => [0, 1, 4].getD i 0
def dl_X11_status : List (Nat × Instr × Nat) := [(0, .aload_n 0, 1), (1, .getfield 98, 3), (4, .ireturn, 1)]
theorem dc_X11_status : DEC prog_1_method_2_code pc_X11_status dl_X11_status := DEC_of (by decide +kernel)
abbrev rm_X11_status : Room := { frames := 0, cells := 0, slots := 0, locals := 0 }
set_option maxRecDepth 20000 in
theorem sa_X11_status (l : Launch) : SNDALL l prog_1_method_2_code "GivenUp" 1 (some .int) rm_X11_status P_X11_status pc_X11_status := fun p e s m args below meth c cells slots Q D dA ad A RR hC hR => by
  have hM := RTX_room (R := rm_X11_status) hR
  exact ⟨st_aload_n hC (n := 0) (k := 0) (dc_X11_status 0 (0, .aload_n 0, 1) rfl rfl) rfl rfl,
    st_getI hC (n := 1) (k := 11) (j := 15) (dc_X11_status 1 (1, .getfield 98, 3) rfl rfl) rfl clf_11 (by decide) rfl wd_726,
    st_iret hC (n := 2) hR (dc_X11_status 2 (4, .ireturn, 1) rfl rfl), trivial⟩
set_option maxRecDepth 8000 in
theorem vc_X11_status : VC P_X11_status 1 Pre_X11_status Fn_X11_status := by
  rintro mm as hom hoa rfl
  refine ⟨Nat.le_of_ble_eq_true rfl, fun X h => ?_⟩
  show X 0 [some (vR 11 0)] [] mm
  refine h (fun _ => false) 3000 0 _ _ _ ?_
  show ((some (vI (mm.1 11 0 15)) : Option MV), mm) = _
  exact rfl
theorem con_X11_status (l : Launch) : CON l y_X11_status prog_1_method_2_code 1 (some .int) rm_X11_status Pre_X11_status Fn_X11_status := CON_of (by decide) rfl rfl (sa_X11_status l) vc_X11_status
def Pre_X11_top : PreT := fun _ as => as = [vR 11 0]
def Fn_X11_top : FnT := fun m _ => (some (vL (m.2.1 11 0 16)), m)
abbrev y_X11_top : MethodName := ⟨"GivenUp", "top", "()J"⟩
def P_X11_top : List StpT := [s_aload 0, s_getL 11 16, s_lret]
def pc_X11_top : Nat → Nat := fun i => [0, 1, 4].getD i 0
def dl_X11_top : List (Nat × Instr × Nat) := [(0, .aload_n 0, 1), (1, .getfield 101, 3), (4, .lreturn, 1)]
theorem dc_X11_top : DEC prog_1_method_3_code pc_X11_top dl_X11_top := DEC_of (by decide +kernel)
abbrev rm_X11_top : Room := { frames := 0, cells := 0, slots := 0, locals := 0 }
set_option maxRecDepth 20000 in
theorem sa_X11_top (l : Launch) : SNDALL l prog_1_method_3_code "GivenUp" 1 (some .long) rm_X11_top P_X11_top pc_X11_top := fun p e s m args below meth c cells slots Q D dA ad A RR hC hR => by
  have hM := RTX_room (R := rm_X11_top) hR
  exact ⟨st_aload_n hC (n := 0) (k := 0) (dc_X11_top 0 (0, .aload_n 0, 1) rfl rfl) rfl rfl,
    st_getL hC (n := 1) (k := 11) (j := 16) (dc_X11_top 1 (1, .getfield 101, 3) rfl rfl) rfl clf_11 (by decide) rfl wd_727,
    st_lret hC (n := 2) hR (dc_X11_top 2 (4, .lreturn, 1) rfl rfl), trivial⟩
set_option maxRecDepth 8000 in
theorem vc_X11_top : VC P_X11_top 1 Pre_X11_top Fn_X11_top := by
  rintro mm as hom hoa rfl
  refine ⟨Nat.le_of_ble_eq_true rfl, fun X h => ?_⟩
  show X 0 [some (vR 11 0)] [] mm
  refine h (fun _ => false) 3000 0 _ _ _ ?_
  show ((some (vL (mm.2.1 11 0 16)) : Option MV), mm) = _
  exact rfl
theorem con_X11_top (l : Launch) : CON l y_X11_top prog_1_method_3_code 1 (some .long) rm_X11_top Pre_X11_top Fn_X11_top := CON_of (by decide) rfl rfl (sa_X11_top l) vc_X11_top
def Pre_X11_bottom : PreT := fun _ as => as = [vR 11 0]
def Fn_X11_bottom : FnT := fun m _ => (some (vL (m.2.1 11 0 17)), m)
abbrev y_X11_bottom : MethodName := ⟨"GivenUp", "bottom", "()J"⟩
def P_X11_bottom : List StpT := [s_aload 0, s_getL 11 17, s_lret]
def pc_X11_bottom : Nat → Nat := fun i => [0, 1, 4].getD i 0
def dl_X11_bottom : List (Nat × Instr × Nat) := [(0, .aload_n 0, 1), (1, .getfield 105, 3), (4, .lreturn, 1)]
theorem dc_X11_bottom : DEC prog_1_method_4_code pc_X11_bottom dl_X11_bottom := DEC_of (by decide +kernel)
abbrev rm_X11_bottom : Room := { frames := 0, cells := 0, slots := 0, locals := 0 }
set_option maxRecDepth 20000 in
theorem sa_X11_bottom (l : Launch) : SNDALL l prog_1_method_4_code "GivenUp" 1 (some .long) rm_X11_bottom P_X11_bottom pc_X11_bottom := fun p e s m args below meth c cells slots Q D dA ad A RR hC hR => by
  have hM := RTX_room (R := rm_X11_bottom) hR
  exact ⟨st_aload_n hC (n := 0) (k := 0) (dc_X11_bottom 0 (0, .aload_n 0, 1) rfl rfl) rfl rfl,
    st_getL hC (n := 1) (k := 11) (j := 17) (dc_X11_bottom 1 (1, .getfield 105, 3) rfl rfl) rfl clf_11 (by decide) rfl wd_728,
    st_lret hC (n := 2) hR (dc_X11_bottom 2 (4, .lreturn, 1) rfl rfl), trivial⟩
set_option maxRecDepth 8000 in
theorem vc_X11_bottom : VC P_X11_bottom 1 Pre_X11_bottom Fn_X11_bottom := by
  rintro mm as hom hoa rfl
  refine ⟨Nat.le_of_ble_eq_true rfl, fun X h => ?_⟩
  show X 0 [some (vR 11 0)] [] mm
  refine h (fun _ => false) 3000 0 _ _ _ ?_
  show ((some (vL (mm.2.1 11 0 17)) : Option MV), mm) = _
  exact rfl
theorem con_X11_bottom (l : Launch) : CON l y_X11_bottom prog_1_method_4_code 1 (some .long) rm_X11_bottom Pre_X11_bottom Fn_X11_bottom := CON_of (by decide) rfl rfl (sa_X11_bottom l) vc_X11_bottom
def cl_fault (m : MM) (x : Int32) : Option MV × MM := if x = 0 then (some (vI (m.1 11 0 18)), m) else if x = 1 then (some (vI (m.1 11 0 19)), m) else (some (vI (-1)), m)

def Pre_X11_fault : PreT := fun _ as => ∃ x : Int32, as = [vR 11 0, vI x]
def Fn_X11_fault : FnT := fun m as => match as with
  | [_, Sum.inl x] => cl_fault m x
  | _ => (none, m)
abbrev y_X11_fault : MethodName := ⟨"GivenUp", "fault", "(I)I"⟩
def P_X11_fault : List StpT := [s_iload 1, s_ifne 5, s_aload 0, s_getI 11 18, s_iret, s_iload 1, s_ic (1), s_icne 11, s_aload 0, s_getI 11 19, s_goto 12, s_ic (-1), s_iret]
def pc_X11_fault : Nat → Nat := fun i => [0, 1, 4, 5, 8, 9, 10, 11, 14, 15, 18, 21, 22].getD i 0
def dl_X11_fault : List (Nat × Instr × Nat) := [(0, .iload_n 1, 1), (1, .ifCond .ne 8, 3), (4, .aload_n 0, 1), (5, .getfield 108, 3), (8, .ireturn, 1), (9, .iload_n 1, 1), (10, .iconst 1, 1), (11, .if_icmp .ne 10, 3), (14, .aload_n 0, 1), (15, .getfield 111, 3), (18, .goto 4, 3), (21, .iconst (-1), 1), (22, .ireturn, 1)]
theorem dc_X11_fault : DEC prog_1_method_12_code pc_X11_fault dl_X11_fault := DEC_of (by decide +kernel)
abbrev rm_X11_fault : Room := { frames := 0, cells := 0, slots := 0, locals := 0 }
set_option maxRecDepth 20000 in
theorem sa_X11_fault (l : Launch) : SNDALL l prog_1_method_12_code "GivenUp" 2 (some .int) rm_X11_fault P_X11_fault pc_X11_fault := fun p e s m args below meth c cells slots Q D dA ad A RR hC hR => by
  have hM := RTX_room (R := rm_X11_fault) hR
  exact ⟨st_iload_n hC (n := 0) (k := 1) (dc_X11_fault 0 (0, .iload_n 1, 1) rfl rfl) rfl rfl,
    st_ifne hC (n := 1) (dc_X11_fault 1 (1, .ifCond .ne 8, 3) rfl rfl) rfl (by decide),
    st_aload_n hC (n := 2) (k := 0) (dc_X11_fault 2 (4, .aload_n 0, 1) rfl rfl) rfl rfl,
    st_getI hC (n := 3) (k := 11) (j := 18) (dc_X11_fault 3 (5, .getfield 108, 3) rfl rfl) rfl clf_11 (by decide) rfl wd_729,
    st_iret hC (n := 4) hR (dc_X11_fault 4 (8, .ireturn, 1) rfl rfl),
    st_iload_n hC (n := 5) (k := 1) (dc_X11_fault 5 (9, .iload_n 1, 1) rfl rfl) rfl rfl,
    st_iconst hC (n := 6) (x := 1) (dc_X11_fault 6 (10, .iconst 1, 1) rfl rfl) rfl (by decide),
    st_icne hC (n := 7) (dc_X11_fault 7 (11, .if_icmp .ne 10, 3) rfl rfl) rfl (by decide),
    st_aload_n hC (n := 8) (k := 0) (dc_X11_fault 8 (14, .aload_n 0, 1) rfl rfl) rfl rfl,
    st_getI hC (n := 9) (k := 11) (j := 19) (dc_X11_fault 9 (15, .getfield 111, 3) rfl rfl) rfl clf_11 (by decide) rfl wd_730,
    st_goto hC (n := 10) (dc_X11_fault 10 (18, .goto 4, 3) rfl rfl) (by decide),
    st_iconst hC (n := 11) (x := (-1)) (dc_X11_fault 11 (21, .iconst (-1), 1) rfl rfl) rfl (by decide),
    st_iret hC (n := 12) hR (dc_X11_fault 12 (22, .ireturn, 1) rfl rfl), trivial⟩
set_option maxRecDepth 8000 in
theorem vc_X11_fault : VC P_X11_fault 2 Pre_X11_fault Fn_X11_fault := by
  rintro mm as hom hoa ⟨x, rfl⟩
  refine ⟨Nat.le_of_ble_eq_true rfl, fun X h => ?_⟩
  show X 0 [some (vR 11 0), some (vI x)] [] mm
  refine h (fun _ => false) 3000 0 _ _ _ ?_
  refine brn_c (fun b1 => ?_) (fun b1 => ?_)
  · -- 1: x = 0 taken
    replace b1 : ¬ (x = 0) := b1
    refine brn_c (fun b7 => ?_) (fun b7 => ?_)
    · -- 7: x = 1 taken
      replace b7 : ¬ (x = 1) := b7
      show ((some (vI (-1)) : Option MV), mm) = _
      show _ = cl_fault mm x
      unfold cl_fault
      (try simp only [if_neg b1, if_neg b7])
      all_goals exact rfl
    · -- 7: x = 1 on
      replace b7 : x = 1 := b7
      show ((some (vI (mm.1 11 0 19)) : Option MV), mm) = _
      show _ = cl_fault mm x
      unfold cl_fault
      (try simp only [if_neg b1, if_pos b7])
      all_goals exact rfl
  · -- 1: x = 0 on
    replace b1 : x = 0 := b1
    show ((some (vI (mm.1 11 0 18)) : Option MV), mm) = _
    show _ = cl_fault mm x
    unfold cl_fault
    (try simp only [if_pos b1])
    all_goals exact rfl
theorem con_X11_fault (l : Launch) : CON l y_X11_fault prog_1_method_12_code 2 (some .int) rm_X11_fault Pre_X11_fault Fn_X11_fault := CON_of (by decide) rfl rfl (sa_X11_fault l) vc_X11_fault
def kfM (m : MM) : MM := mI (mI m 11 0 18 (m.1 4 0 9)) 11 0 19 (if m.1 4 0 9 = 0 then -1 else m.1 4 0 10)

--tpl rfl ||  || kfM {m}
def Pre_X11_keepFault : PreT := fun _ as => as = [vR 11 0]
def Fn_X11_keepFault : FnT := fun m _ => (none, kfM m)
abbrev y_X11_keepFault : MethodName := ⟨"GivenUp", "keepFault", "()V"⟩
def P_X11_keepFault : List StpT := [s_aload 0, s_aload 0, s_getC 11 1 4 0, s_getI 4 9, s_putI 11 18, s_aload 0, s_aload 0, s_getC 11 1 4 0, s_getI 4 9, s_ifne 12, s_ic (-1), s_goto 15, s_aload 0, s_getC 11 1 4 0, s_getI 4 10, s_putI 11 19, s_vret]
def pc_X11_keepFault : Nat → Nat := fun i => [0, 1, 2, 5, 8, 11, 12, 13, 16, 19, 22, 23, 26, 27, 30, 33, 36].getD i 0
def dl_X11_keepFault : List (Nat × Instr × Nat) := [(0, .aload_n 0, 1), (1, .aload_n 0, 1), (2, .getfield 18, 3), (5, .getfield 455, 3), (8, .putfield 108, 3), (11, .aload_n 0, 1), (12, .aload_n 0, 1), (13, .getfield 18, 3), (16, .getfield 455, 3), (19, .ifCond .ne 7, 3), (22, .iconst (-1), 1), (23, .goto 10, 3), (26, .aload_n 0, 1), (27, .getfield 18, 3), (30, .getfield 458, 3), (33, .putfield 111, 3), (36, .return_, 1)]
theorem dc_X11_keepFault : DEC prog_1_method_78_code pc_X11_keepFault dl_X11_keepFault := DEC_of (by decide +kernel)
abbrev rm_X11_keepFault : Room := { frames := 0, cells := 0, slots := 0, locals := 0 }
set_option maxRecDepth 20000 in
theorem sa_X11_keepFault (l : Launch) : SNDALL l prog_1_method_78_code "GivenUp" 1 none rm_X11_keepFault P_X11_keepFault pc_X11_keepFault := fun p e s m args below meth c cells slots Q D dA ad A RR hC hR => by
  have hM := RTX_room (R := rm_X11_keepFault) hR
  exact ⟨st_aload_n hC (n := 0) (k := 0) (dc_X11_keepFault 0 (0, .aload_n 0, 1) rfl rfl) rfl rfl,
    st_aload_n hC (n := 1) (k := 0) (dc_X11_keepFault 1 (1, .aload_n 0, 1) rfl rfl) rfl rfl,
    st_getC hC (n := 2) (k := 11) (j := 1) (dc_X11_keepFault 2 (2, .getfield 18, 3) rfl rfl) rfl clf_11 (by decide) rfl (by decide) wd_712,
    st_getI hC (n := 3) (k := 4) (j := 9) (dc_X11_keepFault 3 (5, .getfield 455, 3) rfl rfl) rfl clf_4 (by decide) rfl wd_243,
    st_putI hC (n := 4) (k := 11) (j := 18) (dc_X11_keepFault 4 (8, .putfield 108, 3) rfl rfl) rfl clf_11 (by decide) rfl rfl rfl wd_729,
    st_aload_n hC (n := 5) (k := 0) (dc_X11_keepFault 5 (11, .aload_n 0, 1) rfl rfl) rfl rfl,
    st_aload_n hC (n := 6) (k := 0) (dc_X11_keepFault 6 (12, .aload_n 0, 1) rfl rfl) rfl rfl,
    st_getC hC (n := 7) (k := 11) (j := 1) (dc_X11_keepFault 7 (13, .getfield 18, 3) rfl rfl) rfl clf_11 (by decide) rfl (by decide) wd_712,
    st_getI hC (n := 8) (k := 4) (j := 9) (dc_X11_keepFault 8 (16, .getfield 455, 3) rfl rfl) rfl clf_4 (by decide) rfl wd_243,
    st_ifne hC (n := 9) (dc_X11_keepFault 9 (19, .ifCond .ne 7, 3) rfl rfl) rfl (by decide),
    st_iconst hC (n := 10) (x := (-1)) (dc_X11_keepFault 10 (22, .iconst (-1), 1) rfl rfl) rfl (by decide),
    st_goto hC (n := 11) (dc_X11_keepFault 11 (23, .goto 10, 3) rfl rfl) (by decide),
    st_aload_n hC (n := 12) (k := 0) (dc_X11_keepFault 12 (26, .aload_n 0, 1) rfl rfl) rfl rfl,
    st_getC hC (n := 13) (k := 11) (j := 1) (dc_X11_keepFault 13 (27, .getfield 18, 3) rfl rfl) rfl clf_11 (by decide) rfl (by decide) wd_712,
    st_getI hC (n := 14) (k := 4) (j := 10) (dc_X11_keepFault 14 (30, .getfield 458, 3) rfl rfl) rfl clf_4 (by decide) rfl wd_245,
    st_putI hC (n := 15) (k := 11) (j := 19) (dc_X11_keepFault 15 (33, .putfield 111, 3) rfl rfl) rfl clf_11 (by decide) rfl rfl rfl wd_730,
    st_vret hC (n := 16) hR (dc_X11_keepFault 16 (36, .return_, 1) rfl rfl), trivial⟩
set_option maxRecDepth 8000 in
theorem vc_X11_keepFault : VC P_X11_keepFault 1 Pre_X11_keepFault Fn_X11_keepFault := by
  rintro mm as hom hoa rfl
  refine ⟨Nat.le_of_ble_eq_true rfl, fun X h => ?_⟩
  replace h : RUN P_X11_keepFault (fun r m' => (r, m') = (none, kfM mm)) X := h
  unfold kfM at h
  show X 0 [some (vR 11 0)] [] mm
  refine h (fun _ => false) 3000 0 _ _ _ ?_
  refine brn_c (fun b9 => ?_) (fun b9 => ?_)
  · -- 9: mm.1 4 0 9 = 0 taken
    replace b9 : ¬ (mm.1 4 0 9 = 0) := b9
    show ((none : Option MV), mI (mI mm 11 0 18 (mm.1 4 0 9)) 11 0 19 (mm.1 4 0 10)) = _
    rw [if_neg b9]
  · -- 9: mm.1 4 0 9 = 0 on
    replace b9 : mm.1 4 0 9 = 0 := b9
    show ((none : Option MV), mI (mI mm 11 0 18 (mm.1 4 0 9)) 11 0 19 (-1)) = _
    rw [if_pos b9]
theorem con_X11_keepFault (l : Launch) : CON l y_X11_keepFault prog_1_method_78_code 1 none rm_X11_keepFault Pre_X11_keepFault Fn_X11_keepFault := CON_of (by decide) rfl rfl (sa_X11_keepFault l) vc_X11_keepFault
/-- the rows of the trays are of a length -/
def TRc (m : MM) : Prop := ∀ i, i < 4 → ∃ q, q ≤ 60 ∧ m.1 5 i 3 = nI q
def cl_ts (m : MM) (x y : Int32) : Int32 := if x < 0 ∨ 4 ≤ x then 1 else if m.1 5 x.toNatClampNeg 1 = 0 then 2 else if y < 0 ∨ m.1 5 x.toNatClampNeg 3 ≤ y then 3 else 0
theorem ts_in {m : MM} {x y : Int32} (hT : TRc m) (h : cl_ts m x y = 0) : ∃ i j, i < 4 ∧ x = nI i ∧ j < 60 ∧ y = nI j := by
  unfold cl_ts at h
  split at h
  · exact absurd h (by decide)
  · rename_i c
    split at h
    · exact absurd h (by decide)
    · split at h
      · exact absurd h (by decide)
      · rename_i c3
        obtain ⟨i, hi, ex⟩ := ou_in (A := 4) (n := 4) rfl (by decide) c
        obtain ⟨q, hq, eq⟩ := hT i hi
        rw [ex, nI_clamp (show i < 2 ^ 31 by omega)] at c3
        obtain ⟨j, hj, ey⟩ := ou_in eq (by omega) c3
        exact ⟨i, j, hi, ex, by omega, ey⟩

--tpl ⟨_, _, rfl⟩ || cl_ts {m} {1} {2}
def Pre_X11_trayStatus : PreT := fun _ as => ∃ x y : Int32, as = [vR 11 0, vI x, vI y]
def Fn_X11_trayStatus : FnT := fun m as => match as with
  | [_, Sum.inl x, Sum.inl y] => (some (vI (cl_ts m x y)), m)
  | _ => (none, m)
abbrev y_X11_trayStatus : MethodName := ⟨"GivenUp", "trayStatus", "(II)I"⟩
def P_X11_trayStatus : List StpT := [s_iload 1, s_ic (4), s_callS 2 Pre_X11_isOut Fn_X11_isOut, s_ifeq 6, s_ic (1), s_iret, s_aload 0, s_getR 11 0 50, s_iload 1, s_aald4 5 0, s_getI 5 1, s_ifne 14, s_ic (2), s_iret, s_iload 2, s_aload 0, s_getR 11 0 50, s_iload 1, s_aald4 5 0, s_getI 5 3, s_callS 2 Pre_X11_isOut Fn_X11_isOut, s_ifeq 24, s_ic (3), s_goto 25, s_ic (0), s_iret]
def pc_X11_trayStatus : Nat → Nat := fun i => [0, 1, 2, 5, 8, 9, 10, 11, 14, 15, 16, 19, 22, 23, 24, 25, 26, 29, 30, 31, 34, 37, 40, 41, 44, 45].getD i 0
def dl_X11_trayStatus : List (Nat × Instr × Nat) := [(0, .iload_n 1, 1), (1, .iconst 4, 1), (2, .invokestatic 115, 3), (5, .ifCond .eq 5, 3), (8, .iconst 1, 1), (9, .ireturn, 1), (10, .aload_n 0, 1), (11, .getfield 11, 3), (14, .iload_n 1, 1), (15, .aaload, 1), (16, .getfield 146, 3), (19, .ifCond .ne 5, 3), (22, .iconst 2, 1), (23, .ireturn, 1), (24, .iload_n 2, 1), (25, .aload_n 0, 1), (26, .getfield 11, 3), (29, .iload_n 1, 1), (30, .aaload, 1), (31, .getfield 152, 3), (34, .invokestatic 115, 3), (37, .ifCond .eq 7, 3), (40, .iconst 3, 1), (41, .goto 4, 3), (44, .iconst 0, 1), (45, .ireturn, 1)]
theorem dc_X11_trayStatus : DEC prog_1_method_73_code pc_X11_trayStatus dl_X11_trayStatus := DEC_of (by decide +kernel)
abbrev rm_X11_trayStatus : Room := { frames := 1, cells := 0, slots := 0, locals := 21 }
set_option maxRecDepth 20000 in
theorem sa_X11_trayStatus (l : Launch) : SNDALL l prog_1_method_73_code "GivenUp" 3 (some .int) rm_X11_trayStatus P_X11_trayStatus pc_X11_trayStatus := fun p e s m args below meth c cells slots Q D dA ad A RR hC hR => by
  have hM := RTX_room (R := rm_X11_trayStatus) hR
  exact ⟨st_iload_n hC (n := 0) (k := 1) (dc_X11_trayStatus 0 (0, .iload_n 1, 1) rfl rfl) rfl rfl,
    st_iconst hC (n := 1) (x := 4) (dc_X11_trayStatus 1 (1, .iconst 4, 1) rfl rfl) rfl (by decide),
    st_callS hC (n := 2) (na := 2) (con_X11_isOut l) (dc_X11_trayStatus 2 (2, .invokestatic 115, 3) rfl rfl) rfl wd_790 wd_143 (by decide) ⟨rfl, rfl, by decide, by decide⟩ hM wd_788 wd_789,
    st_ifeq hC (n := 3) (dc_X11_trayStatus 3 (5, .ifCond .eq 5, 3) rfl rfl) rfl (by decide),
    st_iconst hC (n := 4) (x := 1) (dc_X11_trayStatus 4 (8, .iconst 1, 1) rfl rfl) rfl (by decide),
    st_iret hC (n := 5) hR (dc_X11_trayStatus 5 (9, .ireturn, 1) rfl rfl),
    st_aload_n hC (n := 6) (k := 0) (dc_X11_trayStatus 6 (10, .aload_n 0, 1) rfl rfl) rfl rfl,
    st_getR hC (n := 7) (k := 11) (j := 0) (dc_X11_trayStatus 7 (11, .getfield 11, 3) rfl rfl) rfl clf_11 (by decide) rfl (by decide) wd_711,
    st_iload_n hC (n := 8) (k := 1) (dc_X11_trayStatus 8 (14, .iload_n 1, 1) rfl rfl) rfl rfl,
    st_aald4 hC (n := 9) (dc_X11_trayStatus 9 (15, .aaload, 1) rfl rfl) rfl aald4_ok,
    st_getI hC (n := 10) (k := 5) (j := 1) (dc_X11_trayStatus 10 (16, .getfield 146, 3) rfl rfl) rfl clf_5 (by decide) rfl wd_697,
    st_ifne hC (n := 11) (dc_X11_trayStatus 11 (19, .ifCond .ne 5, 3) rfl rfl) rfl (by decide),
    st_iconst hC (n := 12) (x := 2) (dc_X11_trayStatus 12 (22, .iconst 2, 1) rfl rfl) rfl (by decide),
    st_iret hC (n := 13) hR (dc_X11_trayStatus 13 (23, .ireturn, 1) rfl rfl),
    st_iload_n hC (n := 14) (k := 2) (dc_X11_trayStatus 14 (24, .iload_n 2, 1) rfl rfl) rfl rfl,
    st_aload_n hC (n := 15) (k := 0) (dc_X11_trayStatus 15 (25, .aload_n 0, 1) rfl rfl) rfl rfl,
    st_getR hC (n := 16) (k := 11) (j := 0) (dc_X11_trayStatus 16 (26, .getfield 11, 3) rfl rfl) rfl clf_11 (by decide) rfl (by decide) wd_711,
    st_iload_n hC (n := 17) (k := 1) (dc_X11_trayStatus 17 (29, .iload_n 1, 1) rfl rfl) rfl rfl,
    st_aald4 hC (n := 18) (dc_X11_trayStatus 18 (30, .aaload, 1) rfl rfl) rfl aald4_ok,
    st_getI hC (n := 19) (k := 5) (j := 3) (dc_X11_trayStatus 19 (31, .getfield 152, 3) rfl rfl) rfl clf_5 (by decide) rfl wd_701,
    st_callS hC (n := 20) (na := 2) (con_X11_isOut l) (dc_X11_trayStatus 20 (34, .invokestatic 115, 3) rfl rfl) rfl wd_790 wd_143 (by decide) ⟨rfl, rfl, by decide, by decide⟩ hM wd_788 wd_789,
    st_ifeq hC (n := 21) (dc_X11_trayStatus 21 (37, .ifCond .eq 7, 3) rfl rfl) rfl (by decide),
    st_iconst hC (n := 22) (x := 3) (dc_X11_trayStatus 22 (40, .iconst 3, 1) rfl rfl) rfl (by decide),
    st_goto hC (n := 23) (dc_X11_trayStatus 23 (41, .goto 4, 3) rfl rfl) (by decide),
    st_iconst hC (n := 24) (x := 0) (dc_X11_trayStatus 24 (44, .iconst 0, 1) rfl rfl) rfl (by decide),
    st_iret hC (n := 25) hR (dc_X11_trayStatus 25 (45, .ireturn, 1) rfl rfl), trivial⟩
set_option maxRecDepth 8000 in
theorem vc_X11_trayStatus : VC P_X11_trayStatus 3 Pre_X11_trayStatus Fn_X11_trayStatus := by
  rintro mm as hom hoa ⟨x, y, rfl⟩
  refine ⟨Nat.le_of_ble_eq_true rfl, fun X h => ?_⟩
  replace h : RUN P_X11_trayStatus (fun r m' => (r, m') = (some (vI (cl_ts mm x y)), mm)) X := h
  unfold cl_ts at h
  have z0 : ∀ q : Nat, 0 + q = q := Nat.zero_add
  show X 0 [some (vR 11 0), some (vI x), some (vI y)] [] mm
  refine h (fun _ => false) 3000 0 _ _ _ ?_
  refine And.intro (show Pre_X11_isOut mm [vI x, vI 4] from ⟨_, _, rfl⟩) ?_
  refine br_c (fun b3 => ?_) (fun b3 => ?_)
  · -- 3: bI (x < 0 ∨ 4 ≤ x) = 0 taken
    replace b3 : ¬ (x < 0 ∨ 4 ≤ x) := bI_0.mp b3
    (try simp only [z0] at b3)
    obtain ⟨i, hi, ex⟩ := ou_in (A := 4) (n := 4) rfl (by decide) b3
    refine And.intro (show inb x (alen 50) = true from (inb_o 4 rfl rfl ex (by omega))) ?_
    refine brn_c (fun b11 => ?_) (fun b11 => ?_)
    · -- 11: mm.1 5 (0 + x.toNatClampNeg) 1 = 0 taken
      replace b11 : ¬ (mm.1 5 (0 + x.toNatClampNeg) 1 = 0) := b11
      (try simp only [z0] at b11)
      refine And.intro (show inb x (alen 50) = true from (inb_o 4 rfl rfl ex (by omega))) ?_
      refine And.intro (show Pre_X11_isOut mm [vI y, vI (mm.1 5 (0 + x.toNatClampNeg) 3)] from ⟨_, _, rfl⟩) ?_
      refine br_c (fun b21 => ?_) (fun b21 => ?_)
      · -- 21: bI (y < 0 ∨ (mm.1 5 (0 + x.toNatClampNeg) 3) ≤ y) = 0 taken
        replace b21 : ¬ (y < 0 ∨ (mm.1 5 (0 + x.toNatClampNeg) 3) ≤ y) := bI_0.mp b21
        (try simp only [z0] at b21)
        show ((some (vI 0) : Option MV), mm) = _
        (try simp only [z0])
        rw [if_neg b3, if_neg b11, if_neg b21]
      · -- 21: bI (y < 0 ∨ (mm.1 5 (0 + x.toNatClampNeg) 3) ≤ y) = 0 on
        replace b21 : y < 0 ∨ (mm.1 5 (0 + x.toNatClampNeg) 3) ≤ y := bI_n0.mp b21
        (try simp only [z0] at b21)
        show ((some (vI 3) : Option MV), mm) = _
        (try simp only [z0])
        rw [if_neg b3, if_neg b11, if_pos b21]
    · -- 11: mm.1 5 (0 + x.toNatClampNeg) 1 = 0 on
      replace b11 : mm.1 5 (0 + x.toNatClampNeg) 1 = 0 := b11
      (try simp only [z0] at b11)
      show ((some (vI 2) : Option MV), mm) = _
      (try simp only [z0])
      rw [if_neg b3, if_pos b11]
  · -- 3: bI (x < 0 ∨ 4 ≤ x) = 0 on
    replace b3 : x < 0 ∨ 4 ≤ x := bI_n0.mp b3
    (try simp only [z0] at b3)
    show ((some (vI 1) : Option MV), mm) = _
    (try simp only [z0])
    rw [if_pos b3]
theorem con_X11_trayStatus (l : Launch) : CON l y_X11_trayStatus prog_1_method_73_code 3 (some .int) rm_X11_trayStatus Pre_X11_trayStatus Fn_X11_trayStatus := CON_of (by decide) rfl rfl (sa_X11_trayStatus l) vc_X11_trayStatus
def cl_rs (m : MM) (x : Int32) : Int32 := if x < 0 ∨ 4 ≤ x then 1 else if m.1 5 x.toNatClampNeg 1 = 0 then 2 else if m.1 6 (m.2.2 0) 13 ≤ m.1 5 x.toNatClampNeg 3 then 0 else 3

--tpl ⟨_, rfl⟩ || cl_rs {m} {1}
def Pre_X11_rowStatus : PreT := fun _ as => ∃ x : Int32, as = [vR 11 0, vI x]
def Fn_X11_rowStatus : FnT := fun m as => match as with
  | [_, Sum.inl x] => (some (vI (cl_rs m x)), m)
  | _ => (none, m)
abbrev y_X11_rowStatus : MethodName := ⟨"GivenUp", "rowStatus", "(I)I"⟩
def P_X11_rowStatus : List StpT := [s_iload 1, s_ic (4), s_callS 2 Pre_X11_isOut Fn_X11_isOut, s_ifeq 6, s_ic (1), s_iret, s_aload 0, s_getR 11 0 50, s_iload 1, s_aald4 5 0, s_getI 5 1, s_ifne 14, s_ic (2), s_iret, s_aload 0, s_getR 11 0 50, s_iload 1, s_aald4 5 0, s_getI 5 3, s_aload 0, s_getD 11 12 6 0, s_getI 6 13, s_icge 25, s_ic (3), s_goto 26, s_ic (0), s_iret]
def pc_X11_rowStatus : Nat → Nat := fun i => [0, 1, 2, 5, 8, 9, 10, 11, 14, 15, 16, 19, 22, 23, 24, 25, 28, 29, 30, 33, 34, 37, 40, 43, 44, 47, 48].getD i 0
def dl_X11_rowStatus : List (Nat × Instr × Nat) := [(0, .iload_n 1, 1), (1, .iconst 4, 1), (2, .invokestatic 115, 3), (5, .ifCond .eq 5, 3), (8, .iconst 1, 1), (9, .ireturn, 1), (10, .aload_n 0, 1), (11, .getfield 11, 3), (14, .iload_n 1, 1), (15, .aaload, 1), (16, .getfield 146, 3), (19, .ifCond .ne 5, 3), (22, .iconst 2, 1), (23, .ireturn, 1), (24, .aload_n 0, 1), (25, .getfield 11, 3), (28, .iload_n 1, 1), (29, .aaload, 1), (30, .getfield 152, 3), (33, .aload_n 0, 1), (34, .getfield 87, 3), (37, .getfield 197, 3), (40, .if_icmp .ge 7, 3), (43, .iconst 3, 1), (44, .goto 4, 3), (47, .iconst 0, 1), (48, .ireturn, 1)]
theorem dc_X11_rowStatus : DEC prog_1_method_74_code pc_X11_rowStatus dl_X11_rowStatus := DEC_of (by decide +kernel)
abbrev rm_X11_rowStatus : Room := { frames := 1, cells := 0, slots := 0, locals := 21 }
set_option maxRecDepth 20000 in
theorem sa_X11_rowStatus (l : Launch) : SNDALL l prog_1_method_74_code "GivenUp" 2 (some .int) rm_X11_rowStatus P_X11_rowStatus pc_X11_rowStatus := fun p e s m args below meth c cells slots Q D dA ad A RR hC hR => by
  have hM := RTX_room (R := rm_X11_rowStatus) hR
  exact ⟨st_iload_n hC (n := 0) (k := 1) (dc_X11_rowStatus 0 (0, .iload_n 1, 1) rfl rfl) rfl rfl,
    st_iconst hC (n := 1) (x := 4) (dc_X11_rowStatus 1 (1, .iconst 4, 1) rfl rfl) rfl (by decide),
    st_callS hC (n := 2) (na := 2) (con_X11_isOut l) (dc_X11_rowStatus 2 (2, .invokestatic 115, 3) rfl rfl) rfl wd_790 wd_143 (by decide) ⟨rfl, rfl, by decide, by decide⟩ hM wd_788 wd_789,
    st_ifeq hC (n := 3) (dc_X11_rowStatus 3 (5, .ifCond .eq 5, 3) rfl rfl) rfl (by decide),
    st_iconst hC (n := 4) (x := 1) (dc_X11_rowStatus 4 (8, .iconst 1, 1) rfl rfl) rfl (by decide),
    st_iret hC (n := 5) hR (dc_X11_rowStatus 5 (9, .ireturn, 1) rfl rfl),
    st_aload_n hC (n := 6) (k := 0) (dc_X11_rowStatus 6 (10, .aload_n 0, 1) rfl rfl) rfl rfl,
    st_getR hC (n := 7) (k := 11) (j := 0) (dc_X11_rowStatus 7 (11, .getfield 11, 3) rfl rfl) rfl clf_11 (by decide) rfl (by decide) wd_711,
    st_iload_n hC (n := 8) (k := 1) (dc_X11_rowStatus 8 (14, .iload_n 1, 1) rfl rfl) rfl rfl,
    st_aald4 hC (n := 9) (dc_X11_rowStatus 9 (15, .aaload, 1) rfl rfl) rfl aald4_ok,
    st_getI hC (n := 10) (k := 5) (j := 1) (dc_X11_rowStatus 10 (16, .getfield 146, 3) rfl rfl) rfl clf_5 (by decide) rfl wd_697,
    st_ifne hC (n := 11) (dc_X11_rowStatus 11 (19, .ifCond .ne 5, 3) rfl rfl) rfl (by decide),
    st_iconst hC (n := 12) (x := 2) (dc_X11_rowStatus 12 (22, .iconst 2, 1) rfl rfl) rfl (by decide),
    st_iret hC (n := 13) hR (dc_X11_rowStatus 13 (23, .ireturn, 1) rfl rfl),
    st_aload_n hC (n := 14) (k := 0) (dc_X11_rowStatus 14 (24, .aload_n 0, 1) rfl rfl) rfl rfl,
    st_getR hC (n := 15) (k := 11) (j := 0) (dc_X11_rowStatus 15 (25, .getfield 11, 3) rfl rfl) rfl clf_11 (by decide) rfl (by decide) wd_711,
    st_iload_n hC (n := 16) (k := 1) (dc_X11_rowStatus 16 (28, .iload_n 1, 1) rfl rfl) rfl rfl,
    st_aald4 hC (n := 17) (dc_X11_rowStatus 17 (29, .aaload, 1) rfl rfl) rfl aald4_ok,
    st_getI hC (n := 18) (k := 5) (j := 3) (dc_X11_rowStatus 18 (30, .getfield 152, 3) rfl rfl) rfl clf_5 (by decide) rfl wd_701,
    st_aload_n hC (n := 19) (k := 0) (dc_X11_rowStatus 19 (33, .aload_n 0, 1) rfl rfl) rfl rfl,
    st_getD hC (n := 20) (k := 11) (j := 12) (dc_X11_rowStatus 20 (34, .getfield 87, 3) rfl rfl) rfl clf_11 (by decide) rfl (by decide) wd_723,
    st_getI hC (n := 21) (k := 6) (j := 13) (dc_X11_rowStatus 21 (37, .getfield 197, 3) rfl rfl) rfl clf_6 (by decide) rfl wd_622,
    st_icge hC (n := 22) (dc_X11_rowStatus 22 (40, .if_icmp .ge 7, 3) rfl rfl) rfl (by decide),
    st_iconst hC (n := 23) (x := 3) (dc_X11_rowStatus 23 (43, .iconst 3, 1) rfl rfl) rfl (by decide),
    st_goto hC (n := 24) (dc_X11_rowStatus 24 (44, .goto 4, 3) rfl rfl) (by decide),
    st_iconst hC (n := 25) (x := 0) (dc_X11_rowStatus 25 (47, .iconst 0, 1) rfl rfl) rfl (by decide),
    st_iret hC (n := 26) hR (dc_X11_rowStatus 26 (48, .ireturn, 1) rfl rfl), trivial⟩
set_option maxRecDepth 8000 in
theorem vc_X11_rowStatus : VC P_X11_rowStatus 2 Pre_X11_rowStatus Fn_X11_rowStatus := by
  rintro mm as hom hoa ⟨x, rfl⟩
  refine ⟨Nat.le_of_ble_eq_true rfl, fun X h => ?_⟩
  replace h : RUN P_X11_rowStatus (fun r m' => (r, m') = (some (vI (cl_rs mm x)), mm)) X := h
  unfold cl_rs at h
  have z0 : ∀ q : Nat, 0 + q = q := Nat.zero_add
  show X 0 [some (vR 11 0), some (vI x)] [] mm
  refine h (fun _ => false) 3000 0 _ _ _ ?_
  refine And.intro (show Pre_X11_isOut mm [vI x, vI 4] from ⟨_, _, rfl⟩) ?_
  refine br_c (fun b3 => ?_) (fun b3 => ?_)
  · -- 3: bI (x < 0 ∨ 4 ≤ x) = 0 taken
    replace b3 : ¬ (x < 0 ∨ 4 ≤ x) := bI_0.mp b3
    (try simp only [z0] at b3)
    obtain ⟨i, hi, ex⟩ := ou_in (A := 4) (n := 4) rfl (by decide) b3
    refine And.intro (show inb x (alen 50) = true from (inb_o 4 rfl rfl ex (by omega))) ?_
    refine brn_c (fun b11 => ?_) (fun b11 => ?_)
    · -- 11: mm.1 5 (0 + x.toNatClampNeg) 1 = 0 taken
      replace b11 : ¬ (mm.1 5 (0 + x.toNatClampNeg) 1 = 0) := b11
      (try simp only [z0] at b11)
      refine And.intro (show inb x (alen 50) = true from (inb_o 4 rfl rfl ex (by omega))) ?_
      refine br_c (fun b22 => ?_) (fun b22 => ?_)
      · -- 22: mm.1 6 (mm.2.2 0) 13 ≤ mm.1 5 (0 + x.toNatClampNeg) 3 taken
        replace b22 : mm.1 6 (mm.2.2 0) 13 ≤ mm.1 5 (0 + x.toNatClampNeg) 3 := b22
        (try simp only [z0] at b22)
        show ((some (vI 0) : Option MV), mm) = _
        (try simp only [z0])
        rw [if_neg b3, if_neg b11, if_pos b22]
      · -- 22: mm.1 6 (mm.2.2 0) 13 ≤ mm.1 5 (0 + x.toNatClampNeg) 3 on
        replace b22 : ¬ (mm.1 6 (mm.2.2 0) 13 ≤ mm.1 5 (0 + x.toNatClampNeg) 3) := b22
        (try simp only [z0] at b22)
        show ((some (vI 3) : Option MV), mm) = _
        (try simp only [z0])
        rw [if_neg b3, if_neg b11, if_neg b22]
    · -- 11: mm.1 5 (0 + x.toNatClampNeg) 1 = 0 on
      replace b11 : mm.1 5 (0 + x.toNatClampNeg) 1 = 0 := b11
      (try simp only [z0] at b11)
      show ((some (vI 2) : Option MV), mm) = _
      (try simp only [z0])
      rw [if_neg b3, if_pos b11]
  · -- 3: bI (x < 0 ∨ 4 ≤ x) = 0 on
    replace b3 : x < 0 ∨ 4 ≤ x := bI_n0.mp b3
    (try simp only [z0] at b3)
    show ((some (vI 1) : Option MV), mm) = _
    (try simp only [z0])
    rw [if_pos b3]
theorem con_X11_rowStatus (l : Launch) : CON l y_X11_rowStatus prog_1_method_74_code 2 (some .int) rm_X11_rowStatus Pre_X11_rowStatus Fn_X11_rowStatus := CON_of (by decide) rfl rfl (sa_X11_rowStatus l) vc_X11_rowStatus
def cl_tray (m : MM) (x s n : Int32) : Option MV × MM := if x < 0 ∨ 4 ≤ x then dnC m 1 else if s < 0 ∨ 4 ≤ s then dnC m 1 else if n < 0 then dnC m 1 else if n ≤ 60 then alC (trC m x.toNatClampNeg s n) else dnC m 1

def Pre_X11_tray : PreT := fun _ as => ∃ x s n : Int32, as = [vR 11 0, vI x, vI s, vI n]
def Fn_X11_tray : FnT := fun m as => match as with
  | [_, Sum.inl x, Sum.inl s, Sum.inl n] => cl_tray m x s n
  | _ => (none, m)
abbrev y_X11_tray : MethodName := ⟨"GivenUp", "tray", "(III)Z"⟩
def P_X11_tray : List StpT := [s_iload 1, s_ic (4), s_callS 2 Pre_X11_isOut Fn_X11_isOut, s_ifne 13, s_iload 2, s_ic (4), s_callS 2 Pre_X11_isOut Fn_X11_isOut, s_ifne 13, s_iload 3, s_iflt 13, s_iload 3, s_ic (60), s_icle 17, s_aload 0, s_ic (1), s_callV 11 1 Pre_X11_deny Fn_X11_deny, s_zret, s_aload 0, s_getR 11 0 50, s_iload 1, s_aald4 5 0, s_iload 2, s_iload 3, s_callV 5 2 Pre_X5_set Fn_X5_set, s_aload 0, s_callV 11 0 Pre_X11_allow Fn_X11_allow, s_zret]
def pc_X11_tray : Nat → Nat := fun i => [0, 1, 2, 5, 8, 9, 10, 13, 16, 17, 20, 21, 23, 26, 27, 28, 31, 32, 33, 36, 37, 38, 39, 40, 43, 44, 47].getD i 0
def dl_X11_tray : List (Nat × Instr × Nat) := [(0, .iload_n 1, 1), (1, .iconst 4, 1), (2, .invokestatic 115, 3), (5, .ifCond .ne 21, 3), (8, .iload_n 2, 1), (9, .iconst 4, 1), (10, .invokestatic 115, 3), (13, .ifCond .ne 13, 3), (16, .iload_n 3, 1), (17, .ifCond .lt 9, 3), (20, .iload_n 3, 1), (21, .bipush 60, 2), (23, .if_icmp .le 9, 3), (26, .aload_n 0, 1), (27, .iconst 1, 1), (28, .invokevirtual 119, 3), (31, .ireturn, 1), (32, .aload_n 0, 1), (33, .getfield 11, 3), (36, .iload_n 1, 1), (37, .aaload, 1), (38, .iload_n 2, 1), (39, .iload_n 3, 1), (40, .invokevirtual 123, 3), (43, .aload_n 0, 1), (44, .invokevirtual 127, 3), (47, .ireturn, 1)]
theorem dc_X11_tray : DEC prog_1_method_5_code pc_X11_tray dl_X11_tray := DEC_of (by decide +kernel)
abbrev rm_X11_tray : Room := { frames := 2, cells := 0, slots := 0, locals := 46 }
set_option maxRecDepth 20000 in
theorem sa_X11_tray (l : Launch) : SNDALL l prog_1_method_5_code "GivenUp" 4 (some .boolean) rm_X11_tray P_X11_tray pc_X11_tray := fun p e s m args below meth c cells slots Q D dA ad A RR hC hR => by
  have hM := RTX_room (R := rm_X11_tray) hR
  exact ⟨st_iload_n hC (n := 0) (k := 1) (dc_X11_tray 0 (0, .iload_n 1, 1) rfl rfl) rfl rfl,
    st_iconst hC (n := 1) (x := 4) (dc_X11_tray 1 (1, .iconst 4, 1) rfl rfl) rfl (by decide),
    st_callS hC (n := 2) (na := 2) (con_X11_isOut l) (dc_X11_tray 2 (2, .invokestatic 115, 3) rfl rfl) rfl wd_790 wd_143 (by decide) ⟨rfl, rfl, by decide, by decide⟩ hM wd_788 wd_789,
    st_ifne hC (n := 3) (dc_X11_tray 3 (5, .ifCond .ne 21, 3) rfl rfl) rfl (by decide),
    st_iload_n hC (n := 4) (k := 2) (dc_X11_tray 4 (8, .iload_n 2, 1) rfl rfl) rfl rfl,
    st_iconst hC (n := 5) (x := 4) (dc_X11_tray 5 (9, .iconst 4, 1) rfl rfl) rfl (by decide),
    st_callS hC (n := 6) (na := 2) (con_X11_isOut l) (dc_X11_tray 6 (10, .invokestatic 115, 3) rfl rfl) rfl wd_790 wd_143 (by decide) ⟨rfl, rfl, by decide, by decide⟩ hM wd_788 wd_789,
    st_ifne hC (n := 7) (dc_X11_tray 7 (13, .ifCond .ne 13, 3) rfl rfl) rfl (by decide),
    st_iload_n hC (n := 8) (k := 3) (dc_X11_tray 8 (16, .iload_n 3, 1) rfl rfl) rfl rfl,
    st_iflt hC (n := 9) (dc_X11_tray 9 (17, .ifCond .lt 9, 3) rfl rfl) rfl (by decide),
    st_iload_n hC (n := 10) (k := 3) (dc_X11_tray 10 (20, .iload_n 3, 1) rfl rfl) rfl rfl,
    st_bipush hC (n := 11) (x := 60) (dc_X11_tray 11 (21, .bipush 60, 2) rfl rfl) rfl (by decide),
    st_icle hC (n := 12) (dc_X11_tray 12 (23, .if_icmp .le 9, 3) rfl rfl) rfl (by decide),
    st_aload_n hC (n := 13) (k := 0) (dc_X11_tray 13 (26, .aload_n 0, 1) rfl rfl) rfl rfl,
    st_iconst hC (n := 14) (x := 1) (dc_X11_tray 14 (27, .iconst 1, 1) rfl rfl) rfl (by decide),
    st_callV hC (n := 15) (k := 11) (na := 1) (con_X11_deny l) (dc_X11_tray 15 (28, .invokevirtual 119, 3) rfl rfl) rfl wd_794 wd_143 (by decide) ⟨rfl, rfl, by decide, by decide⟩ hM wd_791 wd_793 wd_0 clf_11,
    st_zret hC (n := 16) hR (dc_X11_tray 16 (31, .ireturn, 1) rfl rfl),
    st_aload_n hC (n := 17) (k := 0) (dc_X11_tray 17 (32, .aload_n 0, 1) rfl rfl) rfl rfl,
    st_getR hC (n := 18) (k := 11) (j := 0) (dc_X11_tray 18 (33, .getfield 11, 3) rfl rfl) rfl clf_11 (by decide) rfl (by decide) wd_711,
    st_iload_n hC (n := 19) (k := 1) (dc_X11_tray 19 (36, .iload_n 1, 1) rfl rfl) rfl rfl,
    st_aald4 hC (n := 20) (dc_X11_tray 20 (37, .aaload, 1) rfl rfl) rfl aald4_ok,
    st_iload_n hC (n := 21) (k := 2) (dc_X11_tray 21 (38, .iload_n 2, 1) rfl rfl) rfl rfl,
    st_iload_n hC (n := 22) (k := 3) (dc_X11_tray 22 (39, .iload_n 3, 1) rfl rfl) rfl rfl,
    st_callV hC (n := 23) (k := 5) (na := 2) (con_X5_set l) (dc_X11_tray 23 (40, .invokevirtual 123, 3) rfl rfl) rfl wd_798 wd_159 (by decide) ⟨rfl, rfl, by decide, by decide⟩ hM wd_795 wd_796 wd_797 clf_5,
    st_aload_n hC (n := 24) (k := 0) (dc_X11_tray 24 (43, .aload_n 0, 1) rfl rfl) rfl rfl,
    st_callV hC (n := 25) (k := 11) (na := 0) (con_X11_allow l) (dc_X11_tray 25 (44, .invokevirtual 127, 3) rfl rfl) rfl wd_803 wd_143 (by decide) ⟨rfl, rfl, by decide, by decide⟩ hM wd_800 wd_802 wd_1 clf_11,
    st_zret hC (n := 26) hR (dc_X11_tray 26 (47, .ireturn, 1) rfl rfl), trivial⟩
set_option maxRecDepth 8000 in
theorem vc_X11_tray : VC P_X11_tray 4 Pre_X11_tray Fn_X11_tray := by
  rintro mm as hom hoa ⟨x, s, n, rfl⟩
  refine ⟨Nat.le_of_ble_eq_true rfl, fun X h => ?_⟩
  have z0 : ∀ q : Nat, 0 + q = q := Nat.zero_add
  show X 0 [some (vR 11 0), some (vI x), some (vI s), some (vI n)] [] mm
  refine h (fun _ => false) 3000 0 _ _ _ ?_
  refine And.intro (show Pre_X11_isOut mm [vI x, vI 4] from ⟨_, _, rfl⟩) ?_
  refine brn_c (fun b3 => ?_) (fun b3 => ?_)
  · -- 3: bI (x < 0 ∨ 4 ≤ x) = 0 taken
    replace b3 : x < 0 ∨ 4 ≤ x := bI_n0.mp b3
    (try simp only [z0] at b3)
    refine And.intro (show Pre_X11_deny mm [vR 11 0, vI 1] from ⟨_, rfl⟩) ?_
    refine And.intro (Or.inl rfl) ?_
    show ((some (vI 0) : Option MV), stC mm 1) = _
    (try simp only [z0])
    show _ = cl_tray mm x s n
    unfold cl_tray
    (try simp only [if_pos b3])
    all_goals exact rfl
  · -- 3: bI (x < 0 ∨ 4 ≤ x) = 0 on
    replace b3 : ¬ (x < 0 ∨ 4 ≤ x) := bI_0.mp b3
    (try simp only [z0] at b3)
    obtain ⟨i, hi, ex⟩ := ou_in (A := 4) (n := 4) rfl (by decide) b3
    refine And.intro (show Pre_X11_isOut mm [vI s, vI 4] from ⟨_, _, rfl⟩) ?_
    refine brn_c (fun b7 => ?_) (fun b7 => ?_)
    · -- 7: bI (s < 0 ∨ 4 ≤ s) = 0 taken
      replace b7 : s < 0 ∨ 4 ≤ s := bI_n0.mp b7
      (try simp only [z0] at b7)
      refine And.intro (show Pre_X11_deny mm [vR 11 0, vI 1] from ⟨_, rfl⟩) ?_
      refine And.intro (Or.inl rfl) ?_
      show ((some (vI 0) : Option MV), stC mm 1) = _
      (try simp only [z0])
      show _ = cl_tray mm x s n
      unfold cl_tray
      (try simp only [if_neg b3, if_pos b7])
      all_goals exact rfl
    · -- 7: bI (s < 0 ∨ 4 ≤ s) = 0 on
      replace b7 : ¬ (s < 0 ∨ 4 ≤ s) := bI_0.mp b7
      (try simp only [z0] at b7)
      refine br_c (fun b9 => ?_) (fun b9 => ?_)
      · -- 9: n < 0 taken
        replace b9 : n < 0 := b9
        (try simp only [z0] at b9)
        refine And.intro (show Pre_X11_deny mm [vR 11 0, vI 1] from ⟨_, rfl⟩) ?_
        refine And.intro (Or.inl rfl) ?_
        show ((some (vI 0) : Option MV), stC mm 1) = _
        (try simp only [z0])
        show _ = cl_tray mm x s n
        unfold cl_tray
        (try simp only [if_neg b3, if_neg b7, if_pos b9])
        all_goals exact rfl
      · -- 9: n < 0 on
        replace b9 : ¬ (n < 0) := b9
        (try simp only [z0] at b9)
        refine br_c (fun b12 => ?_) (fun b12 => ?_)
        · -- 12: n ≤ 60 taken
          replace b12 : n ≤ 60 := b12
          (try simp only [z0] at b12)
          refine And.intro (show inb x (alen 50) = true from (inb_o 4 rfl rfl ex (by omega))) ?_
          refine And.intro (show Pre_X5_set mm [vR 5 (0 + x.toNatClampNeg), vI s, vI n] from ⟨_, _, _, rfl⟩) ?_
          refine And.intro (show Pre_X11_allow (trC mm (0 + x.toNatClampNeg) s n) [vR 11 0] from rfl) ?_
          refine And.intro (Or.inr rfl) ?_
          show ((some (vI 1) : Option MV), stC (trC mm (0 + x.toNatClampNeg) s n) 0) = _
          (try simp only [z0])
          show _ = cl_tray mm x s n
          unfold cl_tray
          (try simp only [if_neg b3, if_neg b7, if_neg b9, if_pos b12])
          all_goals exact rfl
        · -- 12: n ≤ 60 on
          replace b12 : ¬ (n ≤ 60) := b12
          (try simp only [z0] at b12)
          refine And.intro (show Pre_X11_deny mm [vR 11 0, vI 1] from ⟨_, rfl⟩) ?_
          refine And.intro (Or.inl rfl) ?_
          show ((some (vI 0) : Option MV), stC mm 1) = _
          (try simp only [z0])
          show _ = cl_tray mm x s n
          unfold cl_tray
          (try simp only [if_neg b3, if_neg b7, if_neg b9, if_neg b12])
          all_goals exact rfl
theorem con_X11_tray (l : Launch) : CON l y_X11_tray prog_1_method_5_code 4 (some .boolean) rm_X11_tray Pre_X11_tray Fn_X11_tray := CON_of (by decide) rfl rfl (sa_X11_tray l) vc_X11_tray
def cl_write (m : MM) (x y : Int32) (v : Int64) : Option MV × MM := if cl_ts m x y = 0 then alC (ptC m x.toNatClampNeg y.toNatClampNeg v) else dnC m (cl_ts m x y)

def Pre_X11_write : PreT := fun m as => TRc m ∧ ∃ (x y : Int32) (v : Int64), as = [vR 11 0, vI x, vI y, vL v]
def Fn_X11_write : FnT := fun m as => match as with
  | [_, Sum.inl x, Sum.inl y, Sum.inr (Sum.inl v)] => cl_write m x y v
  | _ => (none, m)
abbrev y_X11_write : MethodName := ⟨"GivenUp", "write", "(IIJ)Z"⟩
def P_X11_write : List StpT := [s_aload 0, s_iload 1, s_iload 2, s_callV 11 2 Pre_X11_trayStatus Fn_X11_trayStatus, s_istore 5, s_iload 5, s_ifeq 11, s_aload 0, s_iload 5, s_callV 11 1 Pre_X11_deny Fn_X11_deny, s_zret, s_aload 0, s_getR 11 0 50, s_iload 1, s_aald4 5 0, s_iload 2, s_lload 3, s_callV 5 2 Pre_X5_put Fn_X5_put, s_aload 0, s_callV 11 0 Pre_X11_allow Fn_X11_allow, s_zret]
def pc_X11_write : Nat → Nat := fun i => [0, 1, 2, 3, 6, 8, 10, 13, 14, 16, 19, 20, 21, 24, 25, 26, 27, 28, 31, 32, 35].getD i 0
def dl_X11_write : List (Nat × Instr × Nat) := [(0, .aload_n 0, 1), (1, .iload_n 1, 1), (2, .iload_n 2, 1), (3, .invokevirtual 131, 3), (6, .istore 5, 2), (8, .iload 5, 2), (10, .ifCond .eq 10, 3), (13, .aload_n 0, 1), (14, .iload 5, 2), (16, .invokevirtual 119, 3), (19, .ireturn, 1), (20, .aload_n 0, 1), (21, .getfield 11, 3), (24, .iload_n 1, 1), (25, .aaload, 1), (26, .iload_n 2, 1), (27, .lload_n 3, 1), (28, .invokevirtual 135, 3), (31, .aload_n 0, 1), (32, .invokevirtual 127, 3), (35, .ireturn, 1)]
theorem dc_X11_write : DEC prog_1_method_6_code pc_X11_write dl_X11_write := DEC_of (by decide +kernel)
abbrev rm_X11_write : Room := { frames := 2, cells := 0, slots := 0, locals := 44 }
set_option maxRecDepth 20000 in
theorem sa_X11_write (l : Launch) : SNDALL l prog_1_method_6_code "GivenUp" 6 (some .boolean) rm_X11_write P_X11_write pc_X11_write := fun p e s m args below meth c cells slots Q D dA ad A RR hC hR => by
  have hM := RTX_room (R := rm_X11_write) hR
  exact ⟨st_aload_n hC (n := 0) (k := 0) (dc_X11_write 0 (0, .aload_n 0, 1) rfl rfl) rfl rfl,
    st_iload_n hC (n := 1) (k := 1) (dc_X11_write 1 (1, .iload_n 1, 1) rfl rfl) rfl rfl,
    st_iload_n hC (n := 2) (k := 2) (dc_X11_write 2 (2, .iload_n 2, 1) rfl rfl) rfl rfl,
    st_callV hC (n := 3) (k := 11) (na := 2) (con_X11_trayStatus l) (dc_X11_write 3 (3, .invokevirtual 131, 3) rfl rfl) rfl wd_811 wd_143 (by decide) ⟨rfl, rfl, by decide, by decide⟩ hM wd_808 wd_810 wd_2 clf_11,
    st_istore hC (n := 4) (dc_X11_write 4 (6, .istore 5, 2) rfl rfl) rfl (by decide),
    st_iload hC (n := 5) (dc_X11_write 5 (8, .iload 5, 2) rfl rfl) rfl,
    st_ifeq hC (n := 6) (dc_X11_write 6 (10, .ifCond .eq 10, 3) rfl rfl) rfl (by decide),
    st_aload_n hC (n := 7) (k := 0) (dc_X11_write 7 (13, .aload_n 0, 1) rfl rfl) rfl rfl,
    st_iload hC (n := 8) (dc_X11_write 8 (14, .iload 5, 2) rfl rfl) rfl,
    st_callV hC (n := 9) (k := 11) (na := 1) (con_X11_deny l) (dc_X11_write 9 (16, .invokevirtual 119, 3) rfl rfl) rfl wd_794 wd_143 (by decide) ⟨rfl, rfl, by decide, by decide⟩ hM wd_791 wd_793 wd_0 clf_11,
    st_zret hC (n := 10) hR (dc_X11_write 10 (19, .ireturn, 1) rfl rfl),
    st_aload_n hC (n := 11) (k := 0) (dc_X11_write 11 (20, .aload_n 0, 1) rfl rfl) rfl rfl,
    st_getR hC (n := 12) (k := 11) (j := 0) (dc_X11_write 12 (21, .getfield 11, 3) rfl rfl) rfl clf_11 (by decide) rfl (by decide) wd_711,
    st_iload_n hC (n := 13) (k := 1) (dc_X11_write 13 (24, .iload_n 1, 1) rfl rfl) rfl rfl,
    st_aald4 hC (n := 14) (dc_X11_write 14 (25, .aaload, 1) rfl rfl) rfl aald4_ok,
    st_iload_n hC (n := 15) (k := 2) (dc_X11_write 15 (26, .iload_n 2, 1) rfl rfl) rfl rfl,
    st_lload_n hC (n := 16) (k := 3) (dc_X11_write 16 (27, .lload_n 3, 1) rfl rfl) rfl rfl,
    st_callV hC (n := 17) (k := 5) (na := 2) (con_X5_put l) (dc_X11_write 17 (28, .invokevirtual 135, 3) rfl rfl) rfl wd_815 wd_159 (by decide) ⟨rfl, rfl, by decide, by decide⟩ hM wd_812 wd_813 wd_814 clf_5,
    st_aload_n hC (n := 18) (k := 0) (dc_X11_write 18 (31, .aload_n 0, 1) rfl rfl) rfl rfl,
    st_callV hC (n := 19) (k := 11) (na := 0) (con_X11_allow l) (dc_X11_write 19 (32, .invokevirtual 127, 3) rfl rfl) rfl wd_803 wd_143 (by decide) ⟨rfl, rfl, by decide, by decide⟩ hM wd_800 wd_802 wd_1 clf_11,
    st_zret hC (n := 20) hR (dc_X11_write 20 (35, .ireturn, 1) rfl rfl), trivial⟩
set_option maxRecDepth 8000 in
theorem vc_X11_write : VC P_X11_write 6 Pre_X11_write Fn_X11_write := by
  rintro mm as hom hoa ⟨hT, x, y, v, rfl⟩
  refine ⟨Nat.le_of_ble_eq_true rfl, fun X h => ?_⟩
  have z0 : ∀ q : Nat, 0 + q = q := Nat.zero_add
  show X 0 [some (vR 11 0), some (vI x), some (vI y), some (vL v), none, none] [] mm
  refine h (fun _ => false) 3000 0 _ _ _ ?_
  refine And.intro (show Pre_X11_trayStatus mm [vR 11 0, vI x, vI y] from ⟨_, _, rfl⟩) ?_
  refine br_c (fun b6 => ?_) (fun b6 => ?_)
  · -- 6: cl_ts mm x y = 0 taken
    replace b6 : cl_ts mm x y = 0 := b6
    (try simp only [z0] at b6)
    obtain ⟨i, j, hi, ex, hj, ey⟩ := ts_in hT b6
    refine And.intro (show inb x (alen 50) = true from (inb_o 4 rfl rfl ex (by omega))) ?_
    refine And.intro (show Pre_X5_put mm [vR 5 (0 + x.toNatClampNeg), vI y, vL v] from ⟨_, j, v, hj, by rw [ey]⟩) ?_
    refine And.intro (show Pre_X11_allow (ptC mm (0 + x.toNatClampNeg) y.toNatClampNeg v) [vR 11 0] from rfl) ?_
    refine And.intro (Or.inr rfl) ?_
    show ((some (vI 1) : Option MV), stC (ptC mm (0 + x.toNatClampNeg) y.toNatClampNeg v) 0) = _
    (try simp only [z0])
    show _ = cl_write mm x y v
    unfold cl_write
    (try simp only [if_pos b6])
    all_goals exact rfl
  · -- 6: cl_ts mm x y = 0 on
    replace b6 : ¬ (cl_ts mm x y = 0) := b6
    (try simp only [z0] at b6)
    refine And.intro (show Pre_X11_deny mm [vR 11 0, vI (cl_ts mm x y)] from ⟨_, rfl⟩) ?_
    refine And.intro (Or.inl rfl) ?_
    show ((some (vI 0) : Option MV), stC mm (cl_ts mm x y)) = _
    (try simp only [z0])
    show _ = cl_write mm x y v
    unfold cl_write
    (try simp only [if_neg b6])
    all_goals exact rfl
theorem con_X11_write (l : Launch) : CON l y_X11_write prog_1_method_6_code 6 (some .boolean) rm_X11_write Pre_X11_write Fn_X11_write := CON_of (by decide) rfl rfl (sa_X11_write l) vc_X11_write
def cl_read (m : MM) (x y : Int32) : Option MV × MM := if cl_ts m x y = 0 then (some (vL (m.2.1 28 x.toNatClampNeg y.toNatClampNeg)), stC m 0) else (some (vL (-1 : Int32).toInt64), stC m (cl_ts m x y))

def Pre_X11_read : PreT := fun m as => TRc m ∧ ∃ x y : Int32, as = [vR 11 0, vI x, vI y]
def Fn_X11_read : FnT := fun m as => match as with
  | [_, Sum.inl x, Sum.inl y] => cl_read m x y
  | _ => (none, m)
abbrev y_X11_read : MethodName := ⟨"GivenUp", "read", "(II)J"⟩
def P_X11_read : List StpT := [s_aload 0, s_iload 1, s_iload 2, s_callV 11 2 Pre_X11_trayStatus Fn_X11_trayStatus, s_istore 3, s_iload 3, s_ifeq 12, s_aload 0, s_iload 3, s_callV 11 1 Pre_X11_refuse Fn_X11_refuse, s_i2l, s_lret, s_aload 0, s_ic (0), s_putI 11 15, s_aload 0, s_getR 11 0 50, s_iload 1, s_aald4 5 0, s_getR 5 0 28, s_iload 2, s_lald, s_lret]
def pc_X11_read : Nat → Nat := fun i => [0, 1, 2, 3, 6, 7, 8, 11, 12, 13, 16, 17, 18, 19, 20, 23, 24, 27, 28, 29, 32, 33, 34].getD i 0
def dl_X11_read : List (Nat × Instr × Nat) := [(0, .aload_n 0, 1), (1, .iload_n 1, 1), (2, .iload_n 2, 1), (3, .invokevirtual 131, 3), (6, .istore_n 3, 1), (7, .iload_n 3, 1), (8, .ifCond .eq 10, 3), (11, .aload_n 0, 1), (12, .iload_n 3, 1), (13, .invokevirtual 139, 3), (16, .i2l, 1), (17, .lreturn, 1), (18, .aload_n 0, 1), (19, .iconst 0, 1), (20, .putfield 98, 3), (23, .aload_n 0, 1), (24, .getfield 11, 3), (27, .iload_n 1, 1), (28, .aaload, 1), (29, .getfield 143, 3), (32, .iload_n 2, 1), (33, .laload, 1), (34, .lreturn, 1)]
theorem dc_X11_read : DEC prog_1_method_7_code pc_X11_read dl_X11_read := DEC_of (by decide +kernel)
abbrev rm_X11_read : Room := { frames := 2, cells := 0, slots := 0, locals := 43 }
set_option maxRecDepth 20000 in
theorem sa_X11_read (l : Launch) : SNDALL l prog_1_method_7_code "GivenUp" 4 (some .long) rm_X11_read P_X11_read pc_X11_read := fun p e s m args below meth c cells slots Q D dA ad A RR hC hR => by
  have hM := RTX_room (R := rm_X11_read) hR
  exact ⟨st_aload_n hC (n := 0) (k := 0) (dc_X11_read 0 (0, .aload_n 0, 1) rfl rfl) rfl rfl,
    st_iload_n hC (n := 1) (k := 1) (dc_X11_read 1 (1, .iload_n 1, 1) rfl rfl) rfl rfl,
    st_iload_n hC (n := 2) (k := 2) (dc_X11_read 2 (2, .iload_n 2, 1) rfl rfl) rfl rfl,
    st_callV hC (n := 3) (k := 11) (na := 2) (con_X11_trayStatus l) (dc_X11_read 3 (3, .invokevirtual 131, 3) rfl rfl) rfl wd_811 wd_143 (by decide) ⟨rfl, rfl, by decide, by decide⟩ hM wd_808 wd_810 wd_2 clf_11,
    st_istore_n hC (n := 4) (k := 3) (dc_X11_read 4 (6, .istore_n 3, 1) rfl rfl) rfl rfl (by decide),
    st_iload_n hC (n := 5) (k := 3) (dc_X11_read 5 (7, .iload_n 3, 1) rfl rfl) rfl rfl,
    st_ifeq hC (n := 6) (dc_X11_read 6 (8, .ifCond .eq 10, 3) rfl rfl) rfl (by decide),
    st_aload_n hC (n := 7) (k := 0) (dc_X11_read 7 (11, .aload_n 0, 1) rfl rfl) rfl rfl,
    st_iload_n hC (n := 8) (k := 3) (dc_X11_read 8 (12, .iload_n 3, 1) rfl rfl) rfl rfl,
    st_callV hC (n := 9) (k := 11) (na := 1) (con_X11_refuse l) (dc_X11_read 9 (13, .invokevirtual 139, 3) rfl rfl) rfl wd_824 wd_143 (by decide) ⟨rfl, rfl, by decide, by decide⟩ hM wd_821 wd_823 wd_3 clf_11,
    st_i2l hC (n := 10) (dc_X11_read 10 (16, .i2l, 1) rfl rfl) rfl,
    st_lret hC (n := 11) hR (dc_X11_read 11 (17, .lreturn, 1) rfl rfl),
    st_aload_n hC (n := 12) (k := 0) (dc_X11_read 12 (18, .aload_n 0, 1) rfl rfl) rfl rfl,
    st_iconst hC (n := 13) (x := 0) (dc_X11_read 13 (19, .iconst 0, 1) rfl rfl) rfl (by decide),
    st_putI hC (n := 14) (k := 11) (j := 15) (dc_X11_read 14 (20, .putfield 98, 3) rfl rfl) rfl clf_11 (by decide) rfl rfl rfl wd_726,
    st_aload_n hC (n := 15) (k := 0) (dc_X11_read 15 (23, .aload_n 0, 1) rfl rfl) rfl rfl,
    st_getR hC (n := 16) (k := 11) (j := 0) (dc_X11_read 16 (24, .getfield 11, 3) rfl rfl) rfl clf_11 (by decide) rfl (by decide) wd_711,
    st_iload_n hC (n := 17) (k := 1) (dc_X11_read 17 (27, .iload_n 1, 1) rfl rfl) rfl rfl,
    st_aald4 hC (n := 18) (dc_X11_read 18 (28, .aaload, 1) rfl rfl) rfl aald4_ok,
    st_getR hC (n := 19) (k := 5) (j := 0) (dc_X11_read 19 (29, .getfield 143, 3) rfl rfl) rfl clf_5 (by decide) rfl (by decide) wd_695,
    st_iload_n hC (n := 20) (k := 2) (dc_X11_read 20 (32, .iload_n 2, 1) rfl rfl) rfl rfl,
    st_lald hC (n := 21) (dc_X11_read 21 (33, .laload, 1) rfl rfl) rfl,
    st_lret hC (n := 22) hR (dc_X11_read 22 (34, .lreturn, 1) rfl rfl), trivial⟩
set_option maxRecDepth 8000 in
theorem vc_X11_read : VC P_X11_read 4 Pre_X11_read Fn_X11_read := by
  rintro mm as hom hoa ⟨hT, x, y, rfl⟩
  refine ⟨Nat.le_of_ble_eq_true rfl, fun X h => ?_⟩
  have z0 : ∀ q : Nat, 0 + q = q := Nat.zero_add
  show X 0 [some (vR 11 0), some (vI x), some (vI y), none] [] mm
  refine h (fun _ => false) 3000 0 _ _ _ ?_
  refine And.intro (show Pre_X11_trayStatus mm [vR 11 0, vI x, vI y] from ⟨_, _, rfl⟩) ?_
  refine br_c (fun b6 => ?_) (fun b6 => ?_)
  · -- 6: cl_ts mm x y = 0 taken
    replace b6 : cl_ts mm x y = 0 := b6
    (try simp only [z0] at b6)
    obtain ⟨i, j, hi, ex, hj, ey⟩ := ts_in hT b6
    refine And.intro (show inb x (alen 50) = true from (inb_o 4 rfl rfl ex (by omega))) ?_
    refine And.intro (show inb y (alen 28) = true from (inb_o 60 rfl rfl ey (by omega))) ?_
    show ((some (vL (mm.2.1 28 (0 + x.toNatClampNeg) y.toNatClampNeg)) : Option MV), mI mm 11 0 15 0) = _
    (try simp only [z0])
    show _ = cl_read mm x y
    unfold cl_read
    (try simp only [if_pos b6])
    all_goals exact rfl
  · -- 6: cl_ts mm x y = 0 on
    replace b6 : ¬ (cl_ts mm x y = 0) := b6
    (try simp only [z0] at b6)
    refine And.intro (show Pre_X11_refuse mm [vR 11 0, vI (cl_ts mm x y)] from ⟨_, rfl⟩) ?_
    show ((some (vL ((-1).toInt64)) : Option MV), stC mm (cl_ts mm x y)) = _
    (try simp only [z0])
    show _ = cl_read mm x y
    unfold cl_read
    (try simp only [if_neg b6])
    all_goals exact rfl
theorem con_X11_read (l : Launch) : CON l y_X11_read prog_1_method_7_code 4 (some .long) rm_X11_read Pre_X11_read Fn_X11_read := CON_of (by decide) rfl rfl (sa_X11_read l) vc_X11_read
def cpoM (m : MM) (x p y q n : Int32) : MM := mRowL m 28 y.toNatClampNeg (va_cpy (m.2.1 28 x.toNatClampNeg) (m.2.1 28 y.toNatClampNeg) p.toNatClampNeg q.toNatClampNeg n.toNatClampNeg)
def cl_pour (m : MM) (x p y q n : Int32) : Option MV × MM := if x < 0 ∨ 4 ≤ x then dnC m 1 else if y < 0 ∨ 4 ≤ y then dnC m 1 else if p < 0 then dnC m 1 else if q < 0 then dnC m 1 else if 0 ≤ n then (if m.1 5 x.toNatClampNeg 1 = 0 then dnC m 2 else if m.1 5 y.toNatClampNeg 1 = 0 then dnC m 2 else if m.1 5 x.toNatClampNeg 2 = m.1 5 y.toNatClampNeg 2 then (if m.1 5 x.toNatClampNeg 3 < n then dnC m 3 else if m.1 5 x.toNatClampNeg 3 - n < p then dnC m 3 else if m.1 5 y.toNatClampNeg 3 < n then dnC m 3 else if q ≤ m.1 5 y.toNatClampNeg 3 - n then alC (cpoM m x p y q n) else dnC m 3) else dnC m 8) else dnC m 1
theorem po_in {A n p : Int32} (hA : ∃ q, q ≤ 60 ∧ A = nI q) (hn : 0 ≤ n) (hp : ¬ p < 0) (h1 : ¬ A < n) (h2 : ¬ A - n < p) : p.toNatClampNeg + n.toNatClampNeg ≤ 60 := by
  obtain ⟨q, hq, e⟩ := hA
  obtain ⟨a, ha, ea⟩ := arg_in (x := n) (n := 61) (Int32.not_lt.mpr hn) (fun z => h1 (by rw [e]; exact Int32.lt_of_lt_of_le (by rw [nI_ltI (by omega) (by omega)]; omega) z)) (by omega)
  rw [e, ea, nI_ltI (by omega) (by omega)] at h1
  rw [e, ea, nI_sb (by omega)] at h2
  obtain ⟨b, hb, eb⟩ := arg_in (x := p) (n := 61) hp (fun z => h2 (Int32.lt_of_lt_of_le (by rw [nI_ltI (by omega) (by omega)]; omega) z)) (by omega)
  rw [eb, nI_ltI (by omega) (by omega)] at h2
  rw [ea, eb, nI_clamp (by omega), nI_clamp (by omega)]
  omega

def Pre_X11_pour : PreT := fun m as => TRc m ∧ ∃ x p y q n : Int32, as = [vR 11 0, vI x, vI p, vI y, vI q, vI n]
def Fn_X11_pour : FnT := fun m as => match as with
  | [_, Sum.inl x, Sum.inl p, Sum.inl y, Sum.inl q, Sum.inl n] => cl_pour m x p y q n
  | _ => (none, m)
abbrev y_X11_pour : MethodName := ⟨"GivenUp", "pour", "(IIIII)Z"⟩
def P_X11_pour : List StpT := [s_iload 1, s_ic (4), s_callS 2 Pre_X11_isOut Fn_X11_isOut, s_ifne 14, s_iload 3, s_ic (4), s_callS 2 Pre_X11_isOut Fn_X11_isOut, s_ifne 14, s_iload 2, s_iflt 14, s_iload 4, s_iflt 14, s_iload 5, s_ifge 18, s_aload 0, s_ic (1), s_callV 11 1 Pre_X11_deny Fn_X11_deny, s_zret, s_aload 0, s_getR 11 0 50, s_iload 1, s_aald4 5 0, s_astore 6, s_aload 0, s_getR 11 0 50, s_iload 3, s_aald4 5 0, s_astore 7, s_aload 6, s_getI 5 1, s_ifeq 34, s_aload 7, s_getI 5 1, s_ifne 38, s_aload 0, s_ic (2), s_callV 11 1 Pre_X11_deny Fn_X11_deny, s_zret, s_aload 6, s_getI 5 2, s_aload 7, s_getI 5 2, s_iceq 47, s_aload 0, s_ic (8), s_callV 11 1 Pre_X11_deny Fn_X11_deny, s_zret, s_iload 5, s_aload 6, s_getI 5 3, s_icgt 67, s_iload 2, s_aload 6, s_getI 5 3, s_iload 5, s_isub, s_icgt 67, s_iload 5, s_aload 7, s_getI 5 3, s_icgt 67, s_iload 4, s_aload 7, s_getI 5 3, s_iload 5, s_isub, s_icle 71, s_aload 0, s_ic (3), s_callV 11 1 Pre_X11_deny Fn_X11_deny, s_zret, s_aload 6, s_getR 5 0 28, s_iload 2, s_aload 7, s_getR 5 0 28, s_iload 4, s_iload 5, s_acL, s_aload 0, s_callV 11 0 Pre_X11_allow Fn_X11_allow, s_zret]
def pc_X11_pour : Nat → Nat := fun i => [0, 1, 2, 5, 8, 9, 10, 13, 16, 17, 20, 22, 25, 27, 30, 31, 32, 35, 36, 37, 40, 41, 42, 44, 45, 48, 49, 50, 52, 54, 57, 60, 62, 65, 68, 69, 70, 73, 74, 76, 79, 81, 84, 87, 88, 90, 93, 94, 96, 98, 101, 104, 105, 107, 110, 112, 113, 116, 118, 120, 123, 126, 128, 130, 133, 135, 136, 139, 140, 141, 144, 145, 147, 150, 151, 153, 156, 158, 160, 163, 164, 167].getD i 0
def dl_X11_pour : List (Nat × Instr × Nat) := [(0, .iload_n 1, 1), (1, .iconst 4, 1), (2, .invokestatic 115, 3), (5, .ifCond .ne 25, 3), (8, .iload_n 3, 1), (9, .iconst 4, 1), (10, .invokestatic 115, 3), (13, .ifCond .ne 17, 3), (16, .iload_n 2, 1), (17, .ifCond .lt 13, 3), (20, .iload 4, 2), (22, .ifCond .lt 8, 3), (25, .iload 5, 2), (27, .ifCond .ge 9, 3), (30, .aload_n 0, 1), (31, .iconst 1, 1), (32, .invokevirtual 119, 3), (35, .ireturn, 1), (36, .aload_n 0, 1), (37, .getfield 11, 3), (40, .iload_n 1, 1), (41, .aaload, 1), (42, .astore 6, 2), (44, .aload_n 0, 1), (45, .getfield 11, 3), (48, .iload_n 3, 1), (49, .aaload, 1), (50, .astore 7, 2), (52, .aload 6, 2), (54, .getfield 146, 3), (57, .ifCond .eq 11, 3), (60, .aload 7, 2), (62, .getfield 146, 3), (65, .ifCond .ne 9, 3), (68, .aload_n 0, 1), (69, .iconst 2, 1), (70, .invokevirtual 119, 3), (73, .ireturn, 1), (74, .aload 6, 2), (76, .getfield 149, 3), (79, .aload 7, 2), (81, .getfield 149, 3), (84, .if_icmp .eq 10, 3), (87, .aload_n 0, 1), (88, .bipush 8, 2), (90, .invokevirtual 119, 3), (93, .ireturn, 1), (94, .iload 5, 2), (96, .aload 6, 2), (98, .getfield 152, 3), (101, .if_icmp .gt 38, 3), (104, .iload_n 2, 1), (105, .aload 6, 2), (107, .getfield 152, 3), (110, .iload 5, 2), (112, .isub, 1), (113, .if_icmp .gt 26, 3), (116, .iload 5, 2), (118, .aload 7, 2), (120, .getfield 152, 3), (123, .if_icmp .gt 16, 3), (126, .iload 4, 2), (128, .aload 7, 2), (130, .getfield 152, 3), (133, .iload 5, 2), (135, .isub, 1), (136, .if_icmp .le 9, 3), (139, .aload_n 0, 1), (140, .iconst 3, 1), (141, .invokevirtual 119, 3), (144, .ireturn, 1), (145, .aload 6, 2), (147, .getfield 143, 3), (150, .iload_n 2, 1), (151, .aload 7, 2), (153, .getfield 143, 3), (156, .iload 4, 2), (158, .iload 5, 2), (160, .invokestatic 155, 3), (163, .aload_n 0, 1), (164, .invokevirtual 127, 3), (167, .ireturn, 1)]
theorem dc_X11_pour : DEC prog_1_method_8_code pc_X11_pour dl_X11_pour := DEC_of (by decide +kernel)
abbrev rm_X11_pour : Room := { frames := 1, cells := 0, slots := 0, locals := 26 }
set_option maxRecDepth 20000 in
theorem sa_X11_pour (l : Launch) : SNDALL l prog_1_method_8_code "GivenUp" 8 (some .boolean) rm_X11_pour P_X11_pour pc_X11_pour := fun p e s m args below meth c cells slots Q D dA ad A RR hC hR => by
  have hM := RTX_room (R := rm_X11_pour) hR
  exact ⟨st_iload_n hC (n := 0) (k := 1) (dc_X11_pour 0 (0, .iload_n 1, 1) rfl rfl) rfl rfl,
    st_iconst hC (n := 1) (x := 4) (dc_X11_pour 1 (1, .iconst 4, 1) rfl rfl) rfl (by decide),
    st_callS hC (n := 2) (na := 2) (con_X11_isOut l) (dc_X11_pour 2 (2, .invokestatic 115, 3) rfl rfl) rfl wd_790 wd_143 (by decide) ⟨rfl, rfl, by decide, by decide⟩ hM wd_788 wd_789,
    st_ifne hC (n := 3) (dc_X11_pour 3 (5, .ifCond .ne 25, 3) rfl rfl) rfl (by decide),
    st_iload_n hC (n := 4) (k := 3) (dc_X11_pour 4 (8, .iload_n 3, 1) rfl rfl) rfl rfl,
    st_iconst hC (n := 5) (x := 4) (dc_X11_pour 5 (9, .iconst 4, 1) rfl rfl) rfl (by decide),
    st_callS hC (n := 6) (na := 2) (con_X11_isOut l) (dc_X11_pour 6 (10, .invokestatic 115, 3) rfl rfl) rfl wd_790 wd_143 (by decide) ⟨rfl, rfl, by decide, by decide⟩ hM wd_788 wd_789,
    st_ifne hC (n := 7) (dc_X11_pour 7 (13, .ifCond .ne 17, 3) rfl rfl) rfl (by decide),
    st_iload_n hC (n := 8) (k := 2) (dc_X11_pour 8 (16, .iload_n 2, 1) rfl rfl) rfl rfl,
    st_iflt hC (n := 9) (dc_X11_pour 9 (17, .ifCond .lt 13, 3) rfl rfl) rfl (by decide),
    st_iload hC (n := 10) (dc_X11_pour 10 (20, .iload 4, 2) rfl rfl) rfl,
    st_iflt hC (n := 11) (dc_X11_pour 11 (22, .ifCond .lt 8, 3) rfl rfl) rfl (by decide),
    st_iload hC (n := 12) (dc_X11_pour 12 (25, .iload 5, 2) rfl rfl) rfl,
    st_ifge hC (n := 13) (dc_X11_pour 13 (27, .ifCond .ge 9, 3) rfl rfl) rfl (by decide),
    st_aload_n hC (n := 14) (k := 0) (dc_X11_pour 14 (30, .aload_n 0, 1) rfl rfl) rfl rfl,
    st_iconst hC (n := 15) (x := 1) (dc_X11_pour 15 (31, .iconst 1, 1) rfl rfl) rfl (by decide),
    st_callV hC (n := 16) (k := 11) (na := 1) (con_X11_deny l) (dc_X11_pour 16 (32, .invokevirtual 119, 3) rfl rfl) rfl wd_794 wd_143 (by decide) ⟨rfl, rfl, by decide, by decide⟩ hM wd_791 wd_793 wd_0 clf_11,
    st_zret hC (n := 17) hR (dc_X11_pour 17 (35, .ireturn, 1) rfl rfl),
    st_aload_n hC (n := 18) (k := 0) (dc_X11_pour 18 (36, .aload_n 0, 1) rfl rfl) rfl rfl,
    st_getR hC (n := 19) (k := 11) (j := 0) (dc_X11_pour 19 (37, .getfield 11, 3) rfl rfl) rfl clf_11 (by decide) rfl (by decide) wd_711,
    st_iload_n hC (n := 20) (k := 1) (dc_X11_pour 20 (40, .iload_n 1, 1) rfl rfl) rfl rfl,
    st_aald4 hC (n := 21) (dc_X11_pour 21 (41, .aaload, 1) rfl rfl) rfl aald4_ok,
    st_astore hC (n := 22) (dc_X11_pour 22 (42, .astore 6, 2) rfl rfl) rfl (by decide),
    st_aload_n hC (n := 23) (k := 0) (dc_X11_pour 23 (44, .aload_n 0, 1) rfl rfl) rfl rfl,
    st_getR hC (n := 24) (k := 11) (j := 0) (dc_X11_pour 24 (45, .getfield 11, 3) rfl rfl) rfl clf_11 (by decide) rfl (by decide) wd_711,
    st_iload_n hC (n := 25) (k := 3) (dc_X11_pour 25 (48, .iload_n 3, 1) rfl rfl) rfl rfl,
    st_aald4 hC (n := 26) (dc_X11_pour 26 (49, .aaload, 1) rfl rfl) rfl aald4_ok,
    st_astore hC (n := 27) (dc_X11_pour 27 (50, .astore 7, 2) rfl rfl) rfl (by decide),
    st_aload hC (n := 28) (dc_X11_pour 28 (52, .aload 6, 2) rfl rfl) rfl,
    st_getI hC (n := 29) (k := 5) (j := 1) (dc_X11_pour 29 (54, .getfield 146, 3) rfl rfl) rfl clf_5 (by decide) rfl wd_697,
    st_ifeq hC (n := 30) (dc_X11_pour 30 (57, .ifCond .eq 11, 3) rfl rfl) rfl (by decide),
    st_aload hC (n := 31) (dc_X11_pour 31 (60, .aload 7, 2) rfl rfl) rfl,
    st_getI hC (n := 32) (k := 5) (j := 1) (dc_X11_pour 32 (62, .getfield 146, 3) rfl rfl) rfl clf_5 (by decide) rfl wd_697,
    st_ifne hC (n := 33) (dc_X11_pour 33 (65, .ifCond .ne 9, 3) rfl rfl) rfl (by decide),
    st_aload_n hC (n := 34) (k := 0) (dc_X11_pour 34 (68, .aload_n 0, 1) rfl rfl) rfl rfl,
    st_iconst hC (n := 35) (x := 2) (dc_X11_pour 35 (69, .iconst 2, 1) rfl rfl) rfl (by decide),
    st_callV hC (n := 36) (k := 11) (na := 1) (con_X11_deny l) (dc_X11_pour 36 (70, .invokevirtual 119, 3) rfl rfl) rfl wd_794 wd_143 (by decide) ⟨rfl, rfl, by decide, by decide⟩ hM wd_791 wd_793 wd_0 clf_11,
    st_zret hC (n := 37) hR (dc_X11_pour 37 (73, .ireturn, 1) rfl rfl),
    st_aload hC (n := 38) (dc_X11_pour 38 (74, .aload 6, 2) rfl rfl) rfl,
    st_getI hC (n := 39) (k := 5) (j := 2) (dc_X11_pour 39 (76, .getfield 149, 3) rfl rfl) rfl clf_5 (by decide) rfl wd_699,
    st_aload hC (n := 40) (dc_X11_pour 40 (79, .aload 7, 2) rfl rfl) rfl,
    st_getI hC (n := 41) (k := 5) (j := 2) (dc_X11_pour 41 (81, .getfield 149, 3) rfl rfl) rfl clf_5 (by decide) rfl wd_699,
    st_iceq hC (n := 42) (dc_X11_pour 42 (84, .if_icmp .eq 10, 3) rfl rfl) rfl (by decide),
    st_aload_n hC (n := 43) (k := 0) (dc_X11_pour 43 (87, .aload_n 0, 1) rfl rfl) rfl rfl,
    st_bipush hC (n := 44) (x := 8) (dc_X11_pour 44 (88, .bipush 8, 2) rfl rfl) rfl (by decide),
    st_callV hC (n := 45) (k := 11) (na := 1) (con_X11_deny l) (dc_X11_pour 45 (90, .invokevirtual 119, 3) rfl rfl) rfl wd_794 wd_143 (by decide) ⟨rfl, rfl, by decide, by decide⟩ hM wd_791 wd_793 wd_0 clf_11,
    st_zret hC (n := 46) hR (dc_X11_pour 46 (93, .ireturn, 1) rfl rfl),
    st_iload hC (n := 47) (dc_X11_pour 47 (94, .iload 5, 2) rfl rfl) rfl,
    st_aload hC (n := 48) (dc_X11_pour 48 (96, .aload 6, 2) rfl rfl) rfl,
    st_getI hC (n := 49) (k := 5) (j := 3) (dc_X11_pour 49 (98, .getfield 152, 3) rfl rfl) rfl clf_5 (by decide) rfl wd_701,
    st_icgt hC (n := 50) (dc_X11_pour 50 (101, .if_icmp .gt 38, 3) rfl rfl) rfl (by decide),
    st_iload_n hC (n := 51) (k := 2) (dc_X11_pour 51 (104, .iload_n 2, 1) rfl rfl) rfl rfl,
    st_aload hC (n := 52) (dc_X11_pour 52 (105, .aload 6, 2) rfl rfl) rfl,
    st_getI hC (n := 53) (k := 5) (j := 3) (dc_X11_pour 53 (107, .getfield 152, 3) rfl rfl) rfl clf_5 (by decide) rfl wd_701,
    st_iload hC (n := 54) (dc_X11_pour 54 (110, .iload 5, 2) rfl rfl) rfl,
    st_isub hC (n := 55) (dc_X11_pour 55 (112, .isub, 1) rfl rfl) rfl,
    st_icgt hC (n := 56) (dc_X11_pour 56 (113, .if_icmp .gt 26, 3) rfl rfl) rfl (by decide),
    st_iload hC (n := 57) (dc_X11_pour 57 (116, .iload 5, 2) rfl rfl) rfl,
    st_aload hC (n := 58) (dc_X11_pour 58 (118, .aload 7, 2) rfl rfl) rfl,
    st_getI hC (n := 59) (k := 5) (j := 3) (dc_X11_pour 59 (120, .getfield 152, 3) rfl rfl) rfl clf_5 (by decide) rfl wd_701,
    st_icgt hC (n := 60) (dc_X11_pour 60 (123, .if_icmp .gt 16, 3) rfl rfl) rfl (by decide),
    st_iload hC (n := 61) (dc_X11_pour 61 (126, .iload 4, 2) rfl rfl) rfl,
    st_aload hC (n := 62) (dc_X11_pour 62 (128, .aload 7, 2) rfl rfl) rfl,
    st_getI hC (n := 63) (k := 5) (j := 3) (dc_X11_pour 63 (130, .getfield 152, 3) rfl rfl) rfl clf_5 (by decide) rfl wd_701,
    st_iload hC (n := 64) (dc_X11_pour 64 (133, .iload 5, 2) rfl rfl) rfl,
    st_isub hC (n := 65) (dc_X11_pour 65 (135, .isub, 1) rfl rfl) rfl,
    st_icle hC (n := 66) (dc_X11_pour 66 (136, .if_icmp .le 9, 3) rfl rfl) rfl (by decide),
    st_aload_n hC (n := 67) (k := 0) (dc_X11_pour 67 (139, .aload_n 0, 1) rfl rfl) rfl rfl,
    st_iconst hC (n := 68) (x := 3) (dc_X11_pour 68 (140, .iconst 3, 1) rfl rfl) rfl (by decide),
    st_callV hC (n := 69) (k := 11) (na := 1) (con_X11_deny l) (dc_X11_pour 69 (141, .invokevirtual 119, 3) rfl rfl) rfl wd_794 wd_143 (by decide) ⟨rfl, rfl, by decide, by decide⟩ hM wd_791 wd_793 wd_0 clf_11,
    st_zret hC (n := 70) hR (dc_X11_pour 70 (144, .ireturn, 1) rfl rfl),
    st_aload hC (n := 71) (dc_X11_pour 71 (145, .aload 6, 2) rfl rfl) rfl,
    st_getR hC (n := 72) (k := 5) (j := 0) (dc_X11_pour 72 (147, .getfield 143, 3) rfl rfl) rfl clf_5 (by decide) rfl (by decide) wd_695,
    st_iload_n hC (n := 73) (k := 2) (dc_X11_pour 73 (150, .iload_n 2, 1) rfl rfl) rfl rfl,
    st_aload hC (n := 74) (dc_X11_pour 74 (151, .aload 7, 2) rfl rfl) rfl,
    st_getR hC (n := 75) (k := 5) (j := 0) (dc_X11_pour 75 (153, .getfield 143, 3) rfl rfl) rfl clf_5 (by decide) rfl (by decide) wd_695,
    st_iload hC (n := 76) (dc_X11_pour 76 (156, .iload 4, 2) rfl rfl) rfl,
    st_iload hC (n := 77) (dc_X11_pour 77 (158, .iload 5, 2) rfl rfl) rfl,
    st_acL hC (n := 78) (dc_X11_pour 78 (160, .invokestatic 155, 3) rfl rfl) rfl wd_829 wd_831 wd_830 wd_161 (by decide) (by decide),
    st_aload_n hC (n := 79) (k := 0) (dc_X11_pour 79 (163, .aload_n 0, 1) rfl rfl) rfl rfl,
    st_callV hC (n := 80) (k := 11) (na := 0) (con_X11_allow l) (dc_X11_pour 80 (164, .invokevirtual 127, 3) rfl rfl) rfl wd_803 wd_143 (by decide) ⟨rfl, rfl, by decide, by decide⟩ hM wd_800 wd_802 wd_1 clf_11,
    st_zret hC (n := 81) hR (dc_X11_pour 81 (167, .ireturn, 1) rfl rfl), trivial⟩
set_option maxRecDepth 8000 in
theorem vc_X11_pour : VC P_X11_pour 8 Pre_X11_pour Fn_X11_pour := by
  rintro mm as hom hoa ⟨hT, x, p, y, q, n, rfl⟩
  refine ⟨Nat.le_of_ble_eq_true rfl, fun X h => ?_⟩
  have z0 : ∀ q : Nat, 0 + q = q := Nat.zero_add
  show X 0 [some (vR 11 0), some (vI x), some (vI p), some (vI y), some (vI q), some (vI n), none, none] [] mm
  refine h (fun _ => false) 3000 0 _ _ _ ?_
  refine And.intro (show Pre_X11_isOut mm [vI x, vI 4] from ⟨_, _, rfl⟩) ?_
  refine brn_c (fun b3 => ?_) (fun b3 => ?_)
  · -- 3: bI (x < 0 ∨ 4 ≤ x) = 0 taken
    replace b3 : x < 0 ∨ 4 ≤ x := bI_n0.mp b3
    (try simp only [z0] at b3)
    refine And.intro (show Pre_X11_deny mm [vR 11 0, vI 1] from ⟨_, rfl⟩) ?_
    refine And.intro (Or.inl rfl) ?_
    show ((some (vI 0) : Option MV), stC mm 1) = _
    (try simp only [z0])
    show _ = cl_pour mm x p y q n
    unfold cl_pour
    (try simp only [if_pos b3])
    all_goals exact rfl
  · -- 3: bI (x < 0 ∨ 4 ≤ x) = 0 on
    replace b3 : ¬ (x < 0 ∨ 4 ≤ x) := bI_0.mp b3
    (try simp only [z0] at b3)
    obtain ⟨i, hi, ex⟩ := ou_in (A := 4) (n := 4) rfl (by decide) b3
    have eic : x.toNatClampNeg = i := by rw [ex]; exact nI_clamp (by omega)
    refine And.intro (show Pre_X11_isOut mm [vI y, vI 4] from ⟨_, _, rfl⟩) ?_
    refine brn_c (fun b7 => ?_) (fun b7 => ?_)
    · -- 7: bI (y < 0 ∨ 4 ≤ y) = 0 taken
      replace b7 : y < 0 ∨ 4 ≤ y := bI_n0.mp b7
      (try simp only [z0] at b7)
      refine And.intro (show Pre_X11_deny mm [vR 11 0, vI 1] from ⟨_, rfl⟩) ?_
      refine And.intro (Or.inl rfl) ?_
      show ((some (vI 0) : Option MV), stC mm 1) = _
      (try simp only [z0])
      show _ = cl_pour mm x p y q n
      unfold cl_pour
      (try simp only [if_neg b3, if_pos b7])
      all_goals exact rfl
    · -- 7: bI (y < 0 ∨ 4 ≤ y) = 0 on
      replace b7 : ¬ (y < 0 ∨ 4 ≤ y) := bI_0.mp b7
      (try simp only [z0] at b7)
      obtain ⟨j, hj, ey⟩ := ou_in (A := 4) (n := 4) rfl (by decide) b7
      have ejc : y.toNatClampNeg = j := by rw [ey]; exact nI_clamp (by omega)
      refine br_c (fun b9 => ?_) (fun b9 => ?_)
      · -- 9: p < 0 taken
        replace b9 : p < 0 := b9
        (try simp only [z0] at b9)
        refine And.intro (show Pre_X11_deny mm [vR 11 0, vI 1] from ⟨_, rfl⟩) ?_
        refine And.intro (Or.inl rfl) ?_
        show ((some (vI 0) : Option MV), stC mm 1) = _
        (try simp only [z0])
        show _ = cl_pour mm x p y q n
        unfold cl_pour
        (try simp only [if_neg b3, if_neg b7, if_pos b9])
        all_goals exact rfl
      · -- 9: p < 0 on
        replace b9 : ¬ (p < 0) := b9
        (try simp only [z0] at b9)
        refine br_c (fun b11 => ?_) (fun b11 => ?_)
        · -- 11: q < 0 taken
          replace b11 : q < 0 := b11
          (try simp only [z0] at b11)
          refine And.intro (show Pre_X11_deny mm [vR 11 0, vI 1] from ⟨_, rfl⟩) ?_
          refine And.intro (Or.inl rfl) ?_
          show ((some (vI 0) : Option MV), stC mm 1) = _
          (try simp only [z0])
          show _ = cl_pour mm x p y q n
          unfold cl_pour
          (try simp only [if_neg b3, if_neg b7, if_neg b9, if_pos b11])
          all_goals exact rfl
        · -- 11: q < 0 on
          replace b11 : ¬ (q < 0) := b11
          (try simp only [z0] at b11)
          refine br_c (fun b13 => ?_) (fun b13 => ?_)
          · -- 13: 0 ≤ n taken
            replace b13 : 0 ≤ n := b13
            (try simp only [z0] at b13)
            refine And.intro (show inb x (alen 50) = true from (inb_o 4 rfl rfl ex (by omega))) ?_
            refine And.intro (show inb y (alen 50) = true from (inb_o 4 rfl rfl ey (by omega))) ?_
            refine br_c (fun b30 => ?_) (fun b30 => ?_)
            · -- 30: mm.1 5 (0 + x.toNatClampNeg) 1 = 0 taken
              replace b30 : mm.1 5 (0 + x.toNatClampNeg) 1 = 0 := b30
              (try simp only [z0] at b30)
              refine And.intro (show Pre_X11_deny mm [vR 11 0, vI 2] from ⟨_, rfl⟩) ?_
              refine And.intro (Or.inl rfl) ?_
              show ((some (vI 0) : Option MV), stC mm 2) = _
              (try simp only [z0])
              show _ = cl_pour mm x p y q n
              unfold cl_pour
              (try simp only [if_neg b3, if_neg b7, if_neg b9, if_neg b11, if_pos b13, if_pos b30])
              all_goals exact rfl
            · -- 30: mm.1 5 (0 + x.toNatClampNeg) 1 = 0 on
              replace b30 : ¬ (mm.1 5 (0 + x.toNatClampNeg) 1 = 0) := b30
              (try simp only [z0] at b30)
              refine brn_c (fun b33 => ?_) (fun b33 => ?_)
              · -- 33: mm.1 5 (0 + y.toNatClampNeg) 1 = 0 taken
                replace b33 : ¬ (mm.1 5 (0 + y.toNatClampNeg) 1 = 0) := b33
                (try simp only [z0] at b33)
                refine br_c (fun b42 => ?_) (fun b42 => ?_)
                · -- 42: mm.1 5 (0 + x.toNatClampNeg) 2 = mm.1 5 (0 + y.toNatClampNeg) 2 taken
                  replace b42 : mm.1 5 (0 + x.toNatClampNeg) 2 = mm.1 5 (0 + y.toNatClampNeg) 2 := b42
                  (try simp only [z0] at b42)
                  refine br_c (fun b50 => ?_) (fun b50 => ?_)
                  · -- 50: mm.1 5 (0 + x.toNatClampNeg) 3 < n taken
                    replace b50 : mm.1 5 (0 + x.toNatClampNeg) 3 < n := b50
                    (try simp only [z0] at b50)
                    refine And.intro (show Pre_X11_deny mm [vR 11 0, vI 3] from ⟨_, rfl⟩) ?_
                    refine And.intro (Or.inl rfl) ?_
                    show ((some (vI 0) : Option MV), stC mm 3) = _
                    (try simp only [z0])
                    show _ = cl_pour mm x p y q n
                    unfold cl_pour
                    (try simp only [if_neg b3, if_neg b7, if_neg b9, if_neg b11, if_pos b13, if_neg b30, if_neg b33, if_pos b42, if_pos b50])
                    all_goals exact rfl
                  · -- 50: mm.1 5 (0 + x.toNatClampNeg) 3 < n on
                    replace b50 : ¬ (mm.1 5 (0 + x.toNatClampNeg) 3 < n) := b50
                    (try simp only [z0] at b50)
                    refine br_c (fun b56 => ?_) (fun b56 => ?_)
                    · -- 56: (mm.1 5 (0 + x.toNatClampNeg) 3) - n < p taken
                      replace b56 : (mm.1 5 (0 + x.toNatClampNeg) 3) - n < p := b56
                      (try simp only [z0] at b56)
                      refine And.intro (show Pre_X11_deny mm [vR 11 0, vI 3] from ⟨_, rfl⟩) ?_
                      refine And.intro (Or.inl rfl) ?_
                      show ((some (vI 0) : Option MV), stC mm 3) = _
                      (try simp only [z0])
                      show _ = cl_pour mm x p y q n
                      unfold cl_pour
                      (try simp only [if_neg b3, if_neg b7, if_neg b9, if_neg b11, if_pos b13, if_neg b30, if_neg b33, if_pos b42, if_neg b50, if_pos b56])
                      all_goals exact rfl
                    · -- 56: (mm.1 5 (0 + x.toNatClampNeg) 3) - n < p on
                      replace b56 : ¬ ((mm.1 5 (0 + x.toNatClampNeg) 3) - n < p) := b56
                      (try simp only [z0] at b56)
                      refine br_c (fun b60 => ?_) (fun b60 => ?_)
                      · -- 60: mm.1 5 (0 + y.toNatClampNeg) 3 < n taken
                        replace b60 : mm.1 5 (0 + y.toNatClampNeg) 3 < n := b60
                        (try simp only [z0] at b60)
                        refine And.intro (show Pre_X11_deny mm [vR 11 0, vI 3] from ⟨_, rfl⟩) ?_
                        refine And.intro (Or.inl rfl) ?_
                        show ((some (vI 0) : Option MV), stC mm 3) = _
                        (try simp only [z0])
                        show _ = cl_pour mm x p y q n
                        unfold cl_pour
                        (try simp only [if_neg b3, if_neg b7, if_neg b9, if_neg b11, if_pos b13, if_neg b30, if_neg b33, if_pos b42, if_neg b50, if_neg b56, if_pos b60])
                        all_goals exact rfl
                      · -- 60: mm.1 5 (0 + y.toNatClampNeg) 3 < n on
                        replace b60 : ¬ (mm.1 5 (0 + y.toNatClampNeg) 3 < n) := b60
                        (try simp only [z0] at b60)
                        refine br_c (fun b66 => ?_) (fun b66 => ?_)
                        · -- 66: q ≤ (mm.1 5 (0 + y.toNatClampNeg) 3) - n taken
                          replace b66 : q ≤ (mm.1 5 (0 + y.toNatClampNeg) 3) - n := b66
                          (try simp only [z0] at b66)
                          refine And.intro ⟨b9, b11, Int32.not_lt.mpr b13, po_in (by rw [eic]; exact hT i hi) b13 b9 b50 b56, po_in (by rw [ejc]; exact hT j hj) b13 b11 b60 (Int32.not_lt.mpr b66)⟩ ?_
                          refine And.intro (show Pre_X11_allow (mRowL mm 28 (0 + y.toNatClampNeg) (va_cpy (mm.2.1 28 (0 + x.toNatClampNeg)) (mm.2.1 28 (0 + y.toNatClampNeg)) p.toNatClampNeg q.toNatClampNeg n.toNatClampNeg)) [vR 11 0] from rfl) ?_
                          refine And.intro (Or.inr rfl) ?_
                          show ((some (vI 1) : Option MV), stC (mRowL mm 28 (0 + y.toNatClampNeg) (va_cpy (mm.2.1 28 (0 + x.toNatClampNeg)) (mm.2.1 28 (0 + y.toNatClampNeg)) p.toNatClampNeg q.toNatClampNeg n.toNatClampNeg)) 0) = _
                          (try simp only [z0])
                          show _ = cl_pour mm x p y q n
                          unfold cl_pour
                          (try simp only [if_neg b3, if_neg b7, if_neg b9, if_neg b11, if_pos b13, if_neg b30, if_neg b33, if_pos b42, if_neg b50, if_neg b56, if_neg b60, if_pos b66])
                          all_goals exact rfl
                        · -- 66: q ≤ (mm.1 5 (0 + y.toNatClampNeg) 3) - n on
                          replace b66 : ¬ (q ≤ (mm.1 5 (0 + y.toNatClampNeg) 3) - n) := b66
                          (try simp only [z0] at b66)
                          refine And.intro (show Pre_X11_deny mm [vR 11 0, vI 3] from ⟨_, rfl⟩) ?_
                          refine And.intro (Or.inl rfl) ?_
                          show ((some (vI 0) : Option MV), stC mm 3) = _
                          (try simp only [z0])
                          show _ = cl_pour mm x p y q n
                          unfold cl_pour
                          (try simp only [if_neg b3, if_neg b7, if_neg b9, if_neg b11, if_pos b13, if_neg b30, if_neg b33, if_pos b42, if_neg b50, if_neg b56, if_neg b60, if_neg b66])
                          all_goals exact rfl
                · -- 42: mm.1 5 (0 + x.toNatClampNeg) 2 = mm.1 5 (0 + y.toNatClampNeg) 2 on
                  replace b42 : ¬ (mm.1 5 (0 + x.toNatClampNeg) 2 = mm.1 5 (0 + y.toNatClampNeg) 2) := b42
                  (try simp only [z0] at b42)
                  refine And.intro (show Pre_X11_deny mm [vR 11 0, vI 8] from ⟨_, rfl⟩) ?_
                  refine And.intro (Or.inl rfl) ?_
                  show ((some (vI 0) : Option MV), stC mm 8) = _
                  (try simp only [z0])
                  show _ = cl_pour mm x p y q n
                  unfold cl_pour
                  (try simp only [if_neg b3, if_neg b7, if_neg b9, if_neg b11, if_pos b13, if_neg b30, if_neg b33, if_neg b42])
                  all_goals exact rfl
              · -- 33: mm.1 5 (0 + y.toNatClampNeg) 1 = 0 on
                replace b33 : mm.1 5 (0 + y.toNatClampNeg) 1 = 0 := b33
                (try simp only [z0] at b33)
                refine And.intro (show Pre_X11_deny mm [vR 11 0, vI 2] from ⟨_, rfl⟩) ?_
                refine And.intro (Or.inl rfl) ?_
                show ((some (vI 0) : Option MV), stC mm 2) = _
                (try simp only [z0])
                show _ = cl_pour mm x p y q n
                unfold cl_pour
                (try simp only [if_neg b3, if_neg b7, if_neg b9, if_neg b11, if_pos b13, if_neg b30, if_pos b33])
                all_goals exact rfl
          · -- 13: 0 ≤ n on
            replace b13 : ¬ (0 ≤ n) := b13
            (try simp only [z0] at b13)
            refine And.intro (show Pre_X11_deny mm [vR 11 0, vI 1] from ⟨_, rfl⟩) ?_
            refine And.intro (Or.inl rfl) ?_
            show ((some (vI 0) : Option MV), stC mm 1) = _
            (try simp only [z0])
            show _ = cl_pour mm x p y q n
            unfold cl_pour
            (try simp only [if_neg b3, if_neg b7, if_neg b9, if_neg b11, if_neg b13])
            all_goals exact rfl
theorem con_X11_pour (l : Launch) : CON l y_X11_pour prog_1_method_8_code 8 (some .boolean) rm_X11_pour Pre_X11_pour Fn_X11_pour := CON_of (by decide) rfl rfl (sa_X11_pour l) vc_X11_pour
def cl_feed (m : MM) (a b c d e : Int32) : Option MV × MM := if m.1 4 0 5 ≤ 880 then (some (vI ((apM (apM (apM (apM (apM m a) b) c) d) e).1 4 0 5)), apM (apM (apM (apM (apM m a) b) c) d) e) else (some (vI (-1)), m)
theorem ap_5 (m : MM) (v : Int32) : (apM m v).1 4 0 5 = m.1 4 0 5 + 4 := by
  unfold apM
  exact mI_eq2

def Pre_X11_feed : PreT := fun m as => (∃ n : Nat, m.1 4 0 5 = nI n ∧ n ≤ 900) ∧ ∃ a b c d e : Int32, as = [vR 11 0, vI a, vI b, vI c, vI d, vI e]
def Fn_X11_feed : FnT := fun m as => match as with
  | [_, Sum.inl a, Sum.inl b, Sum.inl c, Sum.inl d, Sum.inl e] => cl_feed m a b c d e
  | _ => (none, m)
abbrev y_X11_feed : MethodName := ⟨"GivenUp", "feed", "(IIIII)I"⟩
def P_X11_feed : List StpT := [s_aload 0, s_getC 11 1 4 0, s_getI 4 5, s_ic (880), s_icle 7, s_ic (-1), s_iret, s_aload 0, s_getC 11 1 4 0, s_iload 1, s_callV 4 1 Pre_X4_append Fn_X4_append, s_aload 0, s_getC 11 1 4 0, s_iload 2, s_callV 4 1 Pre_X4_append Fn_X4_append, s_aload 0, s_getC 11 1 4 0, s_iload 3, s_callV 4 1 Pre_X4_append Fn_X4_append, s_aload 0, s_getC 11 1 4 0, s_iload 4, s_callV 4 1 Pre_X4_append Fn_X4_append, s_aload 0, s_getC 11 1 4 0, s_iload 5, s_callV 4 1 Pre_X4_append Fn_X4_append, s_aload 0, s_getC 11 1 4 0, s_getI 4 5, s_iret]
def pc_X11_feed : Nat → Nat := fun i => [0, 1, 4, 7, 10, 13, 14, 15, 16, 19, 20, 23, 24, 27, 28, 31, 32, 35, 36, 39, 40, 43, 45, 48, 49, 52, 54, 57, 58, 61, 64].getD i 0
def dl_X11_feed : List (Nat × Instr × Nat) := [(0, .aload_n 0, 1), (1, .getfield 18, 3), (4, .getfield 161, 3), (7, .sipush 880, 3), (10, .if_icmp .le 5, 3), (13, .iconst (-1), 1), (14, .ireturn, 1), (15, .aload_n 0, 1), (16, .getfield 18, 3), (19, .iload_n 1, 1), (20, .invokevirtual 164, 3), (23, .aload_n 0, 1), (24, .getfield 18, 3), (27, .iload_n 2, 1), (28, .invokevirtual 164, 3), (31, .aload_n 0, 1), (32, .getfield 18, 3), (35, .iload_n 3, 1), (36, .invokevirtual 164, 3), (39, .aload_n 0, 1), (40, .getfield 18, 3), (43, .iload 4, 2), (45, .invokevirtual 164, 3), (48, .aload_n 0, 1), (49, .getfield 18, 3), (52, .iload 5, 2), (54, .invokevirtual 164, 3), (57, .aload_n 0, 1), (58, .getfield 18, 3), (61, .getfield 161, 3), (64, .ireturn, 1)]
theorem dc_X11_feed : DEC prog_1_method_9_code pc_X11_feed dl_X11_feed := DEC_of (by decide +kernel)
abbrev rm_X11_feed : Room := { frames := 1, cells := 0, slots := 0, locals := 22 }
set_option maxRecDepth 20000 in
theorem sa_X11_feed (l : Launch) : SNDALL l prog_1_method_9_code "GivenUp" 6 (some .int) rm_X11_feed P_X11_feed pc_X11_feed := fun p e s m args below meth c cells slots Q D dA ad A RR hC hR => by
  have hM := RTX_room (R := rm_X11_feed) hR
  exact ⟨st_aload_n hC (n := 0) (k := 0) (dc_X11_feed 0 (0, .aload_n 0, 1) rfl rfl) rfl rfl,
    st_getC hC (n := 1) (k := 11) (j := 1) (dc_X11_feed 1 (1, .getfield 18, 3) rfl rfl) rfl clf_11 (by decide) rfl (by decide) wd_712,
    st_getI hC (n := 2) (k := 4) (j := 5) (dc_X11_feed 2 (4, .getfield 161, 3) rfl rfl) rfl clf_4 (by decide) rfl wd_236,
    st_sipush hC (n := 3) (x := 880) (dc_X11_feed 3 (7, .sipush 880, 3) rfl rfl) rfl (by decide),
    st_icle hC (n := 4) (dc_X11_feed 4 (10, .if_icmp .le 5, 3) rfl rfl) rfl (by decide),
    st_iconst hC (n := 5) (x := (-1)) (dc_X11_feed 5 (13, .iconst (-1), 1) rfl rfl) rfl (by decide),
    st_iret hC (n := 6) hR (dc_X11_feed 6 (14, .ireturn, 1) rfl rfl),
    st_aload_n hC (n := 7) (k := 0) (dc_X11_feed 7 (15, .aload_n 0, 1) rfl rfl) rfl rfl,
    st_getC hC (n := 8) (k := 11) (j := 1) (dc_X11_feed 8 (16, .getfield 18, 3) rfl rfl) rfl clf_11 (by decide) rfl (by decide) wd_712,
    st_iload_n hC (n := 9) (k := 1) (dc_X11_feed 9 (19, .iload_n 1, 1) rfl rfl) rfl rfl,
    st_callV hC (n := 10) (k := 4) (na := 1) (con_X4_append l) (dc_X11_feed 10 (20, .invokevirtual 164, 3) rfl rfl) rfl wd_839 wd_144 (by decide) ⟨rfl, rfl, by decide, by decide⟩ hM wd_836 wd_837 wd_838 clf_4,
    st_aload_n hC (n := 11) (k := 0) (dc_X11_feed 11 (23, .aload_n 0, 1) rfl rfl) rfl rfl,
    st_getC hC (n := 12) (k := 11) (j := 1) (dc_X11_feed 12 (24, .getfield 18, 3) rfl rfl) rfl clf_11 (by decide) rfl (by decide) wd_712,
    st_iload_n hC (n := 13) (k := 2) (dc_X11_feed 13 (27, .iload_n 2, 1) rfl rfl) rfl rfl,
    st_callV hC (n := 14) (k := 4) (na := 1) (con_X4_append l) (dc_X11_feed 14 (28, .invokevirtual 164, 3) rfl rfl) rfl wd_839 wd_144 (by decide) ⟨rfl, rfl, by decide, by decide⟩ hM wd_836 wd_837 wd_838 clf_4,
    st_aload_n hC (n := 15) (k := 0) (dc_X11_feed 15 (31, .aload_n 0, 1) rfl rfl) rfl rfl,
    st_getC hC (n := 16) (k := 11) (j := 1) (dc_X11_feed 16 (32, .getfield 18, 3) rfl rfl) rfl clf_11 (by decide) rfl (by decide) wd_712,
    st_iload_n hC (n := 17) (k := 3) (dc_X11_feed 17 (35, .iload_n 3, 1) rfl rfl) rfl rfl,
    st_callV hC (n := 18) (k := 4) (na := 1) (con_X4_append l) (dc_X11_feed 18 (36, .invokevirtual 164, 3) rfl rfl) rfl wd_839 wd_144 (by decide) ⟨rfl, rfl, by decide, by decide⟩ hM wd_836 wd_837 wd_838 clf_4,
    st_aload_n hC (n := 19) (k := 0) (dc_X11_feed 19 (39, .aload_n 0, 1) rfl rfl) rfl rfl,
    st_getC hC (n := 20) (k := 11) (j := 1) (dc_X11_feed 20 (40, .getfield 18, 3) rfl rfl) rfl clf_11 (by decide) rfl (by decide) wd_712,
    st_iload hC (n := 21) (dc_X11_feed 21 (43, .iload 4, 2) rfl rfl) rfl,
    st_callV hC (n := 22) (k := 4) (na := 1) (con_X4_append l) (dc_X11_feed 22 (45, .invokevirtual 164, 3) rfl rfl) rfl wd_839 wd_144 (by decide) ⟨rfl, rfl, by decide, by decide⟩ hM wd_836 wd_837 wd_838 clf_4,
    st_aload_n hC (n := 23) (k := 0) (dc_X11_feed 23 (48, .aload_n 0, 1) rfl rfl) rfl rfl,
    st_getC hC (n := 24) (k := 11) (j := 1) (dc_X11_feed 24 (49, .getfield 18, 3) rfl rfl) rfl clf_11 (by decide) rfl (by decide) wd_712,
    st_iload hC (n := 25) (dc_X11_feed 25 (52, .iload 5, 2) rfl rfl) rfl,
    st_callV hC (n := 26) (k := 4) (na := 1) (con_X4_append l) (dc_X11_feed 26 (54, .invokevirtual 164, 3) rfl rfl) rfl wd_839 wd_144 (by decide) ⟨rfl, rfl, by decide, by decide⟩ hM wd_836 wd_837 wd_838 clf_4,
    st_aload_n hC (n := 27) (k := 0) (dc_X11_feed 27 (57, .aload_n 0, 1) rfl rfl) rfl rfl,
    st_getC hC (n := 28) (k := 11) (j := 1) (dc_X11_feed 28 (58, .getfield 18, 3) rfl rfl) rfl clf_11 (by decide) rfl (by decide) wd_712,
    st_getI hC (n := 29) (k := 4) (j := 5) (dc_X11_feed 29 (61, .getfield 161, 3) rfl rfl) rfl clf_4 (by decide) rfl wd_236,
    st_iret hC (n := 30) hR (dc_X11_feed 30 (64, .ireturn, 1) rfl rfl), trivial⟩
set_option maxRecDepth 8000 in
theorem vc_X11_feed : VC P_X11_feed 6 Pre_X11_feed Fn_X11_feed := by
  rintro mm as hom hoa ⟨⟨n, en, hn⟩, a, b, c, d, e, rfl⟩
  refine ⟨Nat.le_of_ble_eq_true rfl, fun X h => ?_⟩
  obtain ⟨R, eR⟩ : ∃ R, R = cl_feed mm a b c d e := ⟨_, rfl⟩
  replace h : RUN P_X11_feed (fun r m' => (r, m') = cl_feed mm a b c d e) X := h
  rw [← eR] at h
  unfold cl_feed at eR
  have nx : ∀ M v n, M.1 4 0 5 = nI n → (apM M v).1 4 0 5 = nI (n + 4) := fun M v n hM => by rw [ap_5, hM, show (4 : Int32) = nI 4 from rfl, nI_add]
  by_cases c0 : mm.1 4 0 5 ≤ 880
  · rw [if_pos c0] at eR
    have n880 : n ≤ 880 := by rw [en, show (880 : Int32) = nI 880 from rfl, nI_leI (by omega) (by omega)] at c0; exact c0
    have s27 : ∀ M, R = (some (vI (M.1 4 0 5)), M) → X 27 [some (vR 11 0), some (vI (a)), some (vI (b)), some (vI (c)), some (vI (d)), some (vI (e))] [] (M) := by
      intro M hR
      show X 27 [some (vR 11 0), some (vI a), some (vI b), some (vI c), some (vI d), some (vI e)] [] M
      refine h (fun _ => false) 3000 27 _ _ _ ?_
      show ((some (vI (M.1 4 0 5)) : Option MV), M) = _
      exact hR.symm
    have s23 : ∀ M, M.1 4 0 5 = nI (n + 16) → R = (some (vI ((apM M e).1 4 0 5)), apM M e) → X 23 [some (vR 11 0), some (vI (a)), some (vI (b)), some (vI (c)), some (vI (d)), some (vI (e))] [] (M) := by
      intro M hM hR
      have z := s27 _ hR
      show X 23 [some (vR 11 0), some (vI a), some (vI b), some (vI c), some (vI d), some (vI e)] [] M
      refine h (fun i => Nat.beq i 27) 3000 23 _ _ _ ?_
      refine And.intro (show Pre_X4_append M [vR 4 0, vI e] from ⟨n + 16, e, hM, by omega, rfl⟩) ?_
      show X 27 [some (vR 11 0), some (vI a), some (vI b), some (vI c), some (vI d), some (vI e)] [] (apM M e)
      exact z
    have s19 : ∀ M, M.1 4 0 5 = nI (n + 12) → R = (some (vI ((apM (apM M d) e).1 4 0 5)), apM (apM M d) e) → X 19 [some (vR 11 0), some (vI (a)), some (vI (b)), some (vI (c)), some (vI (d)), some (vI (e))] [] (M) := by
      intro M hM hR
      have z := s23 _ (nx M d _ hM) hR
      show X 19 [some (vR 11 0), some (vI a), some (vI b), some (vI c), some (vI d), some (vI e)] [] M
      refine h (fun i => Nat.beq i 23) 3000 19 _ _ _ ?_
      refine And.intro (show Pre_X4_append M [vR 4 0, vI d] from ⟨n + 12, d, hM, by omega, rfl⟩) ?_
      show X 23 [some (vR 11 0), some (vI a), some (vI b), some (vI c), some (vI d), some (vI e)] [] (apM M d)
      exact z
    have s15 : ∀ M, M.1 4 0 5 = nI (n + 8) → R = (some (vI ((apM (apM (apM M c) d) e).1 4 0 5)), apM (apM (apM M c) d) e) → X 15 [some (vR 11 0), some (vI (a)), some (vI (b)), some (vI (c)), some (vI (d)), some (vI (e))] [] (M) := by
      intro M hM hR
      have z := s19 _ (nx M c _ hM) hR
      show X 15 [some (vR 11 0), some (vI a), some (vI b), some (vI c), some (vI d), some (vI e)] [] M
      refine h (fun i => Nat.beq i 19) 3000 15 _ _ _ ?_
      refine And.intro (show Pre_X4_append M [vR 4 0, vI c] from ⟨n + 8, c, hM, by omega, rfl⟩) ?_
      show X 19 [some (vR 11 0), some (vI a), some (vI b), some (vI c), some (vI d), some (vI e)] [] (apM M c)
      exact z
    have s11 : ∀ M, M.1 4 0 5 = nI (n + 4) → R = (some (vI ((apM (apM (apM (apM M b) c) d) e).1 4 0 5)), apM (apM (apM (apM M b) c) d) e) → X 11 [some (vR 11 0), some (vI (a)), some (vI (b)), some (vI (c)), some (vI (d)), some (vI (e))] [] (M) := by
      intro M hM hR
      have z := s15 _ (nx M b _ hM) hR
      show X 11 [some (vR 11 0), some (vI a), some (vI b), some (vI c), some (vI d), some (vI e)] [] M
      refine h (fun i => Nat.beq i 15) 3000 11 _ _ _ ?_
      refine And.intro (show Pre_X4_append M [vR 4 0, vI b] from ⟨n + 4, b, hM, by omega, rfl⟩) ?_
      show X 15 [some (vR 11 0), some (vI a), some (vI b), some (vI c), some (vI d), some (vI e)] [] (apM M b)
      exact z
    have z := s11 _ (nx mm a _ en) eR
    show X 0 [some (vR 11 0), some (vI a), some (vI b), some (vI c), some (vI d), some (vI e)] [] mm
    refine h (fun i => Nat.beq i 11) 3000 0 _ _ _ ?_
    refine br_t (show mm.1 4 0 5 ≤ 880 from c0) ?_
    refine And.intro (show Pre_X4_append mm [vR 4 0, vI a] from ⟨n, a, en, by omega, rfl⟩) ?_
    show X 11 [some (vR 11 0), some (vI a), some (vI b), some (vI c), some (vI d), some (vI e)] [] (apM mm a)
    exact z
  · rw [if_neg c0] at eR
    show X 0 [some (vR 11 0), some (vI a), some (vI b), some (vI c), some (vI d), some (vI e)] [] mm
    refine h (fun _ => false) 3000 0 _ _ _ ?_
    refine br_f (show ¬ (mm.1 4 0 5 ≤ 880) from c0) ?_
    show ((some (vI (-1)) : Option MV), mm) = _
    exact eR.symm
theorem con_X11_feed (l : Launch) : CON l y_X11_feed prog_1_method_9_code 6 (some .int) rm_X11_feed Pre_X11_feed Fn_X11_feed := CON_of (by decide) rfl rfl (sa_X11_feed l) vc_X11_feed
end
