/-! PART 90: the class: calls that only look -/

noncomputable section
def rfC (m : MM) (x : Int32) : Option MV × MM := (some (vI (-1)), stC m x)
def gvC (m : MM) (v : Int32) : Option MV × MM := (some (vI v), stC m 0)
def onC (m : MM) (v : Int32) : Option MV × MM := (some (vI (if v < 0 then -1 else v)), stC m (if v < 0 then 6 else 0))
def dnC (m : MM) (x : Int32) : Option MV × MM := (some (vI 0), stC m x)
def alC (m : MM) : Option MV × MM := (some (vI 1), stC m 0)
theorem ou_in {A x : Int32} {n : Nat} (hA : A = nI n) (hn : n < 2 ^ 31) (h : ¬ (x < 0 ∨ A ≤ x)) : ∃ i, i < n ∧ x = nI i := arg_in (fun z => h (Or.inl z)) (by rw [← hA]; exact fun z => h (Or.inr z)) hn
/-- the valley of now is sound -/
def VN (m : MM) (ns nm nt : Nat) : Prop := VC2 m (m.2.2 0) ns nm nt
def VNx (m : MM) : Prop := ∃ ns nm nt, VN m ns nm nt
abbrev npC (m : MM) (s d : Int32) : Prop := (s < 0 ∨ m.1 6 (m.2.2 0) 13 ≤ s) ∨ (d < 0 ∨ m.1 6 (m.2.2 0) 14 ≤ d)

--tpl ⟨_, _, rfl⟩ || bI (npC {m} {1} {2})
def Pre_X11_isNoPair : PreT := fun _ as => ∃ s d : Int32, as = [vR 11 0, vI s, vI d]
def Fn_X11_isNoPair : FnT := fun m as => match as with
  | [_, Sum.inl s, Sum.inl d] => (some (vI (bI (npC m s d))), m)
  | _ => (none, m)
abbrev y_X11_isNoPair : MethodName := ⟨"GivenUp", "isNoPair", "(II)Z"⟩
def P_X11_isNoPair : List StpT := [s_iload 1, s_aload 0, s_getD 11 12 6 0, s_getI 6 13, s_callS 2 Pre_X11_isOut Fn_X11_isOut, s_ifne 12, s_iload 2, s_aload 0, s_getD 11 12 6 0, s_getI 6 14, s_callS 2 Pre_X11_isOut Fn_X11_isOut, s_ifeq 14, s_ic (1), s_goto 15, s_ic (0), s_zret]
def pc_X11_isNoPair : Nat → Nat := fun i => [0, 1, 2, 5, 8, 11, 14, 15, 16, 19, 22, 25, 28, 29, 32, 33].getD i 0
def dl_X11_isNoPair : List (Nat × Instr × Nat) := [(0, .iload_n 1, 1), (1, .aload_n 0, 1), (2, .getfield 87, 3), (5, .getfield 197, 3), (8, .invokestatic 115, 3), (11, .ifCond .ne 17, 3), (14, .iload_n 2, 1), (15, .aload_n 0, 1), (16, .getfield 87, 3), (19, .getfield 200, 3), (22, .invokestatic 115, 3), (25, .ifCond .eq 7, 3), (28, .iconst 1, 1), (29, .goto 4, 3), (32, .iconst 0, 1), (33, .ireturn, 1)]
theorem dc_X11_isNoPair : DEC prog_1_method_72_code pc_X11_isNoPair dl_X11_isNoPair := DEC_of (by decide +kernel)
abbrev rm_X11_isNoPair : Room := { frames := 1, cells := 0, slots := 0, locals := 21 }
set_option maxRecDepth 20000 in
theorem sa_X11_isNoPair (l : Launch) : SNDALL l prog_1_method_72_code "GivenUp" 3 (some .boolean) rm_X11_isNoPair P_X11_isNoPair pc_X11_isNoPair := fun p e s m args below meth c cells slots Q D dA ad A RR hC hR => by
  have hM := RTX_room (R := rm_X11_isNoPair) hR
  exact ⟨st_iload_n hC (n := 0) (k := 1) (dc_X11_isNoPair 0 (0, .iload_n 1, 1) rfl rfl) rfl rfl,
    st_aload_n hC (n := 1) (k := 0) (dc_X11_isNoPair 1 (1, .aload_n 0, 1) rfl rfl) rfl rfl,
    st_getD hC (n := 2) (k := 11) (j := 12) (dc_X11_isNoPair 2 (2, .getfield 87, 3) rfl rfl) rfl clf_11 (by decide) rfl (by decide) wd_723,
    st_getI hC (n := 3) (k := 6) (j := 13) (dc_X11_isNoPair 3 (5, .getfield 197, 3) rfl rfl) rfl clf_6 (by decide) rfl wd_622,
    st_callS hC (n := 4) (na := 2) (con_X11_isOut l) (dc_X11_isNoPair 4 (8, .invokestatic 115, 3) rfl rfl) rfl wd_790 wd_143 (by decide) ⟨rfl, rfl, by decide, by decide⟩ hM wd_788 wd_789,
    st_ifne hC (n := 5) (dc_X11_isNoPair 5 (11, .ifCond .ne 17, 3) rfl rfl) rfl (by decide),
    st_iload_n hC (n := 6) (k := 2) (dc_X11_isNoPair 6 (14, .iload_n 2, 1) rfl rfl) rfl rfl,
    st_aload_n hC (n := 7) (k := 0) (dc_X11_isNoPair 7 (15, .aload_n 0, 1) rfl rfl) rfl rfl,
    st_getD hC (n := 8) (k := 11) (j := 12) (dc_X11_isNoPair 8 (16, .getfield 87, 3) rfl rfl) rfl clf_11 (by decide) rfl (by decide) wd_723,
    st_getI hC (n := 9) (k := 6) (j := 14) (dc_X11_isNoPair 9 (19, .getfield 200, 3) rfl rfl) rfl clf_6 (by decide) rfl wd_628,
    st_callS hC (n := 10) (na := 2) (con_X11_isOut l) (dc_X11_isNoPair 10 (22, .invokestatic 115, 3) rfl rfl) rfl wd_790 wd_143 (by decide) ⟨rfl, rfl, by decide, by decide⟩ hM wd_788 wd_789,
    st_ifeq hC (n := 11) (dc_X11_isNoPair 11 (25, .ifCond .eq 7, 3) rfl rfl) rfl (by decide),
    st_iconst hC (n := 12) (x := 1) (dc_X11_isNoPair 12 (28, .iconst 1, 1) rfl rfl) rfl (by decide),
    st_goto hC (n := 13) (dc_X11_isNoPair 13 (29, .goto 4, 3) rfl rfl) (by decide),
    st_iconst hC (n := 14) (x := 0) (dc_X11_isNoPair 14 (32, .iconst 0, 1) rfl rfl) rfl (by decide),
    st_zret hC (n := 15) hR (dc_X11_isNoPair 15 (33, .ireturn, 1) rfl rfl), trivial⟩
set_option maxRecDepth 8000 in
theorem vc_X11_isNoPair : VC P_X11_isNoPair 3 Pre_X11_isNoPair Fn_X11_isNoPair := by
  rintro mm as hom hoa ⟨s, d, rfl⟩
  refine ⟨Nat.le_of_ble_eq_true rfl, fun X h => ?_⟩
  show X 0 [some (vR 11 0), some (vI s), some (vI d)] [] mm
  refine h (fun _ => false) 3000 0 _ _ _ ?_
  refine And.intro (show Pre_X11_isOut mm [vI s, vI (mm.1 6 (mm.2.2 0) 13)] from ⟨_, _, rfl⟩) ?_
  refine brn_c (fun b5 => ?_) (fun b5 => ?_)
  · -- 5: bI (s < 0 ∨ (mm.1 6 (mm.2.2 0) 13) ≤ s) = 0 taken
    replace b5 : s < 0 ∨ (mm.1 6 (mm.2.2 0) 13) ≤ s := bI_n0.mp b5
    refine And.intro (Or.inr rfl) ?_
    show ((some (vI 1) : Option MV), mm) = _
    exact ret_t (Or.inl b5)
  · -- 5: bI (s < 0 ∨ (mm.1 6 (mm.2.2 0) 13) ≤ s) = 0 on
    replace b5 : ¬ (s < 0 ∨ (mm.1 6 (mm.2.2 0) 13) ≤ s) := bI_0.mp b5
    refine And.intro (show Pre_X11_isOut mm [vI d, vI (mm.1 6 (mm.2.2 0) 14)] from ⟨_, _, rfl⟩) ?_
    refine br_c (fun b11 => ?_) (fun b11 => ?_)
    · -- 11: bI (d < 0 ∨ (mm.1 6 (mm.2.2 0) 14) ≤ d) = 0 taken
      replace b11 : ¬ (d < 0 ∨ (mm.1 6 (mm.2.2 0) 14) ≤ d) := bI_0.mp b11
      refine And.intro (Or.inl rfl) ?_
      show ((some (vI 0) : Option MV), mm) = _
      exact ret_f (fun z => z.elim b5 b11)
    · -- 11: bI (d < 0 ∨ (mm.1 6 (mm.2.2 0) 14) ≤ d) = 0 on
      replace b11 : d < 0 ∨ (mm.1 6 (mm.2.2 0) 14) ≤ d := bI_n0.mp b11
      refine And.intro (Or.inr rfl) ?_
      show ((some (vI 1) : Option MV), mm) = _
      exact ret_t (Or.inr b11)
theorem con_X11_isNoPair (l : Launch) : CON l y_X11_isNoPair prog_1_method_72_code 3 (some .boolean) rm_X11_isNoPair Pre_X11_isNoPair Fn_X11_isNoPair := CON_of (by decide) rfl rfl (sa_X11_isNoPair l) vc_X11_isNoPair
def cl_may (m : MM) (x : Int32) : Option MV × MM := if x < 0 ∨ m.1 6 (m.2.2 0) 13 ≤ x then rfC m 1 else gvC m (myA (abV m (m.2.2 0)) x (m.1 6 (m.2.2 0) 15).toNatClampNeg)

def Pre_X11_may : PreT := fun m as => VNx m ∧ ∃ x : Int32, as = [vR 11 0, vI x]
def Fn_X11_may : FnT := fun m as => match as with
  | [_, Sum.inl x] => cl_may m x
  | _ => (none, m)
abbrev y_X11_may : MethodName := ⟨"GivenUp", "may", "(I)I"⟩
def P_X11_may : List StpT := [s_iload 1, s_aload 0, s_getD 11 12 6 0, s_getI 6 13, s_callS 2 Pre_X11_isOut Fn_X11_isOut, s_ifeq 10, s_aload 0, s_ic (1), s_callV 11 1 Pre_X11_refuse Fn_X11_refuse, s_iret, s_aload 0, s_aload 0, s_getD 11 12 6 0, s_iload 1, s_callV 6 1 Pre_X6_givable Fn_X6_givable, s_callV 11 1 Pre_X11_answer Fn_X11_answer, s_iret]
def pc_X11_may : Nat → Nat := fun i => [0, 1, 2, 5, 8, 11, 14, 15, 16, 19, 20, 21, 22, 25, 26, 29, 32].getD i 0
def dl_X11_may : List (Nat × Instr × Nat) := [(0, .iload_n 1, 1), (1, .aload_n 0, 1), (2, .getfield 87, 3), (5, .getfield 197, 3), (8, .invokestatic 115, 3), (11, .ifCond .eq 9, 3), (14, .aload_n 0, 1), (15, .iconst 1, 1), (16, .invokevirtual 139, 3), (19, .ireturn, 1), (20, .aload_n 0, 1), (21, .aload_n 0, 1), (22, .getfield 87, 3), (25, .iload_n 1, 1), (26, .invokevirtual 306, 3), (29, .invokevirtual 178, 3), (32, .ireturn, 1)]
theorem dc_X11_may : DEC prog_1_method_22_code pc_X11_may dl_X11_may := DEC_of (by decide +kernel)
abbrev rm_X11_may : Room := { frames := 3, cells := 0, slots := 0, locals := 66 }
set_option maxRecDepth 20000 in
theorem sa_X11_may (l : Launch) : SNDALL l prog_1_method_22_code "GivenUp" 2 (some .int) rm_X11_may P_X11_may pc_X11_may := fun p e s m args below meth c cells slots Q D dA ad A RR hC hR => by
  have hM := RTX_room (R := rm_X11_may) hR
  exact ⟨st_iload_n hC (n := 0) (k := 1) (dc_X11_may 0 (0, .iload_n 1, 1) rfl rfl) rfl rfl,
    st_aload_n hC (n := 1) (k := 0) (dc_X11_may 1 (1, .aload_n 0, 1) rfl rfl) rfl rfl,
    st_getD hC (n := 2) (k := 11) (j := 12) (dc_X11_may 2 (2, .getfield 87, 3) rfl rfl) rfl clf_11 (by decide) rfl (by decide) wd_723,
    st_getI hC (n := 3) (k := 6) (j := 13) (dc_X11_may 3 (5, .getfield 197, 3) rfl rfl) rfl clf_6 (by decide) rfl wd_622,
    st_callS hC (n := 4) (na := 2) (con_X11_isOut l) (dc_X11_may 4 (8, .invokestatic 115, 3) rfl rfl) rfl wd_790 wd_143 (by decide) ⟨rfl, rfl, by decide, by decide⟩ hM wd_788 wd_789,
    st_ifeq hC (n := 5) (dc_X11_may 5 (11, .ifCond .eq 9, 3) rfl rfl) rfl (by decide),
    st_aload_n hC (n := 6) (k := 0) (dc_X11_may 6 (14, .aload_n 0, 1) rfl rfl) rfl rfl,
    st_iconst hC (n := 7) (x := 1) (dc_X11_may 7 (15, .iconst 1, 1) rfl rfl) rfl (by decide),
    st_callV hC (n := 8) (k := 11) (na := 1) (con_X11_refuse l) (dc_X11_may 8 (16, .invokevirtual 139, 3) rfl rfl) rfl wd_824 wd_143 (by decide) ⟨rfl, rfl, by decide, by decide⟩ hM wd_821 wd_823 wd_3 clf_11,
    st_iret hC (n := 9) hR (dc_X11_may 9 (19, .ireturn, 1) rfl rfl),
    st_aload_n hC (n := 10) (k := 0) (dc_X11_may 10 (20, .aload_n 0, 1) rfl rfl) rfl rfl,
    st_aload_n hC (n := 11) (k := 0) (dc_X11_may 11 (21, .aload_n 0, 1) rfl rfl) rfl rfl,
    st_getD hC (n := 12) (k := 11) (j := 12) (dc_X11_may 12 (22, .getfield 87, 3) rfl rfl) rfl clf_11 (by decide) rfl (by decide) wd_723,
    st_iload_n hC (n := 13) (k := 1) (dc_X11_may 13 (25, .iload_n 1, 1) rfl rfl) rfl rfl,
    st_callV hC (n := 14) (k := 6) (na := 1) (con_X6_givable l) (dc_X11_may 14 (26, .invokevirtual 306, 3) rfl rfl) rfl wd_1127 wd_155 (by decide) ⟨rfl, rfl, by decide, by decide⟩ hM wd_1124 wd_1125 wd_1126 clf_6,
    st_callV hC (n := 15) (k := 11) (na := 1) (con_X11_answer l) (dc_X11_may 15 (29, .invokevirtual 178, 3) rfl rfl) rfl wd_967 wd_143 (by decide) ⟨rfl, rfl, by decide, by decide⟩ hM wd_964 wd_966 wd_17 clf_11,
    st_iret hC (n := 16) hR (dc_X11_may 16 (32, .ireturn, 1) rfl rfl), trivial⟩
set_option maxRecDepth 8000 in
theorem vc_X11_may : VC P_X11_may 2 Pre_X11_may Fn_X11_may := by
  rintro mm as hom hoa ⟨⟨ns, nm, nt, hV⟩, x, rfl⟩
  refine ⟨Nat.le_of_ble_eq_true rfl, fun X h => ?_⟩
  have hS : mm.1 6 (mm.2.2 0) 13 = nI ns := hV.1.1.1
  have hn4 : ns ≤ 4 := hV.1.1.2
  have hN : mm.1 6 (mm.2.2 0) 14 = nI nm := hV.1.2.1.1
  have hm4 : nm ≤ 4 := hV.1.2.1.2
  have hT : mm.1 6 (mm.2.2 0) 15 = nI nt := hV.1.2.2.1.1
  have ht12 : nt ≤ 12 := hV.1.2.2.1.2
  show X 0 [some (vR 11 0), some (vI x)] [] mm
  refine h (fun _ => false) 3000 0 _ _ _ ?_
  refine And.intro (show Pre_X11_isOut mm [vI x, vI (mm.1 6 (mm.2.2 0) 13)] from ⟨_, _, rfl⟩) ?_
  refine br_c (fun b5 => ?_) (fun b5 => ?_)
  · -- 5: bI (x < 0 ∨ (mm.1 6 (mm.2.2 0) 13) ≤ x) = 0 taken
    replace b5 : ¬ (x < 0 ∨ (mm.1 6 (mm.2.2 0) 13) ≤ x) := bI_0.mp b5
    obtain ⟨i, hi, ex⟩ := ou_in hS (by omega) b5
    refine And.intro (show Pre_X6_givable mm [vR 6 (mm.2.2 0), vI x] from ⟨_, ns, nm, nt, hV, _, rfl⟩) ?_
    refine And.intro (show Pre_X11_answer mm [vR 11 0, vI (myA (abV mm (mm.2.2 0)) x (mm.1 6 (mm.2.2 0) 15).toNatClampNeg)] from ⟨_, rfl⟩) ?_
    show ((some (vI (myA (abV mm (mm.2.2 0)) x (mm.1 6 (mm.2.2 0) 15).toNatClampNeg)) : Option MV), stC mm 0) = _
    show _ = cl_may mm x
    unfold cl_may
    (try simp only [if_neg b5])
    all_goals exact rfl
  · -- 5: bI (x < 0 ∨ (mm.1 6 (mm.2.2 0) 13) ≤ x) = 0 on
    replace b5 : x < 0 ∨ (mm.1 6 (mm.2.2 0) 13) ≤ x := bI_n0.mp b5
    skip
    refine And.intro (show Pre_X11_refuse mm [vR 11 0, vI 1] from ⟨_, rfl⟩) ?_
    show ((some (vI (-1)) : Option MV), stC mm 1) = _
    show _ = cl_may mm x
    unfold cl_may
    (try simp only [if_pos b5])
    all_goals exact rfl
theorem con_X11_may (l : Launch) : CON l y_X11_may prog_1_method_22_code 2 (some .int) rm_X11_may Pre_X11_may Fn_X11_may := CON_of (by decide) rfl rfl (sa_X11_may l) vc_X11_may
def cl_bare (m : MM) (x : Int32) : Option MV × MM := if x < 0 ∨ m.1 6 (m.2.2 0) 13 ≤ x then rfC m 1 else gvC m (bI (thA (abV m (m.2.2 0)) x &&& ((abV m (m.2.2 0)) 8 ^^^ (-1)) = 0))

def Pre_X11_bare : PreT := fun m as => VNx m ∧ ∃ x : Int32, as = [vR 11 0, vI x]
def Fn_X11_bare : FnT := fun m as => match as with
  | [_, Sum.inl x] => cl_bare m x
  | _ => (none, m)
abbrev y_X11_bare : MethodName := ⟨"GivenUp", "bare", "(I)I"⟩
def P_X11_bare : List StpT := [s_iload 1, s_aload 0, s_getD 11 12 6 0, s_getI 6 13, s_callS 2 Pre_X11_isOut Fn_X11_isOut, s_ifeq 10, s_aload 0, s_ic (1), s_callV 11 1 Pre_X11_refuse Fn_X11_refuse, s_iret, s_aload 0, s_aload 0, s_getD 11 12 6 0, s_iload 1, s_callV 6 1 Pre_X6_isBare Fn_X6_isBare, s_ifeq 18, s_ic (1), s_goto 19, s_ic (0), s_callV 11 1 Pre_X11_answer Fn_X11_answer, s_iret]
def pc_X11_bare : Nat → Nat := fun i => [0, 1, 2, 5, 8, 11, 14, 15, 16, 19, 20, 21, 22, 25, 26, 29, 32, 33, 36, 37, 40].getD i 0
def dl_X11_bare : List (Nat × Instr × Nat) := [(0, .iload_n 1, 1), (1, .aload_n 0, 1), (2, .getfield 87, 3), (5, .getfield 197, 3), (8, .invokestatic 115, 3), (11, .ifCond .eq 9, 3), (14, .aload_n 0, 1), (15, .iconst 1, 1), (16, .invokevirtual 139, 3), (19, .ireturn, 1), (20, .aload_n 0, 1), (21, .aload_n 0, 1), (22, .getfield 87, 3), (25, .iload_n 1, 1), (26, .invokevirtual 327, 3), (29, .ifCond .eq 7, 3), (32, .iconst 1, 1), (33, .goto 4, 3), (36, .iconst 0, 1), (37, .invokevirtual 178, 3), (40, .ireturn, 1)]
theorem dc_X11_bare : DEC prog_1_method_30_code pc_X11_bare dl_X11_bare := DEC_of (by decide +kernel)
abbrev rm_X11_bare : Room := { frames := 2, cells := 0, slots := 0, locals := 44 }
set_option maxRecDepth 20000 in
theorem sa_X11_bare (l : Launch) : SNDALL l prog_1_method_30_code "GivenUp" 2 (some .int) rm_X11_bare P_X11_bare pc_X11_bare := fun p e s m args below meth c cells slots Q D dA ad A RR hC hR => by
  have hM := RTX_room (R := rm_X11_bare) hR
  exact ⟨st_iload_n hC (n := 0) (k := 1) (dc_X11_bare 0 (0, .iload_n 1, 1) rfl rfl) rfl rfl,
    st_aload_n hC (n := 1) (k := 0) (dc_X11_bare 1 (1, .aload_n 0, 1) rfl rfl) rfl rfl,
    st_getD hC (n := 2) (k := 11) (j := 12) (dc_X11_bare 2 (2, .getfield 87, 3) rfl rfl) rfl clf_11 (by decide) rfl (by decide) wd_723,
    st_getI hC (n := 3) (k := 6) (j := 13) (dc_X11_bare 3 (5, .getfield 197, 3) rfl rfl) rfl clf_6 (by decide) rfl wd_622,
    st_callS hC (n := 4) (na := 2) (con_X11_isOut l) (dc_X11_bare 4 (8, .invokestatic 115, 3) rfl rfl) rfl wd_790 wd_143 (by decide) ⟨rfl, rfl, by decide, by decide⟩ hM wd_788 wd_789,
    st_ifeq hC (n := 5) (dc_X11_bare 5 (11, .ifCond .eq 9, 3) rfl rfl) rfl (by decide),
    st_aload_n hC (n := 6) (k := 0) (dc_X11_bare 6 (14, .aload_n 0, 1) rfl rfl) rfl rfl,
    st_iconst hC (n := 7) (x := 1) (dc_X11_bare 7 (15, .iconst 1, 1) rfl rfl) rfl (by decide),
    st_callV hC (n := 8) (k := 11) (na := 1) (con_X11_refuse l) (dc_X11_bare 8 (16, .invokevirtual 139, 3) rfl rfl) rfl wd_824 wd_143 (by decide) ⟨rfl, rfl, by decide, by decide⟩ hM wd_821 wd_823 wd_3 clf_11,
    st_iret hC (n := 9) hR (dc_X11_bare 9 (19, .ireturn, 1) rfl rfl),
    st_aload_n hC (n := 10) (k := 0) (dc_X11_bare 10 (20, .aload_n 0, 1) rfl rfl) rfl rfl,
    st_aload_n hC (n := 11) (k := 0) (dc_X11_bare 11 (21, .aload_n 0, 1) rfl rfl) rfl rfl,
    st_getD hC (n := 12) (k := 11) (j := 12) (dc_X11_bare 12 (22, .getfield 87, 3) rfl rfl) rfl clf_11 (by decide) rfl (by decide) wd_723,
    st_iload_n hC (n := 13) (k := 1) (dc_X11_bare 13 (25, .iload_n 1, 1) rfl rfl) rfl rfl,
    st_callV hC (n := 14) (k := 6) (na := 1) (con_X6_isBare l) (dc_X11_bare 14 (26, .invokevirtual 327, 3) rfl rfl) rfl wd_1206 wd_155 (by decide) ⟨rfl, rfl, by decide, by decide⟩ hM wd_1203 wd_1204 wd_1205 clf_6,
    st_ifeq hC (n := 15) (dc_X11_bare 15 (29, .ifCond .eq 7, 3) rfl rfl) rfl (by decide),
    st_iconst hC (n := 16) (x := 1) (dc_X11_bare 16 (32, .iconst 1, 1) rfl rfl) rfl (by decide),
    st_goto hC (n := 17) (dc_X11_bare 17 (33, .goto 4, 3) rfl rfl) (by decide),
    st_iconst hC (n := 18) (x := 0) (dc_X11_bare 18 (36, .iconst 0, 1) rfl rfl) rfl (by decide),
    st_callV hC (n := 19) (k := 11) (na := 1) (con_X11_answer l) (dc_X11_bare 19 (37, .invokevirtual 178, 3) rfl rfl) rfl wd_967 wd_143 (by decide) ⟨rfl, rfl, by decide, by decide⟩ hM wd_964 wd_966 wd_17 clf_11,
    st_iret hC (n := 20) hR (dc_X11_bare 20 (40, .ireturn, 1) rfl rfl), trivial⟩
set_option maxRecDepth 8000 in
theorem vc_X11_bare : VC P_X11_bare 2 Pre_X11_bare Fn_X11_bare := by
  rintro mm as hom hoa ⟨⟨ns, nm, nt, hV⟩, x, rfl⟩
  refine ⟨Nat.le_of_ble_eq_true rfl, fun X h => ?_⟩
  have hS : mm.1 6 (mm.2.2 0) 13 = nI ns := hV.1.1.1
  have hn4 : ns ≤ 4 := hV.1.1.2
  have hN : mm.1 6 (mm.2.2 0) 14 = nI nm := hV.1.2.1.1
  have hm4 : nm ≤ 4 := hV.1.2.1.2
  have hT : mm.1 6 (mm.2.2 0) 15 = nI nt := hV.1.2.2.1.1
  have ht12 : nt ≤ 12 := hV.1.2.2.1.2
  show X 0 [some (vR 11 0), some (vI x)] [] mm
  refine h (fun _ => false) 3000 0 _ _ _ ?_
  refine And.intro (show Pre_X11_isOut mm [vI x, vI (mm.1 6 (mm.2.2 0) 13)] from ⟨_, _, rfl⟩) ?_
  refine br_c (fun b5 => ?_) (fun b5 => ?_)
  · -- 5: bI (x < 0 ∨ (mm.1 6 (mm.2.2 0) 13) ≤ x) = 0 taken
    replace b5 : ¬ (x < 0 ∨ (mm.1 6 (mm.2.2 0) 13) ≤ x) := bI_0.mp b5
    obtain ⟨i, hi, ex⟩ := ou_in hS (by omega) b5
    refine And.intro (show Pre_X6_isBare mm [vR 6 (mm.2.2 0), vI x] from ⟨_, ns, nm, nt, hV, _, rfl⟩) ?_
    refine br_c (fun b15 => ?_) (fun b15 => ?_)
    · -- 15: bI (thA (abV mm (mm.2.2 0)) x &&& (abV mm (mm.2.2 0) 8 ^^^ (-1)) = 0) = 0 taken
      replace b15 : ¬ (thA (abV mm (mm.2.2 0)) x &&& (abV mm (mm.2.2 0) 8 ^^^ (-1)) = 0) := bI_0.mp b15
      refine And.intro (show Pre_X11_answer mm [vR 11 0, vI 0] from ⟨_, rfl⟩) ?_
      show ((some (vI 0) : Option MV), stC mm 0) = _
      show _ = cl_bare mm x
      unfold cl_bare
      rw [if_neg b5, bI_f b15]
      rfl
    · -- 15: bI (thA (abV mm (mm.2.2 0)) x &&& (abV mm (mm.2.2 0) 8 ^^^ (-1)) = 0) = 0 on
      replace b15 : thA (abV mm (mm.2.2 0)) x &&& (abV mm (mm.2.2 0) 8 ^^^ (-1)) = 0 := bI_n0.mp b15
      refine And.intro (show Pre_X11_answer mm [vR 11 0, vI 1] from ⟨_, rfl⟩) ?_
      show ((some (vI 1) : Option MV), stC mm 0) = _
      show _ = cl_bare mm x
      unfold cl_bare
      rw [if_neg b5, bI_t b15]
      rfl
  · -- 5: bI (x < 0 ∨ (mm.1 6 (mm.2.2 0) 13) ≤ x) = 0 on
    replace b5 : x < 0 ∨ (mm.1 6 (mm.2.2 0) 13) ≤ x := bI_n0.mp b5
    skip
    refine And.intro (show Pre_X11_refuse mm [vR 11 0, vI 1] from ⟨_, rfl⟩) ?_
    show ((some (vI (-1)) : Option MV), stC mm 1) = _
    exact (if_pos b5).symm
theorem con_X11_bare (l : Launch) : CON l y_X11_bare prog_1_method_30_code 2 (some .int) rm_X11_bare Pre_X11_bare Fn_X11_bare := CON_of (by decide) rfl rfl (sa_X11_bare l) vc_X11_bare
def cl_wouldHave (m : MM) (x : Int32) : Option MV × MM := if x < 0 ∨ m.1 6 (m.2.2 0) 14 ≤ x then rfC m 1 else onC m (chA (abV m (m.2.2 0)) x.toNatClampNeg (m.1 6 (m.2.2 0) 13).toNatClampNeg)

def Pre_X11_wouldHave : PreT := fun m as => VNx m ∧ ∃ x : Int32, as = [vR 11 0, vI x]
def Fn_X11_wouldHave : FnT := fun m as => match as with
  | [_, Sum.inl x] => cl_wouldHave m x
  | _ => (none, m)
abbrev y_X11_wouldHave : MethodName := ⟨"GivenUp", "wouldHave", "(I)I"⟩
def P_X11_wouldHave : List StpT := [s_iload 1, s_aload 0, s_getD 11 12 6 0, s_getI 6 14, s_callS 2 Pre_X11_isOut Fn_X11_isOut, s_ifeq 10, s_aload 0, s_ic (1), s_callV 11 1 Pre_X11_refuse Fn_X11_refuse, s_iret, s_aload 0, s_aload 0, s_getD 11 12 6 0, s_iload 1, s_callV 6 1 Pre_X6_chosenBy Fn_X6_chosenBy, s_callV 11 1 Pre_X11_answerOrNone Fn_X11_answerOrNone, s_iret]
def pc_X11_wouldHave : Nat → Nat := fun i => [0, 1, 2, 5, 8, 11, 14, 15, 16, 19, 20, 21, 22, 25, 26, 29, 32].getD i 0
def dl_X11_wouldHave : List (Nat × Instr × Nat) := [(0, .iload_n 1, 1), (1, .aload_n 0, 1), (2, .getfield 87, 3), (5, .getfield 200, 3), (8, .invokestatic 115, 3), (11, .ifCond .eq 9, 3), (14, .aload_n 0, 1), (15, .iconst 1, 1), (16, .invokevirtual 139, 3), (19, .ireturn, 1), (20, .aload_n 0, 1), (21, .aload_n 0, 1), (22, .getfield 87, 3), (25, .iload_n 1, 1), (26, .invokevirtual 330, 3), (29, .invokevirtual 249, 3), (32, .ireturn, 1)]
theorem dc_X11_wouldHave : DEC prog_1_method_31_code pc_X11_wouldHave dl_X11_wouldHave := DEC_of (by decide +kernel)
abbrev rm_X11_wouldHave : Room := { frames := 4, cells := 0, slots := 0, locals := 94 }
set_option maxRecDepth 20000 in
theorem sa_X11_wouldHave (l : Launch) : SNDALL l prog_1_method_31_code "GivenUp" 2 (some .int) rm_X11_wouldHave P_X11_wouldHave pc_X11_wouldHave := fun p e s m args below meth c cells slots Q D dA ad A RR hC hR => by
  have hM := RTX_room (R := rm_X11_wouldHave) hR
  exact ⟨st_iload_n hC (n := 0) (k := 1) (dc_X11_wouldHave 0 (0, .iload_n 1, 1) rfl rfl) rfl rfl,
    st_aload_n hC (n := 1) (k := 0) (dc_X11_wouldHave 1 (1, .aload_n 0, 1) rfl rfl) rfl rfl,
    st_getD hC (n := 2) (k := 11) (j := 12) (dc_X11_wouldHave 2 (2, .getfield 87, 3) rfl rfl) rfl clf_11 (by decide) rfl (by decide) wd_723,
    st_getI hC (n := 3) (k := 6) (j := 14) (dc_X11_wouldHave 3 (5, .getfield 200, 3) rfl rfl) rfl clf_6 (by decide) rfl wd_628,
    st_callS hC (n := 4) (na := 2) (con_X11_isOut l) (dc_X11_wouldHave 4 (8, .invokestatic 115, 3) rfl rfl) rfl wd_790 wd_143 (by decide) ⟨rfl, rfl, by decide, by decide⟩ hM wd_788 wd_789,
    st_ifeq hC (n := 5) (dc_X11_wouldHave 5 (11, .ifCond .eq 9, 3) rfl rfl) rfl (by decide),
    st_aload_n hC (n := 6) (k := 0) (dc_X11_wouldHave 6 (14, .aload_n 0, 1) rfl rfl) rfl rfl,
    st_iconst hC (n := 7) (x := 1) (dc_X11_wouldHave 7 (15, .iconst 1, 1) rfl rfl) rfl (by decide),
    st_callV hC (n := 8) (k := 11) (na := 1) (con_X11_refuse l) (dc_X11_wouldHave 8 (16, .invokevirtual 139, 3) rfl rfl) rfl wd_824 wd_143 (by decide) ⟨rfl, rfl, by decide, by decide⟩ hM wd_821 wd_823 wd_3 clf_11,
    st_iret hC (n := 9) hR (dc_X11_wouldHave 9 (19, .ireturn, 1) rfl rfl),
    st_aload_n hC (n := 10) (k := 0) (dc_X11_wouldHave 10 (20, .aload_n 0, 1) rfl rfl) rfl rfl,
    st_aload_n hC (n := 11) (k := 0) (dc_X11_wouldHave 11 (21, .aload_n 0, 1) rfl rfl) rfl rfl,
    st_getD hC (n := 12) (k := 11) (j := 12) (dc_X11_wouldHave 12 (22, .getfield 87, 3) rfl rfl) rfl clf_11 (by decide) rfl (by decide) wd_723,
    st_iload_n hC (n := 13) (k := 1) (dc_X11_wouldHave 13 (25, .iload_n 1, 1) rfl rfl) rfl rfl,
    st_callV hC (n := 14) (k := 6) (na := 1) (con_X6_chosenBy l) (dc_X11_wouldHave 14 (26, .invokevirtual 330, 3) rfl rfl) rfl wd_1214 wd_155 (by decide) ⟨rfl, rfl, by decide, by decide⟩ hM wd_1211 wd_1212 wd_1213 clf_6,
    st_callV hC (n := 15) (k := 11) (na := 1) (con_X11_answerOrNone l) (dc_X11_wouldHave 15 (29, .invokevirtual 249, 3) rfl rfl) rfl wd_1047 wd_143 (by decide) ⟨rfl, rfl, by decide, by decide⟩ hM wd_1044 wd_1046 wd_23 clf_11,
    st_iret hC (n := 16) hR (dc_X11_wouldHave 16 (32, .ireturn, 1) rfl rfl), trivial⟩
set_option maxRecDepth 8000 in
theorem vc_X11_wouldHave : VC P_X11_wouldHave 2 Pre_X11_wouldHave Fn_X11_wouldHave := by
  rintro mm as hom hoa ⟨⟨ns, nm, nt, hV⟩, x, rfl⟩
  refine ⟨Nat.le_of_ble_eq_true rfl, fun X h => ?_⟩
  have hS : mm.1 6 (mm.2.2 0) 13 = nI ns := hV.1.1.1
  have hn4 : ns ≤ 4 := hV.1.1.2
  have hN : mm.1 6 (mm.2.2 0) 14 = nI nm := hV.1.2.1.1
  have hm4 : nm ≤ 4 := hV.1.2.1.2
  have hT : mm.1 6 (mm.2.2 0) 15 = nI nt := hV.1.2.2.1.1
  have ht12 : nt ≤ 12 := hV.1.2.2.1.2
  show X 0 [some (vR 11 0), some (vI x)] [] mm
  refine h (fun _ => false) 3000 0 _ _ _ ?_
  refine And.intro (show Pre_X11_isOut mm [vI x, vI (mm.1 6 (mm.2.2 0) 14)] from ⟨_, _, rfl⟩) ?_
  refine br_c (fun b5 => ?_) (fun b5 => ?_)
  · -- 5: bI (x < 0 ∨ (mm.1 6 (mm.2.2 0) 14) ≤ x) = 0 taken
    replace b5 : ¬ (x < 0 ∨ (mm.1 6 (mm.2.2 0) 14) ≤ x) := bI_0.mp b5
    obtain ⟨i, hi, ex⟩ := ou_in hN (by omega) b5
    refine And.intro (show Pre_X6_chosenBy mm [vR 6 (mm.2.2 0), vI x] from ⟨_, ns, nm, nt, i, hV, by omega, by rw [ex]⟩) ?_
    refine And.intro (show Pre_X11_answerOrNone mm [vR 11 0, vI (chA (abV mm (mm.2.2 0)) x.toNatClampNeg (mm.1 6 (mm.2.2 0) 13).toNatClampNeg)] from ⟨_, rfl⟩) ?_
    show ((some (vI (if (chA (abV mm (mm.2.2 0)) x.toNatClampNeg (mm.1 6 (mm.2.2 0) 13).toNatClampNeg) < 0 then -1 else (chA (abV mm (mm.2.2 0)) x.toNatClampNeg (mm.1 6 (mm.2.2 0) 13).toNatClampNeg))) : Option MV), stC mm (if (chA (abV mm (mm.2.2 0)) x.toNatClampNeg (mm.1 6 (mm.2.2 0) 13).toNatClampNeg) < 0 then 6 else 0)) = _
    show _ = cl_wouldHave mm x
    unfold cl_wouldHave
    (try simp only [if_neg b5])
    all_goals exact rfl
  · -- 5: bI (x < 0 ∨ (mm.1 6 (mm.2.2 0) 14) ≤ x) = 0 on
    replace b5 : x < 0 ∨ (mm.1 6 (mm.2.2 0) 14) ≤ x := bI_n0.mp b5
    skip
    refine And.intro (show Pre_X11_refuse mm [vR 11 0, vI 1] from ⟨_, rfl⟩) ?_
    show ((some (vI (-1)) : Option MV), stC mm 1) = _
    show _ = cl_wouldHave mm x
    unfold cl_wouldHave
    (try simp only [if_pos b5])
    all_goals exact rfl
theorem con_X11_wouldHave (l : Launch) : CON l y_X11_wouldHave prog_1_method_31_code 2 (some .int) rm_X11_wouldHave Pre_X11_wouldHave Fn_X11_wouldHave := CON_of (by decide) rfl rfl (sa_X11_wouldHave l) vc_X11_wouldHave
def cl_proud (m : MM) (x : Int32) : Option MV × MM := if x < 0 ∨ m.1 6 (m.2.2 0) 14 ≤ x then rfC m 1 else gvC m (prS (abV m (m.2.2 0)) x.toNatClampNeg (m.1 6 (m.2.2 0) 15).toNatClampNeg)

def Pre_X11_proud : PreT := fun m as => VNx m ∧ ∃ x : Int32, as = [vR 11 0, vI x]
def Fn_X11_proud : FnT := fun m as => match as with
  | [_, Sum.inl x] => cl_proud m x
  | _ => (none, m)
abbrev y_X11_proud : MethodName := ⟨"GivenUp", "proud", "(I)I"⟩
def P_X11_proud : List StpT := [s_iload 1, s_aload 0, s_getD 11 12 6 0, s_getI 6 14, s_callS 2 Pre_X11_isOut Fn_X11_isOut, s_ifeq 10, s_aload 0, s_ic (1), s_callV 11 1 Pre_X11_refuse Fn_X11_refuse, s_iret, s_aload 0, s_aload 0, s_getD 11 12 6 0, s_iload 1, s_callV 6 1 Pre_X6_proudTo Fn_X6_proudTo, s_callV 11 1 Pre_X11_answer Fn_X11_answer, s_iret]
def pc_X11_proud : Nat → Nat := fun i => [0, 1, 2, 5, 8, 11, 14, 15, 16, 19, 20, 21, 22, 25, 26, 29, 32].getD i 0
def dl_X11_proud : List (Nat × Instr × Nat) := [(0, .iload_n 1, 1), (1, .aload_n 0, 1), (2, .getfield 87, 3), (5, .getfield 200, 3), (8, .invokestatic 115, 3), (11, .ifCond .eq 9, 3), (14, .aload_n 0, 1), (15, .iconst 1, 1), (16, .invokevirtual 139, 3), (19, .ireturn, 1), (20, .aload_n 0, 1), (21, .aload_n 0, 1), (22, .getfield 87, 3), (25, .iload_n 1, 1), (26, .invokevirtual 333, 3), (29, .invokevirtual 178, 3), (32, .ireturn, 1)]
theorem dc_X11_proud : DEC prog_1_method_32_code pc_X11_proud dl_X11_proud := DEC_of (by decide +kernel)
abbrev rm_X11_proud : Room := { frames := 2, cells := 0, slots := 0, locals := 45 }
set_option maxRecDepth 20000 in
theorem sa_X11_proud (l : Launch) : SNDALL l prog_1_method_32_code "GivenUp" 2 (some .int) rm_X11_proud P_X11_proud pc_X11_proud := fun p e s m args below meth c cells slots Q D dA ad A RR hC hR => by
  have hM := RTX_room (R := rm_X11_proud) hR
  exact ⟨st_iload_n hC (n := 0) (k := 1) (dc_X11_proud 0 (0, .iload_n 1, 1) rfl rfl) rfl rfl,
    st_aload_n hC (n := 1) (k := 0) (dc_X11_proud 1 (1, .aload_n 0, 1) rfl rfl) rfl rfl,
    st_getD hC (n := 2) (k := 11) (j := 12) (dc_X11_proud 2 (2, .getfield 87, 3) rfl rfl) rfl clf_11 (by decide) rfl (by decide) wd_723,
    st_getI hC (n := 3) (k := 6) (j := 14) (dc_X11_proud 3 (5, .getfield 200, 3) rfl rfl) rfl clf_6 (by decide) rfl wd_628,
    st_callS hC (n := 4) (na := 2) (con_X11_isOut l) (dc_X11_proud 4 (8, .invokestatic 115, 3) rfl rfl) rfl wd_790 wd_143 (by decide) ⟨rfl, rfl, by decide, by decide⟩ hM wd_788 wd_789,
    st_ifeq hC (n := 5) (dc_X11_proud 5 (11, .ifCond .eq 9, 3) rfl rfl) rfl (by decide),
    st_aload_n hC (n := 6) (k := 0) (dc_X11_proud 6 (14, .aload_n 0, 1) rfl rfl) rfl rfl,
    st_iconst hC (n := 7) (x := 1) (dc_X11_proud 7 (15, .iconst 1, 1) rfl rfl) rfl (by decide),
    st_callV hC (n := 8) (k := 11) (na := 1) (con_X11_refuse l) (dc_X11_proud 8 (16, .invokevirtual 139, 3) rfl rfl) rfl wd_824 wd_143 (by decide) ⟨rfl, rfl, by decide, by decide⟩ hM wd_821 wd_823 wd_3 clf_11,
    st_iret hC (n := 9) hR (dc_X11_proud 9 (19, .ireturn, 1) rfl rfl),
    st_aload_n hC (n := 10) (k := 0) (dc_X11_proud 10 (20, .aload_n 0, 1) rfl rfl) rfl rfl,
    st_aload_n hC (n := 11) (k := 0) (dc_X11_proud 11 (21, .aload_n 0, 1) rfl rfl) rfl rfl,
    st_getD hC (n := 12) (k := 11) (j := 12) (dc_X11_proud 12 (22, .getfield 87, 3) rfl rfl) rfl clf_11 (by decide) rfl (by decide) wd_723,
    st_iload_n hC (n := 13) (k := 1) (dc_X11_proud 13 (25, .iload_n 1, 1) rfl rfl) rfl rfl,
    st_callV hC (n := 14) (k := 6) (na := 1) (con_X6_proudTo l) (dc_X11_proud 14 (26, .invokevirtual 333, 3) rfl rfl) rfl wd_1226 wd_155 (by decide) ⟨rfl, rfl, by decide, by decide⟩ hM wd_1223 wd_1224 wd_1225 clf_6,
    st_callV hC (n := 15) (k := 11) (na := 1) (con_X11_answer l) (dc_X11_proud 15 (29, .invokevirtual 178, 3) rfl rfl) rfl wd_967 wd_143 (by decide) ⟨rfl, rfl, by decide, by decide⟩ hM wd_964 wd_966 wd_17 clf_11,
    st_iret hC (n := 16) hR (dc_X11_proud 16 (32, .ireturn, 1) rfl rfl), trivial⟩
set_option maxRecDepth 8000 in
theorem vc_X11_proud : VC P_X11_proud 2 Pre_X11_proud Fn_X11_proud := by
  rintro mm as hom hoa ⟨⟨ns, nm, nt, hV⟩, x, rfl⟩
  refine ⟨Nat.le_of_ble_eq_true rfl, fun X h => ?_⟩
  have hS : mm.1 6 (mm.2.2 0) 13 = nI ns := hV.1.1.1
  have hn4 : ns ≤ 4 := hV.1.1.2
  have hN : mm.1 6 (mm.2.2 0) 14 = nI nm := hV.1.2.1.1
  have hm4 : nm ≤ 4 := hV.1.2.1.2
  have hT : mm.1 6 (mm.2.2 0) 15 = nI nt := hV.1.2.2.1.1
  have ht12 : nt ≤ 12 := hV.1.2.2.1.2
  show X 0 [some (vR 11 0), some (vI x)] [] mm
  refine h (fun _ => false) 3000 0 _ _ _ ?_
  refine And.intro (show Pre_X11_isOut mm [vI x, vI (mm.1 6 (mm.2.2 0) 14)] from ⟨_, _, rfl⟩) ?_
  refine br_c (fun b5 => ?_) (fun b5 => ?_)
  · -- 5: bI (x < 0 ∨ (mm.1 6 (mm.2.2 0) 14) ≤ x) = 0 taken
    replace b5 : ¬ (x < 0 ∨ (mm.1 6 (mm.2.2 0) 14) ≤ x) := bI_0.mp b5
    obtain ⟨i, hi, ex⟩ := ou_in hN (by omega) b5
    refine And.intro (show Pre_X6_proudTo mm [vR 6 (mm.2.2 0), vI x] from ⟨_, ns, nm, nt, i, hV, by omega, by rw [ex]⟩) ?_
    refine And.intro (show Pre_X11_answer mm [vR 11 0, vI (prS (abV mm (mm.2.2 0)) x.toNatClampNeg (mm.1 6 (mm.2.2 0) 15).toNatClampNeg)] from ⟨_, rfl⟩) ?_
    show ((some (vI (prS (abV mm (mm.2.2 0)) x.toNatClampNeg (mm.1 6 (mm.2.2 0) 15).toNatClampNeg)) : Option MV), stC mm 0) = _
    show _ = cl_proud mm x
    unfold cl_proud
    (try simp only [if_neg b5])
    all_goals exact rfl
  · -- 5: bI (x < 0 ∨ (mm.1 6 (mm.2.2 0) 14) ≤ x) = 0 on
    replace b5 : x < 0 ∨ (mm.1 6 (mm.2.2 0) 14) ≤ x := bI_n0.mp b5
    skip
    refine And.intro (show Pre_X11_refuse mm [vR 11 0, vI 1] from ⟨_, rfl⟩) ?_
    show ((some (vI (-1)) : Option MV), stC mm 1) = _
    show _ = cl_proud mm x
    unfold cl_proud
    (try simp only [if_pos b5])
    all_goals exact rfl
theorem con_X11_proud (l : Launch) : CON l y_X11_proud prog_1_method_32_code 2 (some .int) rm_X11_proud Pre_X11_proud Fn_X11_proud := CON_of (by decide) rfl rfl (sa_X11_proud l) vc_X11_proud
def cl_needs (m : MM) (x : Int32) : Option MV × MM := if x < 0 ∨ m.1 6 (m.2.2 0) 15 ≤ x then rfC m 1 else gvC m (m.1 38 (m.2.2 0) x.toNatClampNeg)

def Pre_X11_needs : PreT := fun m as => VNx m ∧ ∃ x : Int32, as = [vR 11 0, vI x]
def Fn_X11_needs : FnT := fun m as => match as with
  | [_, Sum.inl x] => cl_needs m x
  | _ => (none, m)
abbrev y_X11_needs : MethodName := ⟨"GivenUp", "needs", "(I)I"⟩
def P_X11_needs : List StpT := [s_iload 1, s_aload 0, s_getD 11 12 6 0, s_getI 6 15, s_callS 2 Pre_X11_isOut Fn_X11_isOut, s_ifeq 10, s_aload 0, s_ic (1), s_callV 11 1 Pre_X11_refuse Fn_X11_refuse, s_iret, s_aload 0, s_aload 0, s_getD 11 12 6 0, s_getR 6 9 38, s_iload 1, s_iald, s_callV 11 1 Pre_X11_answer Fn_X11_answer, s_iret]
def pc_X11_needs : Nat → Nat := fun i => [0, 1, 2, 5, 8, 11, 14, 15, 16, 19, 20, 21, 22, 25, 28, 29, 30, 33].getD i 0
def dl_X11_needs : List (Nat × Instr × Nat) := [(0, .iload_n 1, 1), (1, .aload_n 0, 1), (2, .getfield 87, 3), (5, .getfield 175, 3), (8, .invokestatic 115, 3), (11, .ifCond .eq 9, 3), (14, .aload_n 0, 1), (15, .iconst 1, 1), (16, .invokevirtual 139, 3), (19, .ireturn, 1), (20, .aload_n 0, 1), (21, .aload_n 0, 1), (22, .getfield 87, 3), (25, .getfield 430, 3), (28, .iload_n 1, 1), (29, .iaload, 1), (30, .invokevirtual 178, 3), (33, .ireturn, 1)]
theorem dc_X11_needs : DEC prog_1_method_54_code pc_X11_needs dl_X11_needs := DEC_of (by decide +kernel)
abbrev rm_X11_needs : Room := { frames := 1, cells := 0, slots := 0, locals := 21 }
set_option maxRecDepth 20000 in
theorem sa_X11_needs (l : Launch) : SNDALL l prog_1_method_54_code "GivenUp" 2 (some .int) rm_X11_needs P_X11_needs pc_X11_needs := fun p e s m args below meth c cells slots Q D dA ad A RR hC hR => by
  have hM := RTX_room (R := rm_X11_needs) hR
  exact ⟨st_iload_n hC (n := 0) (k := 1) (dc_X11_needs 0 (0, .iload_n 1, 1) rfl rfl) rfl rfl,
    st_aload_n hC (n := 1) (k := 0) (dc_X11_needs 1 (1, .aload_n 0, 1) rfl rfl) rfl rfl,
    st_getD hC (n := 2) (k := 11) (j := 12) (dc_X11_needs 2 (2, .getfield 87, 3) rfl rfl) rfl clf_11 (by decide) rfl (by decide) wd_723,
    st_getI hC (n := 3) (k := 6) (j := 15) (dc_X11_needs 3 (5, .getfield 175, 3) rfl rfl) rfl clf_6 (by decide) rfl wd_633,
    st_callS hC (n := 4) (na := 2) (con_X11_isOut l) (dc_X11_needs 4 (8, .invokestatic 115, 3) rfl rfl) rfl wd_790 wd_143 (by decide) ⟨rfl, rfl, by decide, by decide⟩ hM wd_788 wd_789,
    st_ifeq hC (n := 5) (dc_X11_needs 5 (11, .ifCond .eq 9, 3) rfl rfl) rfl (by decide),
    st_aload_n hC (n := 6) (k := 0) (dc_X11_needs 6 (14, .aload_n 0, 1) rfl rfl) rfl rfl,
    st_iconst hC (n := 7) (x := 1) (dc_X11_needs 7 (15, .iconst 1, 1) rfl rfl) rfl (by decide),
    st_callV hC (n := 8) (k := 11) (na := 1) (con_X11_refuse l) (dc_X11_needs 8 (16, .invokevirtual 139, 3) rfl rfl) rfl wd_824 wd_143 (by decide) ⟨rfl, rfl, by decide, by decide⟩ hM wd_821 wd_823 wd_3 clf_11,
    st_iret hC (n := 9) hR (dc_X11_needs 9 (19, .ireturn, 1) rfl rfl),
    st_aload_n hC (n := 10) (k := 0) (dc_X11_needs 10 (20, .aload_n 0, 1) rfl rfl) rfl rfl,
    st_aload_n hC (n := 11) (k := 0) (dc_X11_needs 11 (21, .aload_n 0, 1) rfl rfl) rfl rfl,
    st_getD hC (n := 12) (k := 11) (j := 12) (dc_X11_needs 12 (22, .getfield 87, 3) rfl rfl) rfl clf_11 (by decide) rfl (by decide) wd_723,
    st_getR hC (n := 13) (k := 6) (j := 9) (dc_X11_needs 13 (25, .getfield 430, 3) rfl rfl) rfl clf_6 (by decide) rfl (by decide) wd_607,
    st_iload_n hC (n := 14) (k := 1) (dc_X11_needs 14 (28, .iload_n 1, 1) rfl rfl) rfl rfl,
    st_iald hC (n := 15) (dc_X11_needs 15 (29, .iaload, 1) rfl rfl) rfl,
    st_callV hC (n := 16) (k := 11) (na := 1) (con_X11_answer l) (dc_X11_needs 16 (30, .invokevirtual 178, 3) rfl rfl) rfl wd_967 wd_143 (by decide) ⟨rfl, rfl, by decide, by decide⟩ hM wd_964 wd_966 wd_17 clf_11,
    st_iret hC (n := 17) hR (dc_X11_needs 17 (33, .ireturn, 1) rfl rfl), trivial⟩
set_option maxRecDepth 8000 in
theorem vc_X11_needs : VC P_X11_needs 2 Pre_X11_needs Fn_X11_needs := by
  rintro mm as hom hoa ⟨⟨ns, nm, nt, hV⟩, x, rfl⟩
  refine ⟨Nat.le_of_ble_eq_true rfl, fun X h => ?_⟩
  have hS : mm.1 6 (mm.2.2 0) 13 = nI ns := hV.1.1.1
  have hn4 : ns ≤ 4 := hV.1.1.2
  have hN : mm.1 6 (mm.2.2 0) 14 = nI nm := hV.1.2.1.1
  have hm4 : nm ≤ 4 := hV.1.2.1.2
  have hT : mm.1 6 (mm.2.2 0) 15 = nI nt := hV.1.2.2.1.1
  have ht12 : nt ≤ 12 := hV.1.2.2.1.2
  show X 0 [some (vR 11 0), some (vI x)] [] mm
  refine h (fun _ => false) 3000 0 _ _ _ ?_
  refine And.intro (show Pre_X11_isOut mm [vI x, vI (mm.1 6 (mm.2.2 0) 15)] from ⟨_, _, rfl⟩) ?_
  refine br_c (fun b5 => ?_) (fun b5 => ?_)
  · -- 5: bI (x < 0 ∨ (mm.1 6 (mm.2.2 0) 15) ≤ x) = 0 taken
    replace b5 : ¬ (x < 0 ∨ (mm.1 6 (mm.2.2 0) 15) ≤ x) := bI_0.mp b5
    obtain ⟨i, hi, ex⟩ := ou_in hT (by omega) b5
    refine And.intro (show inb x (alen 38) = true from (inb_o 12 rfl rfl ex (by omega))) ?_
    refine And.intro (show Pre_X11_answer mm [vR 11 0, vI (mm.1 38 (mm.2.2 0) x.toNatClampNeg)] from ⟨_, rfl⟩) ?_
    show ((some (vI (mm.1 38 (mm.2.2 0) x.toNatClampNeg)) : Option MV), stC mm 0) = _
    show _ = cl_needs mm x
    unfold cl_needs
    (try simp only [if_neg b5])
    all_goals exact rfl
  · -- 5: bI (x < 0 ∨ (mm.1 6 (mm.2.2 0) 15) ≤ x) = 0 on
    replace b5 : x < 0 ∨ (mm.1 6 (mm.2.2 0) 15) ≤ x := bI_n0.mp b5
    skip
    refine And.intro (show Pre_X11_refuse mm [vR 11 0, vI 1] from ⟨_, rfl⟩) ?_
    show ((some (vI (-1)) : Option MV), stC mm 1) = _
    show _ = cl_needs mm x
    unfold cl_needs
    (try simp only [if_pos b5])
    all_goals exact rfl
theorem con_X11_needs (l : Launch) : CON l y_X11_needs prog_1_method_54_code 2 (some .int) rm_X11_needs Pre_X11_needs Fn_X11_needs := CON_of (by decide) rfl rfl (sa_X11_needs l) vc_X11_needs
def cl_never (m : MM) (x : Int32) : Option MV × MM := if x < 0 ∨ m.1 6 (m.2.2 0) 13 ≤ x then rfC m 1 else gvC m (thA (abV m (m.2.2 0)) x &&& m.1 6 (m.2.2 0) 19)

def Pre_X11_never : PreT := fun m as => VNx m ∧ ∃ x : Int32, as = [vR 11 0, vI x]
def Fn_X11_never : FnT := fun m as => match as with
  | [_, Sum.inl x] => cl_never m x
  | _ => (none, m)
abbrev y_X11_never : MethodName := ⟨"GivenUp", "never", "(I)I"⟩
def P_X11_never : List StpT := [s_iload 1, s_aload 0, s_getD 11 12 6 0, s_getI 6 13, s_callS 2 Pre_X11_isOut Fn_X11_isOut, s_ifeq 10, s_aload 0, s_ic (1), s_callV 11 1 Pre_X11_refuse Fn_X11_refuse, s_iret, s_aload 0, s_aload 0, s_getD 11 12 6 0, s_iload 1, s_callV 6 1 Pre_X6_goods Fn_X6_goods, s_aload 0, s_getD 11 12 6 0, s_getI 6 19, s_iand, s_callV 11 1 Pre_X11_answer Fn_X11_answer, s_iret]
def pc_X11_never : Nat → Nat := fun i => [0, 1, 2, 5, 8, 11, 14, 15, 16, 19, 20, 21, 22, 25, 26, 29, 30, 33, 36, 37, 40].getD i 0
def dl_X11_never : List (Nat × Instr × Nat) := [(0, .iload_n 1, 1), (1, .aload_n 0, 1), (2, .getfield 87, 3), (5, .getfield 197, 3), (8, .invokestatic 115, 3), (11, .ifCond .eq 9, 3), (14, .aload_n 0, 1), (15, .iconst 1, 1), (16, .invokevirtual 139, 3), (19, .ireturn, 1), (20, .aload_n 0, 1), (21, .aload_n 0, 1), (22, .getfield 87, 3), (25, .iload_n 1, 1), (26, .invokevirtual 252, 3), (29, .aload_n 0, 1), (30, .getfield 87, 3), (33, .getfield 433, 3), (36, .iand, 1), (37, .invokevirtual 178, 3), (40, .ireturn, 1)]
theorem dc_X11_never : DEC prog_1_method_55_code pc_X11_never dl_X11_never := DEC_of (by decide +kernel)
abbrev rm_X11_never : Room := { frames := 1, cells := 0, slots := 0, locals := 23 }
set_option maxRecDepth 20000 in
theorem sa_X11_never (l : Launch) : SNDALL l prog_1_method_55_code "GivenUp" 2 (some .int) rm_X11_never P_X11_never pc_X11_never := fun p e s m args below meth c cells slots Q D dA ad A RR hC hR => by
  have hM := RTX_room (R := rm_X11_never) hR
  exact ⟨st_iload_n hC (n := 0) (k := 1) (dc_X11_never 0 (0, .iload_n 1, 1) rfl rfl) rfl rfl,
    st_aload_n hC (n := 1) (k := 0) (dc_X11_never 1 (1, .aload_n 0, 1) rfl rfl) rfl rfl,
    st_getD hC (n := 2) (k := 11) (j := 12) (dc_X11_never 2 (2, .getfield 87, 3) rfl rfl) rfl clf_11 (by decide) rfl (by decide) wd_723,
    st_getI hC (n := 3) (k := 6) (j := 13) (dc_X11_never 3 (5, .getfield 197, 3) rfl rfl) rfl clf_6 (by decide) rfl wd_622,
    st_callS hC (n := 4) (na := 2) (con_X11_isOut l) (dc_X11_never 4 (8, .invokestatic 115, 3) rfl rfl) rfl wd_790 wd_143 (by decide) ⟨rfl, rfl, by decide, by decide⟩ hM wd_788 wd_789,
    st_ifeq hC (n := 5) (dc_X11_never 5 (11, .ifCond .eq 9, 3) rfl rfl) rfl (by decide),
    st_aload_n hC (n := 6) (k := 0) (dc_X11_never 6 (14, .aload_n 0, 1) rfl rfl) rfl rfl,
    st_iconst hC (n := 7) (x := 1) (dc_X11_never 7 (15, .iconst 1, 1) rfl rfl) rfl (by decide),
    st_callV hC (n := 8) (k := 11) (na := 1) (con_X11_refuse l) (dc_X11_never 8 (16, .invokevirtual 139, 3) rfl rfl) rfl wd_824 wd_143 (by decide) ⟨rfl, rfl, by decide, by decide⟩ hM wd_821 wd_823 wd_3 clf_11,
    st_iret hC (n := 9) hR (dc_X11_never 9 (19, .ireturn, 1) rfl rfl),
    st_aload_n hC (n := 10) (k := 0) (dc_X11_never 10 (20, .aload_n 0, 1) rfl rfl) rfl rfl,
    st_aload_n hC (n := 11) (k := 0) (dc_X11_never 11 (21, .aload_n 0, 1) rfl rfl) rfl rfl,
    st_getD hC (n := 12) (k := 11) (j := 12) (dc_X11_never 12 (22, .getfield 87, 3) rfl rfl) rfl clf_11 (by decide) rfl (by decide) wd_723,
    st_iload_n hC (n := 13) (k := 1) (dc_X11_never 13 (25, .iload_n 1, 1) rfl rfl) rfl rfl,
    st_callV hC (n := 14) (k := 6) (na := 1) (con_X6_goods l) (dc_X11_never 14 (26, .invokevirtual 252, 3) rfl rfl) rfl wd_1035 wd_155 (by decide) ⟨rfl, rfl, by decide, by decide⟩ hM wd_1048 wd_1033 wd_1034 clf_6,
    st_aload_n hC (n := 15) (k := 0) (dc_X11_never 15 (29, .aload_n 0, 1) rfl rfl) rfl rfl,
    st_getD hC (n := 16) (k := 11) (j := 12) (dc_X11_never 16 (30, .getfield 87, 3) rfl rfl) rfl clf_11 (by decide) rfl (by decide) wd_723,
    st_getI hC (n := 17) (k := 6) (j := 19) (dc_X11_never 17 (33, .getfield 433, 3) rfl rfl) rfl clf_6 (by decide) rfl wd_646,
    st_iand hC (n := 18) (dc_X11_never 18 (36, .iand, 1) rfl rfl) rfl,
    st_callV hC (n := 19) (k := 11) (na := 1) (con_X11_answer l) (dc_X11_never 19 (37, .invokevirtual 178, 3) rfl rfl) rfl wd_967 wd_143 (by decide) ⟨rfl, rfl, by decide, by decide⟩ hM wd_964 wd_966 wd_17 clf_11,
    st_iret hC (n := 20) hR (dc_X11_never 20 (40, .ireturn, 1) rfl rfl), trivial⟩
set_option maxRecDepth 8000 in
theorem vc_X11_never : VC P_X11_never 2 Pre_X11_never Fn_X11_never := by
  rintro mm as hom hoa ⟨⟨ns, nm, nt, hV⟩, x, rfl⟩
  refine ⟨Nat.le_of_ble_eq_true rfl, fun X h => ?_⟩
  have hS : mm.1 6 (mm.2.2 0) 13 = nI ns := hV.1.1.1
  have hn4 : ns ≤ 4 := hV.1.1.2
  have hN : mm.1 6 (mm.2.2 0) 14 = nI nm := hV.1.2.1.1
  have hm4 : nm ≤ 4 := hV.1.2.1.2
  have hT : mm.1 6 (mm.2.2 0) 15 = nI nt := hV.1.2.2.1.1
  have ht12 : nt ≤ 12 := hV.1.2.2.1.2
  show X 0 [some (vR 11 0), some (vI x)] [] mm
  refine h (fun _ => false) 3000 0 _ _ _ ?_
  refine And.intro (show Pre_X11_isOut mm [vI x, vI (mm.1 6 (mm.2.2 0) 13)] from ⟨_, _, rfl⟩) ?_
  refine br_c (fun b5 => ?_) (fun b5 => ?_)
  · -- 5: bI (x < 0 ∨ (mm.1 6 (mm.2.2 0) 13) ≤ x) = 0 taken
    replace b5 : ¬ (x < 0 ∨ (mm.1 6 (mm.2.2 0) 13) ≤ x) := bI_0.mp b5
    obtain ⟨i, hi, ex⟩ := ou_in hS (by omega) b5
    refine And.intro (show Pre_X6_goods mm [vR 6 (mm.2.2 0), vI x] from ⟨_, ns, nm, nt, hV, _, rfl⟩) ?_
    refine And.intro (show Pre_X11_answer mm [vR 11 0, vI ((thA (abV mm (mm.2.2 0)) x) &&& (mm.1 6 (mm.2.2 0) 19))] from ⟨_, rfl⟩) ?_
    show ((some (vI ((thA (abV mm (mm.2.2 0)) x) &&& (mm.1 6 (mm.2.2 0) 19))) : Option MV), stC mm 0) = _
    show _ = cl_never mm x
    unfold cl_never
    (try simp only [if_neg b5])
    all_goals exact rfl
  · -- 5: bI (x < 0 ∨ (mm.1 6 (mm.2.2 0) 13) ≤ x) = 0 on
    replace b5 : x < 0 ∨ (mm.1 6 (mm.2.2 0) 13) ≤ x := bI_n0.mp b5
    skip
    refine And.intro (show Pre_X11_refuse mm [vR 11 0, vI 1] from ⟨_, rfl⟩) ?_
    show ((some (vI (-1)) : Option MV), stC mm 1) = _
    show _ = cl_never mm x
    unfold cl_never
    (try simp only [if_pos b5])
    all_goals exact rfl
theorem con_X11_never (l : Launch) : CON l y_X11_never prog_1_method_55_code 2 (some .int) rm_X11_never Pre_X11_never Fn_X11_never := CON_of (by decide) rfl rfl (sa_X11_never l) vc_X11_never
def cl_toFair (m : MM) : Option MV × MM := gvC m (wfA (abV m (m.2.2 0)))

def Pre_X11_toFair : PreT := fun m as => VNx m ∧ as = [vR 11 0]
def Fn_X11_toFair : FnT := fun m _ => cl_toFair m
abbrev y_X11_toFair : MethodName := ⟨"GivenUp", "toFair", "()I"⟩
def P_X11_toFair : List StpT := [s_aload 0, s_aload 0, s_getD 11 12 6 0, s_callV 6 0 Pre_X6_weeksToFair Fn_X6_weeksToFair, s_callV 11 1 Pre_X11_answer Fn_X11_answer, s_iret]
def pc_X11_toFair : Nat → Nat := fun i => [0, 1, 2, 5, 8, 11].getD i 0
def dl_X11_toFair : List (Nat × Instr × Nat) := [(0, .aload_n 0, 1), (1, .aload_n 0, 1), (2, .getfield 87, 3), (5, .invokevirtual 324, 3), (8, .invokevirtual 178, 3), (11, .ireturn, 1)]
theorem dc_X11_toFair : DEC prog_1_method_29_code pc_X11_toFair dl_X11_toFair := DEC_of (by decide +kernel)
abbrev rm_X11_toFair : Room := { frames := 1, cells := 0, slots := 0, locals := 21 }
set_option maxRecDepth 20000 in
theorem sa_X11_toFair (l : Launch) : SNDALL l prog_1_method_29_code "GivenUp" 1 (some .int) rm_X11_toFair P_X11_toFair pc_X11_toFair := fun p e s m args below meth c cells slots Q D dA ad A RR hC hR => by
  have hM := RTX_room (R := rm_X11_toFair) hR
  exact ⟨st_aload_n hC (n := 0) (k := 0) (dc_X11_toFair 0 (0, .aload_n 0, 1) rfl rfl) rfl rfl,
    st_aload_n hC (n := 1) (k := 0) (dc_X11_toFair 1 (1, .aload_n 0, 1) rfl rfl) rfl rfl,
    st_getD hC (n := 2) (k := 11) (j := 12) (dc_X11_toFair 2 (2, .getfield 87, 3) rfl rfl) rfl clf_11 (by decide) rfl (by decide) wd_723,
    st_callV hC (n := 3) (k := 6) (na := 0) (con_X6_weeksToFair l) (dc_X11_toFair 3 (5, .invokevirtual 324, 3) rfl rfl) rfl wd_1189 wd_155 (by decide) ⟨rfl, rfl, by decide, by decide⟩ hM wd_1198 wd_1187 wd_1188 clf_6,
    st_callV hC (n := 4) (k := 11) (na := 1) (con_X11_answer l) (dc_X11_toFair 4 (8, .invokevirtual 178, 3) rfl rfl) rfl wd_967 wd_143 (by decide) ⟨rfl, rfl, by decide, by decide⟩ hM wd_964 wd_966 wd_17 clf_11,
    st_iret hC (n := 5) hR (dc_X11_toFair 5 (11, .ireturn, 1) rfl rfl), trivial⟩
set_option maxRecDepth 8000 in
theorem vc_X11_toFair : VC P_X11_toFair 1 Pre_X11_toFair Fn_X11_toFair := by
  rintro mm as hom hoa ⟨⟨ns, nm, nt, hV⟩, rfl⟩
  refine ⟨Nat.le_of_ble_eq_true rfl, fun X h => ?_⟩
  show X 0 [some (vR 11 0)] [] mm
  refine h (fun _ => false) 3000 0 _ _ _ ?_
  refine And.intro (show Pre_X6_weeksToFair mm [vR 6 (mm.2.2 0)] from ⟨_, ns, nm, nt, hV, rfl⟩) ?_
  refine And.intro (show Pre_X11_answer mm [vR 11 0, vI (wfA (abV mm (mm.2.2 0)))] from ⟨_, rfl⟩) ?_
  show ((some (vI (wfA (abV mm (mm.2.2 0)))) : Option MV), stC mm 0) = _
  show _ = cl_toFair mm
  unfold cl_toFair
  all_goals exact rfl
theorem con_X11_toFair (l : Launch) : CON l y_X11_toFair prog_1_method_29_code 1 (some .int) rm_X11_toFair Pre_X11_toFair Fn_X11_toFair := CON_of (by decide) rfl rfl (sa_X11_toFair l) vc_X11_toFair
def cl_heard (m : MM) (x y : Int32) : Option MV × MM := if npC m x y then rfC m 1 else gvC m (hdA (abV m (m.2.2 0)) x y.toNatClampNeg)

def Pre_X11_heard : PreT := fun m as => VNx m ∧ ∃ x y : Int32, as = [vR 11 0, vI x, vI y]
def Fn_X11_heard : FnT := fun m as => match as with
  | [_, Sum.inl x, Sum.inl y] => cl_heard m x y
  | _ => (none, m)
abbrev y_X11_heard : MethodName := ⟨"GivenUp", "heard", "(II)I"⟩
def P_X11_heard : List StpT := [s_aload 0, s_iload 1, s_iload 2, s_callV 11 2 Pre_X11_isNoPair Fn_X11_isNoPair, s_ifeq 9, s_aload 0, s_ic (1), s_callV 11 1 Pre_X11_refuse Fn_X11_refuse, s_iret, s_aload 0, s_aload 0, s_getD 11 12 6 0, s_iload 1, s_iload 2, s_callV 6 2 Pre_X6_hears Fn_X6_hears, s_callV 11 1 Pre_X11_answer Fn_X11_answer, s_iret]
def pc_X11_heard : Nat → Nat := fun i => [0, 1, 2, 3, 6, 9, 10, 11, 14, 15, 16, 17, 20, 21, 22, 25, 28].getD i 0
def dl_X11_heard : List (Nat × Instr × Nat) := [(0, .aload_n 0, 1), (1, .iload_n 1, 1), (2, .iload_n 2, 1), (3, .invokevirtual 288, 3), (6, .ifCond .eq 9, 3), (9, .aload_n 0, 1), (10, .iconst 1, 1), (11, .invokevirtual 139, 3), (14, .ireturn, 1), (15, .aload_n 0, 1), (16, .aload_n 0, 1), (17, .getfield 87, 3), (20, .iload_n 1, 1), (21, .iload_n 2, 1), (22, .invokevirtual 312, 3), (25, .invokevirtual 178, 3), (28, .ireturn, 1)]
theorem dc_X11_heard : DEC prog_1_method_24_code pc_X11_heard dl_X11_heard := DEC_of (by decide +kernel)
abbrev rm_X11_heard : Room := { frames := 2, cells := 0, slots := 0, locals := 46 }
set_option maxRecDepth 20000 in
theorem sa_X11_heard (l : Launch) : SNDALL l prog_1_method_24_code "GivenUp" 3 (some .int) rm_X11_heard P_X11_heard pc_X11_heard := fun p e s m args below meth c cells slots Q D dA ad A RR hC hR => by
  have hM := RTX_room (R := rm_X11_heard) hR
  exact ⟨st_aload_n hC (n := 0) (k := 0) (dc_X11_heard 0 (0, .aload_n 0, 1) rfl rfl) rfl rfl,
    st_iload_n hC (n := 1) (k := 1) (dc_X11_heard 1 (1, .iload_n 1, 1) rfl rfl) rfl rfl,
    st_iload_n hC (n := 2) (k := 2) (dc_X11_heard 2 (2, .iload_n 2, 1) rfl rfl) rfl rfl,
    st_callV hC (n := 3) (k := 11) (na := 2) (con_X11_isNoPair l) (dc_X11_heard 3 (3, .invokevirtual 288, 3) rfl rfl) rfl wd_1090 wd_143 (by decide) ⟨rfl, rfl, by decide, by decide⟩ hM wd_1087 wd_1089 wd_24 clf_11,
    st_ifeq hC (n := 4) (dc_X11_heard 4 (6, .ifCond .eq 9, 3) rfl rfl) rfl (by decide),
    st_aload_n hC (n := 5) (k := 0) (dc_X11_heard 5 (9, .aload_n 0, 1) rfl rfl) rfl rfl,
    st_iconst hC (n := 6) (x := 1) (dc_X11_heard 6 (10, .iconst 1, 1) rfl rfl) rfl (by decide),
    st_callV hC (n := 7) (k := 11) (na := 1) (con_X11_refuse l) (dc_X11_heard 7 (11, .invokevirtual 139, 3) rfl rfl) rfl wd_824 wd_143 (by decide) ⟨rfl, rfl, by decide, by decide⟩ hM wd_821 wd_823 wd_3 clf_11,
    st_iret hC (n := 8) hR (dc_X11_heard 8 (14, .ireturn, 1) rfl rfl),
    st_aload_n hC (n := 9) (k := 0) (dc_X11_heard 9 (15, .aload_n 0, 1) rfl rfl) rfl rfl,
    st_aload_n hC (n := 10) (k := 0) (dc_X11_heard 10 (16, .aload_n 0, 1) rfl rfl) rfl rfl,
    st_getD hC (n := 11) (k := 11) (j := 12) (dc_X11_heard 11 (17, .getfield 87, 3) rfl rfl) rfl clf_11 (by decide) rfl (by decide) wd_723,
    st_iload_n hC (n := 12) (k := 1) (dc_X11_heard 12 (20, .iload_n 1, 1) rfl rfl) rfl rfl,
    st_iload_n hC (n := 13) (k := 2) (dc_X11_heard 13 (21, .iload_n 2, 1) rfl rfl) rfl rfl,
    st_callV hC (n := 14) (k := 6) (na := 2) (con_X6_hears l) (dc_X11_heard 14 (22, .invokevirtual 312, 3) rfl rfl) rfl wd_1143 wd_155 (by decide) ⟨rfl, rfl, by decide, by decide⟩ hM wd_1140 wd_1141 wd_1142 clf_6,
    st_callV hC (n := 15) (k := 11) (na := 1) (con_X11_answer l) (dc_X11_heard 15 (25, .invokevirtual 178, 3) rfl rfl) rfl wd_967 wd_143 (by decide) ⟨rfl, rfl, by decide, by decide⟩ hM wd_964 wd_966 wd_17 clf_11,
    st_iret hC (n := 16) hR (dc_X11_heard 16 (28, .ireturn, 1) rfl rfl), trivial⟩
set_option maxRecDepth 8000 in
theorem vc_X11_heard : VC P_X11_heard 3 Pre_X11_heard Fn_X11_heard := by
  rintro mm as hom hoa ⟨⟨ns, nm, nt, hV⟩, x, y, rfl⟩
  refine ⟨Nat.le_of_ble_eq_true rfl, fun X h => ?_⟩
  have hS : mm.1 6 (mm.2.2 0) 13 = nI ns := hV.1.1.1
  have hn4 : ns ≤ 4 := hV.1.1.2
  have hN : mm.1 6 (mm.2.2 0) 14 = nI nm := hV.1.2.1.1
  have hm4 : nm ≤ 4 := hV.1.2.1.2
  show X 0 [some (vR 11 0), some (vI x), some (vI y)] [] mm
  refine h (fun _ => false) 3000 0 _ _ _ ?_
  refine And.intro (show Pre_X11_isNoPair mm [vR 11 0, vI x, vI y] from ⟨_, _, rfl⟩) ?_
  refine br_c (fun b4 => ?_) (fun b4 => ?_)
  · -- 4: bI (npC mm x y) = 0 taken
    replace b4 : ¬ (npC mm x y) := bI_0.mp b4
    obtain ⟨i, hi, ex⟩ := ou_in hS (by omega) (fun z => b4 (Or.inl z))
    obtain ⟨j, hj, ey⟩ := ou_in hN (by omega) (fun z => b4 (Or.inr z))
    refine And.intro (show Pre_X6_hears mm [vR 6 (mm.2.2 0), vI x, vI y] from ⟨_, ns, nm, nt, j, hV, by omega, _, by rw [ey]⟩) ?_
    refine And.intro (show Pre_X11_answer mm [vR 11 0, vI (hdA (abV mm (mm.2.2 0)) x y.toNatClampNeg)] from ⟨_, rfl⟩) ?_
    show ((some (vI (hdA (abV mm (mm.2.2 0)) x y.toNatClampNeg)) : Option MV), stC mm 0) = _
    show _ = cl_heard mm x y
    unfold cl_heard
    (try simp only [if_neg b4])
    all_goals exact rfl
  · -- 4: bI (npC mm x y) = 0 on
    replace b4 : npC mm x y := bI_n0.mp b4
    refine And.intro (show Pre_X11_refuse mm [vR 11 0, vI 1] from ⟨_, rfl⟩) ?_
    show ((some (vI (-1)) : Option MV), stC mm 1) = _
    show _ = cl_heard mm x y
    unfold cl_heard
    (try simp only [if_pos b4])
    all_goals exact rfl
theorem con_X11_heard (l : Launch) : CON l y_X11_heard prog_1_method_24_code 3 (some .int) rm_X11_heard Pre_X11_heard Fn_X11_heard := CON_of (by decide) rfl rfl (sa_X11_heard l) vc_X11_heard
def cl_yes (m : MM) (x y : Int32) : Option MV × MM := if npC m x y then rfC m 1 else gvC m (bI (ysA (abV m (m.2.2 0)) x.toNatClampNeg y.toNatClampNeg))

def Pre_X11_yes : PreT := fun m as => VNx m ∧ ∃ x y : Int32, as = [vR 11 0, vI x, vI y]
def Fn_X11_yes : FnT := fun m as => match as with
  | [_, Sum.inl x, Sum.inl y] => cl_yes m x y
  | _ => (none, m)
abbrev y_X11_yes : MethodName := ⟨"GivenUp", "yes", "(II)I"⟩
def P_X11_yes : List StpT := [s_aload 0, s_iload 1, s_iload 2, s_callV 11 2 Pre_X11_isNoPair Fn_X11_isNoPair, s_ifeq 9, s_aload 0, s_ic (1), s_callV 11 1 Pre_X11_refuse Fn_X11_refuse, s_iret, s_aload 0, s_aload 0, s_getD 11 12 6 0, s_iload 1, s_iload 2, s_callV 6 2 Pre_X6_isWilling Fn_X6_isWilling, s_ifeq 18, s_ic (1), s_goto 19, s_ic (0), s_callV 11 1 Pre_X11_answer Fn_X11_answer, s_iret]
def pc_X11_yes : Nat → Nat := fun i => [0, 1, 2, 3, 6, 9, 10, 11, 14, 15, 16, 17, 20, 21, 22, 25, 28, 29, 32, 33, 36].getD i 0
def dl_X11_yes : List (Nat × Instr × Nat) := [(0, .aload_n 0, 1), (1, .iload_n 1, 1), (2, .iload_n 2, 1), (3, .invokevirtual 288, 3), (6, .ifCond .eq 9, 3), (9, .aload_n 0, 1), (10, .iconst 1, 1), (11, .invokevirtual 139, 3), (14, .ireturn, 1), (15, .aload_n 0, 1), (16, .aload_n 0, 1), (17, .getfield 87, 3), (20, .iload_n 1, 1), (21, .iload_n 2, 1), (22, .invokevirtual 315, 3), (25, .ifCond .eq 7, 3), (28, .iconst 1, 1), (29, .goto 4, 3), (32, .iconst 0, 1), (33, .invokevirtual 178, 3), (36, .ireturn, 1)]
theorem dc_X11_yes : DEC prog_1_method_25_code pc_X11_yes dl_X11_yes := DEC_of (by decide +kernel)
abbrev rm_X11_yes : Room := { frames := 3, cells := 0, slots := 0, locals := 68 }
set_option maxRecDepth 20000 in
theorem sa_X11_yes (l : Launch) : SNDALL l prog_1_method_25_code "GivenUp" 3 (some .int) rm_X11_yes P_X11_yes pc_X11_yes := fun p e s m args below meth c cells slots Q D dA ad A RR hC hR => by
  have hM := RTX_room (R := rm_X11_yes) hR
  exact ⟨st_aload_n hC (n := 0) (k := 0) (dc_X11_yes 0 (0, .aload_n 0, 1) rfl rfl) rfl rfl,
    st_iload_n hC (n := 1) (k := 1) (dc_X11_yes 1 (1, .iload_n 1, 1) rfl rfl) rfl rfl,
    st_iload_n hC (n := 2) (k := 2) (dc_X11_yes 2 (2, .iload_n 2, 1) rfl rfl) rfl rfl,
    st_callV hC (n := 3) (k := 11) (na := 2) (con_X11_isNoPair l) (dc_X11_yes 3 (3, .invokevirtual 288, 3) rfl rfl) rfl wd_1090 wd_143 (by decide) ⟨rfl, rfl, by decide, by decide⟩ hM wd_1087 wd_1089 wd_24 clf_11,
    st_ifeq hC (n := 4) (dc_X11_yes 4 (6, .ifCond .eq 9, 3) rfl rfl) rfl (by decide),
    st_aload_n hC (n := 5) (k := 0) (dc_X11_yes 5 (9, .aload_n 0, 1) rfl rfl) rfl rfl,
    st_iconst hC (n := 6) (x := 1) (dc_X11_yes 6 (10, .iconst 1, 1) rfl rfl) rfl (by decide),
    st_callV hC (n := 7) (k := 11) (na := 1) (con_X11_refuse l) (dc_X11_yes 7 (11, .invokevirtual 139, 3) rfl rfl) rfl wd_824 wd_143 (by decide) ⟨rfl, rfl, by decide, by decide⟩ hM wd_821 wd_823 wd_3 clf_11,
    st_iret hC (n := 8) hR (dc_X11_yes 8 (14, .ireturn, 1) rfl rfl),
    st_aload_n hC (n := 9) (k := 0) (dc_X11_yes 9 (15, .aload_n 0, 1) rfl rfl) rfl rfl,
    st_aload_n hC (n := 10) (k := 0) (dc_X11_yes 10 (16, .aload_n 0, 1) rfl rfl) rfl rfl,
    st_getD hC (n := 11) (k := 11) (j := 12) (dc_X11_yes 11 (17, .getfield 87, 3) rfl rfl) rfl clf_11 (by decide) rfl (by decide) wd_723,
    st_iload_n hC (n := 12) (k := 1) (dc_X11_yes 12 (20, .iload_n 1, 1) rfl rfl) rfl rfl,
    st_iload_n hC (n := 13) (k := 2) (dc_X11_yes 13 (21, .iload_n 2, 1) rfl rfl) rfl rfl,
    st_callV hC (n := 14) (k := 6) (na := 2) (con_X6_isWilling l) (dc_X11_yes 14 (22, .invokevirtual 315, 3) rfl rfl) rfl wd_1155 wd_155 (by decide) ⟨rfl, rfl, by decide, by decide⟩ hM wd_1152 wd_1153 wd_1154 clf_6,
    st_ifeq hC (n := 15) (dc_X11_yes 15 (25, .ifCond .eq 7, 3) rfl rfl) rfl (by decide),
    st_iconst hC (n := 16) (x := 1) (dc_X11_yes 16 (28, .iconst 1, 1) rfl rfl) rfl (by decide),
    st_goto hC (n := 17) (dc_X11_yes 17 (29, .goto 4, 3) rfl rfl) (by decide),
    st_iconst hC (n := 18) (x := 0) (dc_X11_yes 18 (32, .iconst 0, 1) rfl rfl) rfl (by decide),
    st_callV hC (n := 19) (k := 11) (na := 1) (con_X11_answer l) (dc_X11_yes 19 (33, .invokevirtual 178, 3) rfl rfl) rfl wd_967 wd_143 (by decide) ⟨rfl, rfl, by decide, by decide⟩ hM wd_964 wd_966 wd_17 clf_11,
    st_iret hC (n := 20) hR (dc_X11_yes 20 (36, .ireturn, 1) rfl rfl), trivial⟩
set_option maxRecDepth 8000 in
theorem vc_X11_yes : VC P_X11_yes 3 Pre_X11_yes Fn_X11_yes := by
  rintro mm as hom hoa ⟨⟨ns, nm, nt, hV⟩, x, y, rfl⟩
  refine ⟨Nat.le_of_ble_eq_true rfl, fun X h => ?_⟩
  have hS : mm.1 6 (mm.2.2 0) 13 = nI ns := hV.1.1.1
  have hn4 : ns ≤ 4 := hV.1.1.2
  have hN : mm.1 6 (mm.2.2 0) 14 = nI nm := hV.1.2.1.1
  have hm4 : nm ≤ 4 := hV.1.2.1.2
  show X 0 [some (vR 11 0), some (vI x), some (vI y)] [] mm
  refine h (fun _ => false) 3000 0 _ _ _ ?_
  refine And.intro (show Pre_X11_isNoPair mm [vR 11 0, vI x, vI y] from ⟨_, _, rfl⟩) ?_
  refine br_c (fun b4 => ?_) (fun b4 => ?_)
  · -- 4: bI (npC mm x y) = 0 taken
    replace b4 : ¬ (npC mm x y) := bI_0.mp b4
    obtain ⟨i, hi, ex⟩ := ou_in hS (by omega) (fun z => b4 (Or.inl z))
    obtain ⟨j, hj, ey⟩ := ou_in hN (by omega) (fun z => b4 (Or.inr z))
    refine And.intro (show Pre_X6_isWilling mm [vR 6 (mm.2.2 0), vI x, vI y] from ⟨_, ns, nm, nt, i, j, hV, by omega, by omega, by rw [ex, ey]⟩) ?_
    refine br_c (fun b15 => ?_) (fun b15 => ?_)
    · -- 15: bI (ysA (abV mm (mm.2.2 0)) x.toNatClampNeg y.toNatClampNeg) = 0 taken
      replace b15 : ¬ (ysA (abV mm (mm.2.2 0)) x.toNatClampNeg y.toNatClampNeg) := bI_0.mp b15
      refine And.intro (show Pre_X11_answer mm [vR 11 0, vI 0] from ⟨_, rfl⟩) ?_
      show ((some (vI 0) : Option MV), stC mm 0) = _
      show _ = cl_yes mm x y
      unfold cl_yes
      rw [if_neg b4, bI_f b15]
      rfl
    · -- 15: bI (ysA (abV mm (mm.2.2 0)) x.toNatClampNeg y.toNatClampNeg) = 0 on
      replace b15 : ysA (abV mm (mm.2.2 0)) x.toNatClampNeg y.toNatClampNeg := bI_n0.mp b15
      refine And.intro (show Pre_X11_answer mm [vR 11 0, vI 1] from ⟨_, rfl⟩) ?_
      show ((some (vI 1) : Option MV), stC mm 0) = _
      show _ = cl_yes mm x y
      unfold cl_yes
      rw [if_neg b4, bI_t b15]
      rfl
  · -- 4: bI (npC mm x y) = 0 on
    replace b4 : npC mm x y := bI_n0.mp b4
    refine And.intro (show Pre_X11_refuse mm [vR 11 0, vI 1] from ⟨_, rfl⟩) ?_
    show ((some (vI (-1)) : Option MV), stC mm 1) = _
    exact (if_pos b4).symm
theorem con_X11_yes (l : Launch) : CON l y_X11_yes prog_1_method_25_code 3 (some .int) rm_X11_yes Pre_X11_yes Fn_X11_yes := CON_of (by decide) rfl rfl (sa_X11_yes l) vc_X11_yes
def cl_lacks (m : MM) (x y : Int32) : Option MV × MM := if npC m x y then rfC m 1 else gvC m (brA (abV m (m.2.2 0)) y.toNatClampNeg ((abV m (m.2.2 0)) 6) - hdA (abV m (m.2.2 0)) x y.toNatClampNeg)

def Pre_X11_lacks : PreT := fun m as => VNx m ∧ ∃ x y : Int32, as = [vR 11 0, vI x, vI y]
def Fn_X11_lacks : FnT := fun m as => match as with
  | [_, Sum.inl x, Sum.inl y] => cl_lacks m x y
  | _ => (none, m)
abbrev y_X11_lacks : MethodName := ⟨"GivenUp", "lacks", "(II)I"⟩
def P_X11_lacks : List StpT := [s_aload 0, s_iload 1, s_iload 2, s_callV 11 2 Pre_X11_isNoPair Fn_X11_isNoPair, s_ifeq 9, s_aload 0, s_ic (1), s_callV 11 1 Pre_X11_refuse Fn_X11_refuse, s_iret, s_aload 0, s_aload 0, s_getD 11 12 6 0, s_iload 2, s_callV 6 1 Pre_X6_barNow Fn_X6_barNow, s_aload 0, s_getD 11 12 6 0, s_iload 1, s_iload 2, s_callV 6 2 Pre_X6_hears Fn_X6_hears, s_isub, s_callV 11 1 Pre_X11_answer Fn_X11_answer, s_iret]
def pc_X11_lacks : Nat → Nat := fun i => [0, 1, 2, 3, 6, 9, 10, 11, 14, 15, 16, 17, 20, 21, 24, 25, 28, 29, 30, 33, 34, 37].getD i 0
def dl_X11_lacks : List (Nat × Instr × Nat) := [(0, .aload_n 0, 1), (1, .iload_n 1, 1), (2, .iload_n 2, 1), (3, .invokevirtual 288, 3), (6, .ifCond .eq 9, 3), (9, .aload_n 0, 1), (10, .iconst 1, 1), (11, .invokevirtual 139, 3), (14, .ireturn, 1), (15, .aload_n 0, 1), (16, .aload_n 0, 1), (17, .getfield 87, 3), (20, .iload_n 2, 1), (21, .invokevirtual 264, 3), (24, .aload_n 0, 1), (25, .getfield 87, 3), (28, .iload_n 1, 1), (29, .iload_n 2, 1), (30, .invokevirtual 312, 3), (33, .isub, 1), (34, .invokevirtual 178, 3), (37, .ireturn, 1)]
theorem dc_X11_lacks : DEC prog_1_method_26_code pc_X11_lacks dl_X11_lacks := DEC_of (by decide +kernel)
abbrev rm_X11_lacks : Room := { frames := 2, cells := 0, slots := 0, locals := 46 }
set_option maxRecDepth 20000 in
theorem sa_X11_lacks (l : Launch) : SNDALL l prog_1_method_26_code "GivenUp" 3 (some .int) rm_X11_lacks P_X11_lacks pc_X11_lacks := fun p e s m args below meth c cells slots Q D dA ad A RR hC hR => by
  have hM := RTX_room (R := rm_X11_lacks) hR
  exact ⟨st_aload_n hC (n := 0) (k := 0) (dc_X11_lacks 0 (0, .aload_n 0, 1) rfl rfl) rfl rfl,
    st_iload_n hC (n := 1) (k := 1) (dc_X11_lacks 1 (1, .iload_n 1, 1) rfl rfl) rfl rfl,
    st_iload_n hC (n := 2) (k := 2) (dc_X11_lacks 2 (2, .iload_n 2, 1) rfl rfl) rfl rfl,
    st_callV hC (n := 3) (k := 11) (na := 2) (con_X11_isNoPair l) (dc_X11_lacks 3 (3, .invokevirtual 288, 3) rfl rfl) rfl wd_1090 wd_143 (by decide) ⟨rfl, rfl, by decide, by decide⟩ hM wd_1087 wd_1089 wd_24 clf_11,
    st_ifeq hC (n := 4) (dc_X11_lacks 4 (6, .ifCond .eq 9, 3) rfl rfl) rfl (by decide),
    st_aload_n hC (n := 5) (k := 0) (dc_X11_lacks 5 (9, .aload_n 0, 1) rfl rfl) rfl rfl,
    st_iconst hC (n := 6) (x := 1) (dc_X11_lacks 6 (10, .iconst 1, 1) rfl rfl) rfl (by decide),
    st_callV hC (n := 7) (k := 11) (na := 1) (con_X11_refuse l) (dc_X11_lacks 7 (11, .invokevirtual 139, 3) rfl rfl) rfl wd_824 wd_143 (by decide) ⟨rfl, rfl, by decide, by decide⟩ hM wd_821 wd_823 wd_3 clf_11,
    st_iret hC (n := 8) hR (dc_X11_lacks 8 (14, .ireturn, 1) rfl rfl),
    st_aload_n hC (n := 9) (k := 0) (dc_X11_lacks 9 (15, .aload_n 0, 1) rfl rfl) rfl rfl,
    st_aload_n hC (n := 10) (k := 0) (dc_X11_lacks 10 (16, .aload_n 0, 1) rfl rfl) rfl rfl,
    st_getD hC (n := 11) (k := 11) (j := 12) (dc_X11_lacks 11 (17, .getfield 87, 3) rfl rfl) rfl clf_11 (by decide) rfl (by decide) wd_723,
    st_iload_n hC (n := 12) (k := 2) (dc_X11_lacks 12 (20, .iload_n 2, 1) rfl rfl) rfl rfl,
    st_callV hC (n := 13) (k := 6) (na := 1) (con_X6_barNow l) (dc_X11_lacks 13 (21, .invokevirtual 264, 3) rfl rfl) rfl wd_1056 wd_155 (by decide) ⟨rfl, rfl, by decide, by decide⟩ hM wd_1053 wd_1054 wd_1055 clf_6,
    st_aload_n hC (n := 14) (k := 0) (dc_X11_lacks 14 (24, .aload_n 0, 1) rfl rfl) rfl rfl,
    st_getD hC (n := 15) (k := 11) (j := 12) (dc_X11_lacks 15 (25, .getfield 87, 3) rfl rfl) rfl clf_11 (by decide) rfl (by decide) wd_723,
    st_iload_n hC (n := 16) (k := 1) (dc_X11_lacks 16 (28, .iload_n 1, 1) rfl rfl) rfl rfl,
    st_iload_n hC (n := 17) (k := 2) (dc_X11_lacks 17 (29, .iload_n 2, 1) rfl rfl) rfl rfl,
    st_callV hC (n := 18) (k := 6) (na := 2) (con_X6_hears l) (dc_X11_lacks 18 (30, .invokevirtual 312, 3) rfl rfl) rfl wd_1143 wd_155 (by decide) ⟨rfl, rfl, by decide, by decide⟩ hM wd_1140 wd_1141 wd_1142 clf_6,
    st_isub hC (n := 19) (dc_X11_lacks 19 (33, .isub, 1) rfl rfl) rfl,
    st_callV hC (n := 20) (k := 11) (na := 1) (con_X11_answer l) (dc_X11_lacks 20 (34, .invokevirtual 178, 3) rfl rfl) rfl wd_967 wd_143 (by decide) ⟨rfl, rfl, by decide, by decide⟩ hM wd_964 wd_966 wd_17 clf_11,
    st_iret hC (n := 21) hR (dc_X11_lacks 21 (37, .ireturn, 1) rfl rfl), trivial⟩
set_option maxRecDepth 8000 in
theorem vc_X11_lacks : VC P_X11_lacks 3 Pre_X11_lacks Fn_X11_lacks := by
  rintro mm as hom hoa ⟨⟨ns, nm, nt, hV⟩, x, y, rfl⟩
  refine ⟨Nat.le_of_ble_eq_true rfl, fun X h => ?_⟩
  have hS : mm.1 6 (mm.2.2 0) 13 = nI ns := hV.1.1.1
  have hn4 : ns ≤ 4 := hV.1.1.2
  have hN : mm.1 6 (mm.2.2 0) 14 = nI nm := hV.1.2.1.1
  have hm4 : nm ≤ 4 := hV.1.2.1.2
  show X 0 [some (vR 11 0), some (vI x), some (vI y)] [] mm
  refine h (fun _ => false) 3000 0 _ _ _ ?_
  refine And.intro (show Pre_X11_isNoPair mm [vR 11 0, vI x, vI y] from ⟨_, _, rfl⟩) ?_
  refine br_c (fun b4 => ?_) (fun b4 => ?_)
  · -- 4: bI (npC mm x y) = 0 taken
    replace b4 : ¬ (npC mm x y) := bI_0.mp b4
    obtain ⟨i, hi, ex⟩ := ou_in hS (by omega) (fun z => b4 (Or.inl z))
    obtain ⟨j, hj, ey⟩ := ou_in hN (by omega) (fun z => b4 (Or.inr z))
    refine And.intro (show Pre_X6_barNow mm [vR 6 (mm.2.2 0), vI y] from ⟨_, j, by omega, by rw [ey]⟩) ?_
    refine And.intro (show Pre_X6_hears mm [vR 6 (mm.2.2 0), vI x, vI y] from ⟨_, ns, nm, nt, j, hV, by omega, _, by rw [ey]⟩) ?_
    refine And.intro (show Pre_X11_answer mm [vR 11 0, vI ((brA (abV mm (mm.2.2 0)) y.toNatClampNeg (abV mm (mm.2.2 0) 6)) - (hdA (abV mm (mm.2.2 0)) x y.toNatClampNeg))] from ⟨_, rfl⟩) ?_
    show ((some (vI ((brA (abV mm (mm.2.2 0)) y.toNatClampNeg (abV mm (mm.2.2 0) 6)) - (hdA (abV mm (mm.2.2 0)) x y.toNatClampNeg))) : Option MV), stC mm 0) = _
    show _ = cl_lacks mm x y
    unfold cl_lacks
    (try simp only [if_neg b4])
    all_goals exact rfl
  · -- 4: bI (npC mm x y) = 0 on
    replace b4 : npC mm x y := bI_n0.mp b4
    refine And.intro (show Pre_X11_refuse mm [vR 11 0, vI 1] from ⟨_, rfl⟩) ?_
    show ((some (vI (-1)) : Option MV), stC mm 1) = _
    show _ = cl_lacks mm x y
    unfold cl_lacks
    (try simp only [if_pos b4])
    all_goals exact rfl
theorem con_X11_lacks (l : Launch) : CON l y_X11_lacks prog_1_method_26_code 3 (some .int) rm_X11_lacks Pre_X11_lacks Fn_X11_lacks := CON_of (by decide) rfl rfl (sa_X11_lacks l) vc_X11_lacks
def cl_dearest (m : MM) (x y : Int32) : Option MV × MM := if npC m x y then rfC m 1 else onC m (bfA (abV m (m.2.2 0)) x y.toNatClampNeg (m.1 6 (m.2.2 0) 15).toNatClampNeg)

def Pre_X11_dearest : PreT := fun m as => VNx m ∧ ∃ x y : Int32, as = [vR 11 0, vI x, vI y]
def Fn_X11_dearest : FnT := fun m as => match as with
  | [_, Sum.inl x, Sum.inl y] => cl_dearest m x y
  | _ => (none, m)
abbrev y_X11_dearest : MethodName := ⟨"GivenUp", "dearest", "(II)I"⟩
def P_X11_dearest : List StpT := [s_aload 0, s_iload 1, s_iload 2, s_callV 11 2 Pre_X11_isNoPair Fn_X11_isNoPair, s_ifeq 9, s_aload 0, s_ic (1), s_callV 11 1 Pre_X11_refuse Fn_X11_refuse, s_iret, s_aload 0, s_aload 0, s_getD 11 12 6 0, s_iload 1, s_iload 2, s_callV 6 2 Pre_X6_bestFor Fn_X6_bestFor, s_callV 11 1 Pre_X11_answerOrNone Fn_X11_answerOrNone, s_iret]
def pc_X11_dearest : Nat → Nat := fun i => [0, 1, 2, 3, 6, 9, 10, 11, 14, 15, 16, 17, 20, 21, 22, 25, 28].getD i 0
def dl_X11_dearest : List (Nat × Instr × Nat) := [(0, .aload_n 0, 1), (1, .iload_n 1, 1), (2, .iload_n 2, 1), (3, .invokevirtual 288, 3), (6, .ifCond .eq 9, 3), (9, .aload_n 0, 1), (10, .iconst 1, 1), (11, .invokevirtual 139, 3), (14, .ireturn, 1), (15, .aload_n 0, 1), (16, .aload_n 0, 1), (17, .getfield 87, 3), (20, .iload_n 1, 1), (21, .iload_n 2, 1), (22, .invokevirtual 336, 3), (25, .invokevirtual 249, 3), (28, .ireturn, 1)]
theorem dc_X11_dearest : DEC prog_1_method_33_code pc_X11_dearest dl_X11_dearest := DEC_of (by decide +kernel)
abbrev rm_X11_dearest : Room := { frames := 3, cells := 0, slots := 0, locals := 69 }
set_option maxRecDepth 20000 in
theorem sa_X11_dearest (l : Launch) : SNDALL l prog_1_method_33_code "GivenUp" 3 (some .int) rm_X11_dearest P_X11_dearest pc_X11_dearest := fun p e s m args below meth c cells slots Q D dA ad A RR hC hR => by
  have hM := RTX_room (R := rm_X11_dearest) hR
  exact ⟨st_aload_n hC (n := 0) (k := 0) (dc_X11_dearest 0 (0, .aload_n 0, 1) rfl rfl) rfl rfl,
    st_iload_n hC (n := 1) (k := 1) (dc_X11_dearest 1 (1, .iload_n 1, 1) rfl rfl) rfl rfl,
    st_iload_n hC (n := 2) (k := 2) (dc_X11_dearest 2 (2, .iload_n 2, 1) rfl rfl) rfl rfl,
    st_callV hC (n := 3) (k := 11) (na := 2) (con_X11_isNoPair l) (dc_X11_dearest 3 (3, .invokevirtual 288, 3) rfl rfl) rfl wd_1090 wd_143 (by decide) ⟨rfl, rfl, by decide, by decide⟩ hM wd_1087 wd_1089 wd_24 clf_11,
    st_ifeq hC (n := 4) (dc_X11_dearest 4 (6, .ifCond .eq 9, 3) rfl rfl) rfl (by decide),
    st_aload_n hC (n := 5) (k := 0) (dc_X11_dearest 5 (9, .aload_n 0, 1) rfl rfl) rfl rfl,
    st_iconst hC (n := 6) (x := 1) (dc_X11_dearest 6 (10, .iconst 1, 1) rfl rfl) rfl (by decide),
    st_callV hC (n := 7) (k := 11) (na := 1) (con_X11_refuse l) (dc_X11_dearest 7 (11, .invokevirtual 139, 3) rfl rfl) rfl wd_824 wd_143 (by decide) ⟨rfl, rfl, by decide, by decide⟩ hM wd_821 wd_823 wd_3 clf_11,
    st_iret hC (n := 8) hR (dc_X11_dearest 8 (14, .ireturn, 1) rfl rfl),
    st_aload_n hC (n := 9) (k := 0) (dc_X11_dearest 9 (15, .aload_n 0, 1) rfl rfl) rfl rfl,
    st_aload_n hC (n := 10) (k := 0) (dc_X11_dearest 10 (16, .aload_n 0, 1) rfl rfl) rfl rfl,
    st_getD hC (n := 11) (k := 11) (j := 12) (dc_X11_dearest 11 (17, .getfield 87, 3) rfl rfl) rfl clf_11 (by decide) rfl (by decide) wd_723,
    st_iload_n hC (n := 12) (k := 1) (dc_X11_dearest 12 (20, .iload_n 1, 1) rfl rfl) rfl rfl,
    st_iload_n hC (n := 13) (k := 2) (dc_X11_dearest 13 (21, .iload_n 2, 1) rfl rfl) rfl rfl,
    st_callV hC (n := 14) (k := 6) (na := 2) (con_X6_bestFor l) (dc_X11_dearest 14 (22, .invokevirtual 336, 3) rfl rfl) rfl wd_1235 wd_155 (by decide) ⟨rfl, rfl, by decide, by decide⟩ hM wd_1232 wd_1233 wd_1234 clf_6,
    st_callV hC (n := 15) (k := 11) (na := 1) (con_X11_answerOrNone l) (dc_X11_dearest 15 (25, .invokevirtual 249, 3) rfl rfl) rfl wd_1047 wd_143 (by decide) ⟨rfl, rfl, by decide, by decide⟩ hM wd_1044 wd_1046 wd_23 clf_11,
    st_iret hC (n := 16) hR (dc_X11_dearest 16 (28, .ireturn, 1) rfl rfl), trivial⟩
set_option maxRecDepth 8000 in
theorem vc_X11_dearest : VC P_X11_dearest 3 Pre_X11_dearest Fn_X11_dearest := by
  rintro mm as hom hoa ⟨⟨ns, nm, nt, hV⟩, x, y, rfl⟩
  refine ⟨Nat.le_of_ble_eq_true rfl, fun X h => ?_⟩
  have hS : mm.1 6 (mm.2.2 0) 13 = nI ns := hV.1.1.1
  have hn4 : ns ≤ 4 := hV.1.1.2
  have hN : mm.1 6 (mm.2.2 0) 14 = nI nm := hV.1.2.1.1
  have hm4 : nm ≤ 4 := hV.1.2.1.2
  show X 0 [some (vR 11 0), some (vI x), some (vI y)] [] mm
  refine h (fun _ => false) 3000 0 _ _ _ ?_
  refine And.intro (show Pre_X11_isNoPair mm [vR 11 0, vI x, vI y] from ⟨_, _, rfl⟩) ?_
  refine br_c (fun b4 => ?_) (fun b4 => ?_)
  · -- 4: bI (npC mm x y) = 0 taken
    replace b4 : ¬ (npC mm x y) := bI_0.mp b4
    obtain ⟨i, hi, ex⟩ := ou_in hS (by omega) (fun z => b4 (Or.inl z))
    obtain ⟨j, hj, ey⟩ := ou_in hN (by omega) (fun z => b4 (Or.inr z))
    refine And.intro (show Pre_X6_bestFor mm [vR 6 (mm.2.2 0), vI x, vI y] from ⟨_, ns, nm, nt, j, hV, by omega, _, by rw [ey]⟩) ?_
    refine And.intro (show Pre_X11_answerOrNone mm [vR 11 0, vI (bfA (abV mm (mm.2.2 0)) x y.toNatClampNeg (mm.1 6 (mm.2.2 0) 15).toNatClampNeg)] from ⟨_, rfl⟩) ?_
    show ((some (vI (if (bfA (abV mm (mm.2.2 0)) x y.toNatClampNeg (mm.1 6 (mm.2.2 0) 15).toNatClampNeg) < 0 then -1 else (bfA (abV mm (mm.2.2 0)) x y.toNatClampNeg (mm.1 6 (mm.2.2 0) 15).toNatClampNeg))) : Option MV), stC mm (if (bfA (abV mm (mm.2.2 0)) x y.toNatClampNeg (mm.1 6 (mm.2.2 0) 15).toNatClampNeg) < 0 then 6 else 0)) = _
    show _ = cl_dearest mm x y
    unfold cl_dearest
    (try simp only [if_neg b4])
    all_goals exact rfl
  · -- 4: bI (npC mm x y) = 0 on
    replace b4 : npC mm x y := bI_n0.mp b4
    refine And.intro (show Pre_X11_refuse mm [vR 11 0, vI 1] from ⟨_, rfl⟩) ?_
    show ((some (vI (-1)) : Option MV), stC mm 1) = _
    show _ = cl_dearest mm x y
    unfold cl_dearest
    (try simp only [if_pos b4])
    all_goals exact rfl
theorem con_X11_dearest (l : Launch) : CON l y_X11_dearest prog_1_method_33_code 3 (some .int) rm_X11_dearest Pre_X11_dearest Fn_X11_dearest := CON_of (by decide) rfl rfl (sa_X11_dearest l) vc_X11_dearest
def cl_likes (m : MM) (x y : Int32) : Option MV × MM := if npC m x y then rfC m 1 else gvC m (m.1 31 (m.2.2 0) (x * 4 + y).toNatClampNeg)

def Pre_X11_likes : PreT := fun m as => VNx m ∧ ∃ x y : Int32, as = [vR 11 0, vI x, vI y]
def Fn_X11_likes : FnT := fun m as => match as with
  | [_, Sum.inl x, Sum.inl y] => cl_likes m x y
  | _ => (none, m)
abbrev y_X11_likes : MethodName := ⟨"GivenUp", "likes", "(II)I"⟩
def P_X11_likes : List StpT := [s_aload 0, s_iload 1, s_iload 2, s_callV 11 2 Pre_X11_isNoPair Fn_X11_isNoPair, s_ifeq 9, s_aload 0, s_ic (1), s_callV 11 1 Pre_X11_refuse Fn_X11_refuse, s_iret, s_aload 0, s_aload 0, s_getD 11 12 6 0, s_getR 6 2 31, s_iload 1, s_ic (4), s_imul, s_iload 2, s_iadd, s_iald, s_callV 11 1 Pre_X11_answer Fn_X11_answer, s_iret]
def pc_X11_likes : Nat → Nat := fun i => [0, 1, 2, 3, 6, 9, 10, 11, 14, 15, 16, 17, 20, 23, 24, 25, 26, 27, 28, 29, 32].getD i 0
def dl_X11_likes : List (Nat × Instr × Nat) := [(0, .aload_n 0, 1), (1, .iload_n 1, 1), (2, .iload_n 2, 1), (3, .invokevirtual 288, 3), (6, .ifCond .eq 9, 3), (9, .aload_n 0, 1), (10, .iconst 1, 1), (11, .invokevirtual 139, 3), (14, .ireturn, 1), (15, .aload_n 0, 1), (16, .aload_n 0, 1), (17, .getfield 87, 3), (20, .getfield 291, 3), (23, .iload_n 1, 1), (24, .iconst 4, 1), (25, .imul, 1), (26, .iload_n 2, 1), (27, .iadd, 1), (28, .iaload, 1), (29, .invokevirtual 178, 3), (32, .ireturn, 1)]
theorem dc_X11_likes : DEC prog_1_method_18_code pc_X11_likes dl_X11_likes := DEC_of (by decide +kernel)
abbrev rm_X11_likes : Room := { frames := 2, cells := 0, slots := 0, locals := 43 }
set_option maxRecDepth 20000 in
theorem sa_X11_likes (l : Launch) : SNDALL l prog_1_method_18_code "GivenUp" 3 (some .int) rm_X11_likes P_X11_likes pc_X11_likes := fun p e s m args below meth c cells slots Q D dA ad A RR hC hR => by
  have hM := RTX_room (R := rm_X11_likes) hR
  exact ⟨st_aload_n hC (n := 0) (k := 0) (dc_X11_likes 0 (0, .aload_n 0, 1) rfl rfl) rfl rfl,
    st_iload_n hC (n := 1) (k := 1) (dc_X11_likes 1 (1, .iload_n 1, 1) rfl rfl) rfl rfl,
    st_iload_n hC (n := 2) (k := 2) (dc_X11_likes 2 (2, .iload_n 2, 1) rfl rfl) rfl rfl,
    st_callV hC (n := 3) (k := 11) (na := 2) (con_X11_isNoPair l) (dc_X11_likes 3 (3, .invokevirtual 288, 3) rfl rfl) rfl wd_1090 wd_143 (by decide) ⟨rfl, rfl, by decide, by decide⟩ hM wd_1087 wd_1089 wd_24 clf_11,
    st_ifeq hC (n := 4) (dc_X11_likes 4 (6, .ifCond .eq 9, 3) rfl rfl) rfl (by decide),
    st_aload_n hC (n := 5) (k := 0) (dc_X11_likes 5 (9, .aload_n 0, 1) rfl rfl) rfl rfl,
    st_iconst hC (n := 6) (x := 1) (dc_X11_likes 6 (10, .iconst 1, 1) rfl rfl) rfl (by decide),
    st_callV hC (n := 7) (k := 11) (na := 1) (con_X11_refuse l) (dc_X11_likes 7 (11, .invokevirtual 139, 3) rfl rfl) rfl wd_824 wd_143 (by decide) ⟨rfl, rfl, by decide, by decide⟩ hM wd_821 wd_823 wd_3 clf_11,
    st_iret hC (n := 8) hR (dc_X11_likes 8 (14, .ireturn, 1) rfl rfl),
    st_aload_n hC (n := 9) (k := 0) (dc_X11_likes 9 (15, .aload_n 0, 1) rfl rfl) rfl rfl,
    st_aload_n hC (n := 10) (k := 0) (dc_X11_likes 10 (16, .aload_n 0, 1) rfl rfl) rfl rfl,
    st_getD hC (n := 11) (k := 11) (j := 12) (dc_X11_likes 11 (17, .getfield 87, 3) rfl rfl) rfl clf_11 (by decide) rfl (by decide) wd_723,
    st_getR hC (n := 12) (k := 6) (j := 2) (dc_X11_likes 12 (20, .getfield 291, 3) rfl rfl) rfl clf_6 (by decide) rfl (by decide) wd_584,
    st_iload_n hC (n := 13) (k := 1) (dc_X11_likes 13 (23, .iload_n 1, 1) rfl rfl) rfl rfl,
    st_iconst hC (n := 14) (x := 4) (dc_X11_likes 14 (24, .iconst 4, 1) rfl rfl) rfl (by decide),
    st_imul hC (n := 15) (dc_X11_likes 15 (25, .imul, 1) rfl rfl) rfl,
    st_iload_n hC (n := 16) (k := 2) (dc_X11_likes 16 (26, .iload_n 2, 1) rfl rfl) rfl rfl,
    st_iadd hC (n := 17) (dc_X11_likes 17 (27, .iadd, 1) rfl rfl) rfl,
    st_iald hC (n := 18) (dc_X11_likes 18 (28, .iaload, 1) rfl rfl) rfl,
    st_callV hC (n := 19) (k := 11) (na := 1) (con_X11_answer l) (dc_X11_likes 19 (29, .invokevirtual 178, 3) rfl rfl) rfl wd_967 wd_143 (by decide) ⟨rfl, rfl, by decide, by decide⟩ hM wd_964 wd_966 wd_17 clf_11,
    st_iret hC (n := 20) hR (dc_X11_likes 20 (32, .ireturn, 1) rfl rfl), trivial⟩
set_option maxRecDepth 8000 in
theorem vc_X11_likes : VC P_X11_likes 3 Pre_X11_likes Fn_X11_likes := by
  rintro mm as hom hoa ⟨⟨ns, nm, nt, hV⟩, x, y, rfl⟩
  refine ⟨Nat.le_of_ble_eq_true rfl, fun X h => ?_⟩
  have hS : mm.1 6 (mm.2.2 0) 13 = nI ns := hV.1.1.1
  have hn4 : ns ≤ 4 := hV.1.1.2
  have hN : mm.1 6 (mm.2.2 0) 14 = nI nm := hV.1.2.1.1
  have hm4 : nm ≤ 4 := hV.1.2.1.2
  show X 0 [some (vR 11 0), some (vI x), some (vI y)] [] mm
  refine h (fun _ => false) 3000 0 _ _ _ ?_
  refine And.intro (show Pre_X11_isNoPair mm [vR 11 0, vI x, vI y] from ⟨_, _, rfl⟩) ?_
  refine br_c (fun b4 => ?_) (fun b4 => ?_)
  · -- 4: bI (npC mm x y) = 0 taken
    replace b4 : ¬ (npC mm x y) := bI_0.mp b4
    obtain ⟨i, hi, ex⟩ := ou_in hS (by omega) (fun z => b4 (Or.inl z))
    obtain ⟨j, hj, ey⟩ := ou_in hN (by omega) (fun z => b4 (Or.inr z))
    have x1 : x * 4 + y = nI (4 * i + j) := by rw [ex, ey, show (4 : Int32) = nI 4 from rfl, pk_mul, nI_add, Nat.mul_comm i 4]
    refine And.intro (show inb ((x * 4) + y) (alen 31) = true from (inb_o 16 rfl rfl x1 (by omega))) ?_
    refine And.intro (show Pre_X11_answer mm [vR 11 0, vI (mm.1 31 (mm.2.2 0) (((x * 4) + y).toNatClampNeg))] from ⟨_, rfl⟩) ?_
    show ((some (vI (mm.1 31 (mm.2.2 0) (((x * 4) + y).toNatClampNeg))) : Option MV), stC mm 0) = _
    show _ = cl_likes mm x y
    unfold cl_likes
    (try simp only [if_neg b4])
    all_goals exact rfl
  · -- 4: bI (npC mm x y) = 0 on
    replace b4 : npC mm x y := bI_n0.mp b4
    refine And.intro (show Pre_X11_refuse mm [vR 11 0, vI 1] from ⟨_, rfl⟩) ?_
    show ((some (vI (-1)) : Option MV), stC mm 1) = _
    show _ = cl_likes mm x y
    unfold cl_likes
    (try simp only [if_pos b4])
    all_goals exact rfl
theorem con_X11_likes (l : Launch) : CON l y_X11_likes prog_1_method_18_code 3 (some .int) rm_X11_likes Pre_X11_likes Fn_X11_likes := CON_of (by decide) rfl rfl (sa_X11_likes l) vc_X11_likes
end
