/-! PART 91: the class: calls that tell of one; the given, the wed -/

noncomputable section
def cl_told (m : MM) (x : Int32) : Option MV × MM := if x = 0 then gvC m (m.1 6 (m.2.2 0) 13) else if x = 1 then gvC m (m.1 6 (m.2.2 0) 14) else if x = 2 then gvC m (m.1 6 (m.2.2 0) 15) else if x = 3 then gvC m (m.1 6 (m.2.2 0) 16) else if x = 4 then gvC m (m.1 6 (m.2.2 0) 17) else if x = 5 then gvC m (m.1 6 (m.2.2 0) 18) else if x = 6 then gvC m (m.1 1 (m.2.2 0) 4) else if x = 7 then gvC m (cpF (abV m (m.2.2 0)) (m.1 6 (m.2.2 0) 13).toNatClampNeg) else if x = 8 then gvC m (m.1 1 (m.2.2 0) 5) else if x = 9 then gvC m (m.1 1 (m.2.2 0) 6) else rfC m 1

def Pre_X11_told : PreT := fun m as => VNx m ∧ NDo m (m.2.2 0) ∧ ∃ x : Int32, as = [vR 11 0, vI x]
def Fn_X11_told : FnT := fun m as => match as with
  | [_, Sum.inl x] => cl_told m x
  | _ => (none, m)
abbrev y_X11_told : MethodName := ⟨"GivenUp", "told", "(I)I"⟩
def P_X11_told : List StpT := [s_iload 1, s_sw (tsw (0) [2, 8, 14, 20, 26, 32, 38, 45, 51, 58]) 65, s_aload 0, s_aload 0, s_getD 11 12 6 0, s_getI 6 13, s_callV 11 1 Pre_X11_answer Fn_X11_answer, s_iret, s_aload 0, s_aload 0, s_getD 11 12 6 0, s_getI 6 14, s_callV 11 1 Pre_X11_answer Fn_X11_answer, s_iret, s_aload 0, s_aload 0, s_getD 11 12 6 0, s_getI 6 15, s_callV 11 1 Pre_X11_answer Fn_X11_answer, s_iret, s_aload 0, s_aload 0, s_getD 11 12 6 0, s_getI 6 16, s_callV 11 1 Pre_X11_answer Fn_X11_answer, s_iret, s_aload 0, s_aload 0, s_getD 11 12 6 0, s_getI 6 17, s_callV 11 1 Pre_X11_answer Fn_X11_answer, s_iret, s_aload 0, s_aload 0, s_getD 11 12 6 0, s_getI 6 18, s_callV 11 1 Pre_X11_answer Fn_X11_answer, s_iret, s_aload 0, s_aload 0, s_getD 11 12 6 0, s_getR 6 11 1, s_getI 1 4, s_callV 11 1 Pre_X11_answer Fn_X11_answer, s_iret, s_aload 0, s_aload 0, s_getD 11 12 6 0, s_callV 6 0 Pre_X6_couples Fn_X6_couples, s_callV 11 1 Pre_X11_answer Fn_X11_answer, s_iret, s_aload 0, s_aload 0, s_getD 11 12 6 0, s_getR 6 11 1, s_getI 1 5, s_callV 11 1 Pre_X11_answer Fn_X11_answer, s_iret, s_aload 0, s_aload 0, s_getD 11 12 6 0, s_getR 6 11 1, s_getI 1 6, s_callV 11 1 Pre_X11_answer Fn_X11_answer, s_iret, s_aload 0, s_ic (1), s_callV 11 1 Pre_X11_refuse Fn_X11_refuse, s_iret]
def pc_X11_told : Nat → Nat := fun i => [0, 1, 56, 57, 58, 61, 64, 67, 68, 69, 70, 73, 76, 79, 80, 81, 82, 85, 88, 91, 92, 93, 94, 97, 100, 103, 104, 105, 106, 109, 112, 115, 116, 117, 118, 121, 124, 127, 128, 129, 130, 133, 136, 139, 142, 143, 144, 145, 148, 151, 154, 155, 156, 157, 160, 163, 166, 169, 170, 171, 172, 175, 178, 181, 184, 185, 186, 187, 190].getD i 0
def dl_X11_told : List (Nat × Instr × Nat) := [(0, .iload_n 1, 1), (1, .tableswitch 184 0 9 #[55, 67, 79, 91, 103, 115, 127, 142, 154, 169], 55), (56, .aload_n 0, 1), (57, .aload_n 0, 1), (58, .getfield 87, 3), (61, .getfield 197, 3), (64, .invokevirtual 178, 3), (67, .ireturn, 1), (68, .aload_n 0, 1), (69, .aload_n 0, 1), (70, .getfield 87, 3), (73, .getfield 200, 3), (76, .invokevirtual 178, 3), (79, .ireturn, 1), (80, .aload_n 0, 1), (81, .aload_n 0, 1), (82, .getfield 87, 3), (85, .getfield 175, 3), (88, .invokevirtual 178, 3), (91, .ireturn, 1), (92, .aload_n 0, 1), (93, .aload_n 0, 1), (94, .getfield 87, 3), (97, .getfield 203, 3), (100, .invokevirtual 178, 3), (103, .ireturn, 1), (104, .aload_n 0, 1), (105, .aload_n 0, 1), (106, .getfield 87, 3), (109, .getfield 206, 3), (112, .invokevirtual 178, 3), (115, .ireturn, 1), (116, .aload_n 0, 1), (117, .aload_n 0, 1), (118, .getfield 87, 3), (121, .getfield 209, 3), (124, .invokevirtual 178, 3), (127, .ireturn, 1), (128, .aload_n 0, 1), (129, .aload_n 0, 1), (130, .getfield 87, 3), (133, .getfield 212, 3), (136, .getfield 216, 3), (139, .invokevirtual 178, 3), (142, .ireturn, 1), (143, .aload_n 0, 1), (144, .aload_n 0, 1), (145, .getfield 87, 3), (148, .invokevirtual 221, 3), (151, .invokevirtual 178, 3), (154, .ireturn, 1), (155, .aload_n 0, 1), (156, .aload_n 0, 1), (157, .getfield 87, 3), (160, .getfield 212, 3), (163, .getfield 225, 3), (166, .invokevirtual 178, 3), (169, .ireturn, 1), (170, .aload_n 0, 1), (171, .aload_n 0, 1), (172, .getfield 87, 3), (175, .getfield 212, 3), (178, .getfield 228, 3), (181, .invokevirtual 178, 3), (184, .ireturn, 1), (185, .aload_n 0, 1), (186, .iconst 1, 1), (187, .invokevirtual 139, 3), (190, .ireturn, 1)]
theorem dc_X11_told : DEC prog_1_method_13_code pc_X11_told dl_X11_told := DEC_of (by decide +kernel)
abbrev rm_X11_told : Room := { frames := 2, cells := 0, slots := 0, locals := 43 }
set_option maxRecDepth 20000 in
theorem sa_X11_told (l : Launch) : SNDALL l prog_1_method_13_code "GivenUp" 2 (some .int) rm_X11_told P_X11_told pc_X11_told := fun p e s m args below meth c cells slots Q D dA ad A RR hC hR => by
  have hM := RTX_room (R := rm_X11_told) hR
  exact ⟨st_iload_n hC (n := 0) (k := 1) (dc_X11_told 0 (0, .iload_n 1, 1) rfl rfl) rfl rfl,
    st_table hC (n := 1) (ts := [2, 8, 14, 20, 26, 32, 38, 45, 51, 58]) (dc_X11_told 1 (1, .tableswitch 184 0 9 #[55, 67, 79, 91, 103, 115, 127, 142, 154, 169], 55) rfl rfl) (by decide) (by decide) (by decide) (by decide) (swt_of _ _ _ (by decide +kernel)),
    st_aload_n hC (n := 2) (k := 0) (dc_X11_told 2 (56, .aload_n 0, 1) rfl rfl) rfl rfl,
    st_aload_n hC (n := 3) (k := 0) (dc_X11_told 3 (57, .aload_n 0, 1) rfl rfl) rfl rfl,
    st_getD hC (n := 4) (k := 11) (j := 12) (dc_X11_told 4 (58, .getfield 87, 3) rfl rfl) rfl clf_11 (by decide) rfl (by decide) wd_723,
    st_getI hC (n := 5) (k := 6) (j := 13) (dc_X11_told 5 (61, .getfield 197, 3) rfl rfl) rfl clf_6 (by decide) rfl wd_622,
    st_callV hC (n := 6) (k := 11) (na := 1) (con_X11_answer l) (dc_X11_told 6 (64, .invokevirtual 178, 3) rfl rfl) rfl wd_967 wd_143 (by decide) ⟨rfl, rfl, by decide, by decide⟩ hM wd_964 wd_966 wd_17 clf_11,
    st_iret hC (n := 7) hR (dc_X11_told 7 (67, .ireturn, 1) rfl rfl),
    st_aload_n hC (n := 8) (k := 0) (dc_X11_told 8 (68, .aload_n 0, 1) rfl rfl) rfl rfl,
    st_aload_n hC (n := 9) (k := 0) (dc_X11_told 9 (69, .aload_n 0, 1) rfl rfl) rfl rfl,
    st_getD hC (n := 10) (k := 11) (j := 12) (dc_X11_told 10 (70, .getfield 87, 3) rfl rfl) rfl clf_11 (by decide) rfl (by decide) wd_723,
    st_getI hC (n := 11) (k := 6) (j := 14) (dc_X11_told 11 (73, .getfield 200, 3) rfl rfl) rfl clf_6 (by decide) rfl wd_628,
    st_callV hC (n := 12) (k := 11) (na := 1) (con_X11_answer l) (dc_X11_told 12 (76, .invokevirtual 178, 3) rfl rfl) rfl wd_967 wd_143 (by decide) ⟨rfl, rfl, by decide, by decide⟩ hM wd_964 wd_966 wd_17 clf_11,
    st_iret hC (n := 13) hR (dc_X11_told 13 (79, .ireturn, 1) rfl rfl),
    st_aload_n hC (n := 14) (k := 0) (dc_X11_told 14 (80, .aload_n 0, 1) rfl rfl) rfl rfl,
    st_aload_n hC (n := 15) (k := 0) (dc_X11_told 15 (81, .aload_n 0, 1) rfl rfl) rfl rfl,
    st_getD hC (n := 16) (k := 11) (j := 12) (dc_X11_told 16 (82, .getfield 87, 3) rfl rfl) rfl clf_11 (by decide) rfl (by decide) wd_723,
    st_getI hC (n := 17) (k := 6) (j := 15) (dc_X11_told 17 (85, .getfield 175, 3) rfl rfl) rfl clf_6 (by decide) rfl wd_633,
    st_callV hC (n := 18) (k := 11) (na := 1) (con_X11_answer l) (dc_X11_told 18 (88, .invokevirtual 178, 3) rfl rfl) rfl wd_967 wd_143 (by decide) ⟨rfl, rfl, by decide, by decide⟩ hM wd_964 wd_966 wd_17 clf_11,
    st_iret hC (n := 19) hR (dc_X11_told 19 (91, .ireturn, 1) rfl rfl),
    st_aload_n hC (n := 20) (k := 0) (dc_X11_told 20 (92, .aload_n 0, 1) rfl rfl) rfl rfl,
    st_aload_n hC (n := 21) (k := 0) (dc_X11_told 21 (93, .aload_n 0, 1) rfl rfl) rfl rfl,
    st_getD hC (n := 22) (k := 11) (j := 12) (dc_X11_told 22 (94, .getfield 87, 3) rfl rfl) rfl clf_11 (by decide) rfl (by decide) wd_723,
    st_getI hC (n := 23) (k := 6) (j := 16) (dc_X11_told 23 (97, .getfield 203, 3) rfl rfl) rfl clf_6 (by decide) rfl wd_636,
    st_callV hC (n := 24) (k := 11) (na := 1) (con_X11_answer l) (dc_X11_told 24 (100, .invokevirtual 178, 3) rfl rfl) rfl wd_967 wd_143 (by decide) ⟨rfl, rfl, by decide, by decide⟩ hM wd_964 wd_966 wd_17 clf_11,
    st_iret hC (n := 25) hR (dc_X11_told 25 (103, .ireturn, 1) rfl rfl),
    st_aload_n hC (n := 26) (k := 0) (dc_X11_told 26 (104, .aload_n 0, 1) rfl rfl) rfl rfl,
    st_aload_n hC (n := 27) (k := 0) (dc_X11_told 27 (105, .aload_n 0, 1) rfl rfl) rfl rfl,
    st_getD hC (n := 28) (k := 11) (j := 12) (dc_X11_told 28 (106, .getfield 87, 3) rfl rfl) rfl clf_11 (by decide) rfl (by decide) wd_723,
    st_getI hC (n := 29) (k := 6) (j := 17) (dc_X11_told 29 (109, .getfield 206, 3) rfl rfl) rfl clf_6 (by decide) rfl wd_640,
    st_callV hC (n := 30) (k := 11) (na := 1) (con_X11_answer l) (dc_X11_told 30 (112, .invokevirtual 178, 3) rfl rfl) rfl wd_967 wd_143 (by decide) ⟨rfl, rfl, by decide, by decide⟩ hM wd_964 wd_966 wd_17 clf_11,
    st_iret hC (n := 31) hR (dc_X11_told 31 (115, .ireturn, 1) rfl rfl),
    st_aload_n hC (n := 32) (k := 0) (dc_X11_told 32 (116, .aload_n 0, 1) rfl rfl) rfl rfl,
    st_aload_n hC (n := 33) (k := 0) (dc_X11_told 33 (117, .aload_n 0, 1) rfl rfl) rfl rfl,
    st_getD hC (n := 34) (k := 11) (j := 12) (dc_X11_told 34 (118, .getfield 87, 3) rfl rfl) rfl clf_11 (by decide) rfl (by decide) wd_723,
    st_getI hC (n := 35) (k := 6) (j := 18) (dc_X11_told 35 (121, .getfield 209, 3) rfl rfl) rfl clf_6 (by decide) rfl wd_643,
    st_callV hC (n := 36) (k := 11) (na := 1) (con_X11_answer l) (dc_X11_told 36 (124, .invokevirtual 178, 3) rfl rfl) rfl wd_967 wd_143 (by decide) ⟨rfl, rfl, by decide, by decide⟩ hM wd_964 wd_966 wd_17 clf_11,
    st_iret hC (n := 37) hR (dc_X11_told 37 (127, .ireturn, 1) rfl rfl),
    st_aload_n hC (n := 38) (k := 0) (dc_X11_told 38 (128, .aload_n 0, 1) rfl rfl) rfl rfl,
    st_aload_n hC (n := 39) (k := 0) (dc_X11_told 39 (129, .aload_n 0, 1) rfl rfl) rfl rfl,
    st_getD hC (n := 40) (k := 11) (j := 12) (dc_X11_told 40 (130, .getfield 87, 3) rfl rfl) rfl clf_11 (by decide) rfl (by decide) wd_723,
    st_getR hC (n := 41) (k := 6) (j := 11) (dc_X11_told 41 (133, .getfield 212, 3) rfl rfl) rfl clf_6 (by decide) rfl (by decide) wd_613,
    st_getI hC (n := 42) (k := 1) (j := 4) (dc_X11_told 42 (136, .getfield 216, 3) rfl rfl) rfl clf_1 (by decide) rfl wd_479,
    st_callV hC (n := 43) (k := 11) (na := 1) (con_X11_answer l) (dc_X11_told 43 (139, .invokevirtual 178, 3) rfl rfl) rfl wd_967 wd_143 (by decide) ⟨rfl, rfl, by decide, by decide⟩ hM wd_964 wd_966 wd_17 clf_11,
    st_iret hC (n := 44) hR (dc_X11_told 44 (142, .ireturn, 1) rfl rfl),
    st_aload_n hC (n := 45) (k := 0) (dc_X11_told 45 (143, .aload_n 0, 1) rfl rfl) rfl rfl,
    st_aload_n hC (n := 46) (k := 0) (dc_X11_told 46 (144, .aload_n 0, 1) rfl rfl) rfl rfl,
    st_getD hC (n := 47) (k := 11) (j := 12) (dc_X11_told 47 (145, .getfield 87, 3) rfl rfl) rfl clf_11 (by decide) rfl (by decide) wd_723,
    st_callV hC (n := 48) (k := 6) (na := 0) (con_X6_couples l) (dc_X11_told 48 (148, .invokevirtual 221, 3) rfl rfl) rfl wd_1019 wd_155 (by decide) ⟨rfl, rfl, by decide, by decide⟩ hM wd_1016 wd_1017 wd_1018 clf_6,
    st_callV hC (n := 49) (k := 11) (na := 1) (con_X11_answer l) (dc_X11_told 49 (151, .invokevirtual 178, 3) rfl rfl) rfl wd_967 wd_143 (by decide) ⟨rfl, rfl, by decide, by decide⟩ hM wd_964 wd_966 wd_17 clf_11,
    st_iret hC (n := 50) hR (dc_X11_told 50 (154, .ireturn, 1) rfl rfl),
    st_aload_n hC (n := 51) (k := 0) (dc_X11_told 51 (155, .aload_n 0, 1) rfl rfl) rfl rfl,
    st_aload_n hC (n := 52) (k := 0) (dc_X11_told 52 (156, .aload_n 0, 1) rfl rfl) rfl rfl,
    st_getD hC (n := 53) (k := 11) (j := 12) (dc_X11_told 53 (157, .getfield 87, 3) rfl rfl) rfl clf_11 (by decide) rfl (by decide) wd_723,
    st_getR hC (n := 54) (k := 6) (j := 11) (dc_X11_told 54 (160, .getfield 212, 3) rfl rfl) rfl clf_6 (by decide) rfl (by decide) wd_613,
    st_getI hC (n := 55) (k := 1) (j := 5) (dc_X11_told 55 (163, .getfield 225, 3) rfl rfl) rfl clf_1 (by decide) rfl wd_484,
    st_callV hC (n := 56) (k := 11) (na := 1) (con_X11_answer l) (dc_X11_told 56 (166, .invokevirtual 178, 3) rfl rfl) rfl wd_967 wd_143 (by decide) ⟨rfl, rfl, by decide, by decide⟩ hM wd_964 wd_966 wd_17 clf_11,
    st_iret hC (n := 57) hR (dc_X11_told 57 (169, .ireturn, 1) rfl rfl),
    st_aload_n hC (n := 58) (k := 0) (dc_X11_told 58 (170, .aload_n 0, 1) rfl rfl) rfl rfl,
    st_aload_n hC (n := 59) (k := 0) (dc_X11_told 59 (171, .aload_n 0, 1) rfl rfl) rfl rfl,
    st_getD hC (n := 60) (k := 11) (j := 12) (dc_X11_told 60 (172, .getfield 87, 3) rfl rfl) rfl clf_11 (by decide) rfl (by decide) wd_723,
    st_getR hC (n := 61) (k := 6) (j := 11) (dc_X11_told 61 (175, .getfield 212, 3) rfl rfl) rfl clf_6 (by decide) rfl (by decide) wd_613,
    st_getI hC (n := 62) (k := 1) (j := 6) (dc_X11_told 62 (178, .getfield 228, 3) rfl rfl) rfl clf_1 (by decide) rfl wd_487,
    st_callV hC (n := 63) (k := 11) (na := 1) (con_X11_answer l) (dc_X11_told 63 (181, .invokevirtual 178, 3) rfl rfl) rfl wd_967 wd_143 (by decide) ⟨rfl, rfl, by decide, by decide⟩ hM wd_964 wd_966 wd_17 clf_11,
    st_iret hC (n := 64) hR (dc_X11_told 64 (184, .ireturn, 1) rfl rfl),
    st_aload_n hC (n := 65) (k := 0) (dc_X11_told 65 (185, .aload_n 0, 1) rfl rfl) rfl rfl,
    st_iconst hC (n := 66) (x := 1) (dc_X11_told 66 (186, .iconst 1, 1) rfl rfl) rfl (by decide),
    st_callV hC (n := 67) (k := 11) (na := 1) (con_X11_refuse l) (dc_X11_told 67 (187, .invokevirtual 139, 3) rfl rfl) rfl wd_824 wd_143 (by decide) ⟨rfl, rfl, by decide, by decide⟩ hM wd_821 wd_823 wd_3 clf_11,
    st_iret hC (n := 68) hR (dc_X11_told 68 (190, .ireturn, 1) rfl rfl), trivial⟩
set_option maxRecDepth 8000 in
theorem vc_X11_told : VC P_X11_told 2 Pre_X11_told Fn_X11_told := by
  rintro mm as hom hoa ⟨⟨ns, nm, nt, hV⟩, hND, x, rfl⟩
  refine ⟨Nat.le_of_ble_eq_true rfl, fun X h => ?_⟩
  have hS : mm.1 6 (mm.2.2 0) 13 = nI ns := hV.1.1.1
  have hn4 : ns ≤ 4 := hV.1.1.2
  have hN : mm.1 6 (mm.2.2 0) 14 = nI nm := hV.1.2.1.1
  have hm4 : nm ≤ 4 := hV.1.2.1.2
  have hT : mm.1 6 (mm.2.2 0) 15 = nI nt := hV.1.2.2.1.1
  have ht12 : nt ≤ 12 := hV.1.2.2.1.2
  have c0 : x = 0 → cl_told mm x = gvC mm (mm.1 6 (mm.2.2 0) 13) := fun e => by rw [e]; rfl
  have c1 : x = 1 → cl_told mm x = gvC mm (mm.1 6 (mm.2.2 0) 14) := fun e => by rw [e]; rfl
  have c2 : x = 2 → cl_told mm x = gvC mm (mm.1 6 (mm.2.2 0) 15) := fun e => by rw [e]; rfl
  have c3 : x = 3 → cl_told mm x = gvC mm (mm.1 6 (mm.2.2 0) 16) := fun e => by rw [e]; rfl
  have c4 : x = 4 → cl_told mm x = gvC mm (mm.1 6 (mm.2.2 0) 17) := fun e => by rw [e]; rfl
  have c5 : x = 5 → cl_told mm x = gvC mm (mm.1 6 (mm.2.2 0) 18) := fun e => by rw [e]; rfl
  have c6 : x = 6 → cl_told mm x = gvC mm (mm.1 1 (mm.2.2 0) 4) := fun e => by rw [e]; rfl
  have c7 : x = 7 → cl_told mm x = gvC mm (cpF (abV mm (mm.2.2 0)) (mm.1 6 (mm.2.2 0) 13).toNatClampNeg) := fun e => by rw [e]; rfl
  have c8 : x = 8 → cl_told mm x = gvC mm (mm.1 1 (mm.2.2 0) 5) := fun e => by rw [e]; rfl
  have c9 : x = 9 → cl_told mm x = gvC mm (mm.1 1 (mm.2.2 0) 6) := fun e => by rw [e]; rfl
  show X 0 [some (vR 11 0), some (vI x)] [] mm
  refine h (fun _ => false) 3000 0 _ _ _ ?_
  refine And.intro ⟨fun b1 => ?_, fun b1 => ?_, fun b1 => ?_, fun b1 => ?_, fun b1 => ?_, fun b1 => ?_, fun b1 => ?_, fun b1 => ?_, fun b1 => ?_, fun b1 => ?_, trivial⟩ ?_
  · replace b1 : x = 0 := b1
    refine And.intro (show Pre_X11_answer mm [vR 11 0, vI (mm.1 6 (mm.2.2 0) 13)] from ⟨_, rfl⟩) ?_
    show ((some (vI (mm.1 6 (mm.2.2 0) 13)) : Option MV), stC mm 0) = _
    exact (c0 b1).symm
  · replace b1 : x = 1 := b1
    refine And.intro (show Pre_X11_answer mm [vR 11 0, vI (mm.1 6 (mm.2.2 0) 14)] from ⟨_, rfl⟩) ?_
    show ((some (vI (mm.1 6 (mm.2.2 0) 14)) : Option MV), stC mm 0) = _
    exact (c1 b1).symm
  · replace b1 : x = 2 := b1
    refine And.intro (show Pre_X11_answer mm [vR 11 0, vI (mm.1 6 (mm.2.2 0) 15)] from ⟨_, rfl⟩) ?_
    show ((some (vI (mm.1 6 (mm.2.2 0) 15)) : Option MV), stC mm 0) = _
    exact (c2 b1).symm
  · replace b1 : x = 3 := b1
    refine And.intro (show Pre_X11_answer mm [vR 11 0, vI (mm.1 6 (mm.2.2 0) 16)] from ⟨_, rfl⟩) ?_
    show ((some (vI (mm.1 6 (mm.2.2 0) 16)) : Option MV), stC mm 0) = _
    exact (c3 b1).symm
  · replace b1 : x = 4 := b1
    refine And.intro (show Pre_X11_answer mm [vR 11 0, vI (mm.1 6 (mm.2.2 0) 17)] from ⟨_, rfl⟩) ?_
    show ((some (vI (mm.1 6 (mm.2.2 0) 17)) : Option MV), stC mm 0) = _
    exact (c4 b1).symm
  · replace b1 : x = 5 := b1
    refine And.intro (show Pre_X11_answer mm [vR 11 0, vI (mm.1 6 (mm.2.2 0) 18)] from ⟨_, rfl⟩) ?_
    show ((some (vI (mm.1 6 (mm.2.2 0) 18)) : Option MV), stC mm 0) = _
    exact (c5 b1).symm
  · replace b1 : x = 6 := b1
    refine And.intro (show Pre_X11_answer mm [vR 11 0, vI (mm.1 1 (mm.2.2 0) 4)] from ⟨_, rfl⟩) ?_
    show ((some (vI (mm.1 1 (mm.2.2 0) 4)) : Option MV), stC mm 0) = _
    exact (c6 b1).symm
  · replace b1 : x = 7 := b1
    refine And.intro (show Pre_X6_couples mm [vR 6 (mm.2.2 0)] from ⟨_, ns, nm, nt, hV, rfl⟩) ?_
    refine And.intro (show Pre_X11_answer mm [vR 11 0, vI (cpF (abV mm (mm.2.2 0)) (mm.1 6 (mm.2.2 0) 13).toNatClampNeg)] from ⟨_, rfl⟩) ?_
    show ((some (vI (cpF (abV mm (mm.2.2 0)) (mm.1 6 (mm.2.2 0) 13).toNatClampNeg)) : Option MV), stC mm 0) = _
    exact (c7 b1).symm
  · replace b1 : x = 8 := b1
    refine And.intro (show Pre_X11_answer mm [vR 11 0, vI (mm.1 1 (mm.2.2 0) 5)] from ⟨_, rfl⟩) ?_
    show ((some (vI (mm.1 1 (mm.2.2 0) 5)) : Option MV), stC mm 0) = _
    exact (c8 b1).symm
  · replace b1 : x = 9 := b1
    refine And.intro (show Pre_X11_answer mm [vR 11 0, vI (mm.1 1 (mm.2.2 0) 6)] from ⟨_, rfl⟩) ?_
    show ((some (vI (mm.1 1 (mm.2.2 0) 6)) : Option MV), stC mm 0) = _
    exact (c9 b1).symm
  · intro b1
    have n1_0 : ¬ x = 0 := b1 (0, 2) (by decide)
    have n1_1 : ¬ x = 1 := b1 (1, 8) (by decide)
    have n1_2 : ¬ x = 2 := b1 (2, 14) (by decide)
    have n1_3 : ¬ x = 3 := b1 (3, 20) (by decide)
    have n1_4 : ¬ x = 4 := b1 (4, 26) (by decide)
    have n1_5 : ¬ x = 5 := b1 (5, 32) (by decide)
    have n1_6 : ¬ x = 6 := b1 (6, 38) (by decide)
    have n1_7 : ¬ x = 7 := b1 (7, 45) (by decide)
    have n1_8 : ¬ x = 8 := b1 (8, 51) (by decide)
    have n1_9 : ¬ x = 9 := b1 (9, 58) (by decide)
    refine And.intro (show Pre_X11_refuse mm [vR 11 0, vI 1] from ⟨_, rfl⟩) ?_
    show ((some (vI (-1)) : Option MV), stC mm 1) = _
    show _ = cl_told mm x
    unfold cl_told 
    rw [if_neg n1_0, if_neg n1_1, if_neg n1_2, if_neg n1_3, if_neg n1_4, if_neg n1_5, if_neg n1_6, if_neg n1_7, if_neg n1_8, if_neg n1_9]
    rfl
theorem con_X11_told (l : Launch) : CON l y_X11_told prog_1_method_13_code 2 (some .int) rm_X11_told Pre_X11_told Fn_X11_told := CON_of (by decide) rfl rfl (sa_X11_told l) vc_X11_told
def cl_suitor_w (m : MM) (x y : Int32) : Option MV × MM := if y = 0 then gvC m (m.1 30 (m.2.2 0) x.toNatClampNeg) else if y = 1 then gvC m (m.1 16 (m.2.2 0) x.toNatClampNeg) else if y = 2 then gvC m (m.1 17 (m.2.2 0) x.toNatClampNeg) else if y = 3 then gvC m (wtA (abV m (m.2.2 0)) (thA (abV m (m.2.2 0)) x &&& ((abV m (m.2.2 0)) 8 ^^^ -1))) else if y = 4 then gvC m (lsA' (abV m (m.2.2 0)) x) else if y = 5 then onC m (m.1 18 (m.2.2 0) x.toNatClampNeg) else if y = 6 then gvC m (thA (abV m (m.2.2 0)) x) else rfC m 1
def cl_suitor (m : MM) (x y : Int32) : Option MV × MM := if x < 0 ∨ m.1 6 (m.2.2 0) 13 ≤ x then rfC m 1 else cl_suitor_w m x y

def Pre_X11_suitor : PreT := fun m as => VNx m ∧ NDo m (m.2.2 0) ∧ ∃ x y : Int32, as = [vR 11 0, vI x, vI y]
def Fn_X11_suitor : FnT := fun m as => match as with
  | [_, Sum.inl x, Sum.inl y] => cl_suitor m x y
  | _ => (none, m)
abbrev y_X11_suitor : MethodName := ⟨"GivenUp", "suitor", "(II)I"⟩
def P_X11_suitor : List StpT := [s_iload 1, s_aload 0, s_getD 11 12 6 0, s_getI 6 13, s_callS 2 Pre_X11_isOut Fn_X11_isOut, s_ifeq 10, s_aload 0, s_ic (1), s_callV 11 1 Pre_X11_refuse Fn_X11_refuse, s_iret, s_iload 2, s_sw (tsw (0) [12, 20, 29, 38, 45, 52, 61]) 68, s_aload 0, s_aload 0, s_getD 11 12 6 0, s_getR 6 1 30, s_iload 1, s_iald, s_callV 11 1 Pre_X11_answer Fn_X11_answer, s_iret, s_aload 0, s_aload 0, s_getD 11 12 6 0, s_getR 6 11 1, s_getR 1 0 16, s_iload 1, s_iald, s_callV 11 1 Pre_X11_answer Fn_X11_answer, s_iret, s_aload 0, s_aload 0, s_getD 11 12 6 0, s_getR 6 11 1, s_getR 1 1 17, s_iload 1, s_iald, s_callV 11 1 Pre_X11_answer Fn_X11_answer, s_iret, s_aload 0, s_aload 0, s_getD 11 12 6 0, s_iload 1, s_callV 6 1 Pre_X6_left Fn_X6_left, s_callV 11 1 Pre_X11_answer Fn_X11_answer, s_iret, s_aload 0, s_aload 0, s_getD 11 12 6 0, s_iload 1, s_callV 6 1 Pre_X6_loss Fn_X6_loss, s_callV 11 1 Pre_X11_answer Fn_X11_answer, s_iret, s_aload 0, s_aload 0, s_getD 11 12 6 0, s_getR 6 11 1, s_getR 1 2 18, s_iload 1, s_iald, s_callV 11 1 Pre_X11_answerOrNone Fn_X11_answerOrNone, s_iret, s_aload 0, s_aload 0, s_getD 11 12 6 0, s_iload 1, s_callV 6 1 Pre_X6_goods Fn_X6_goods, s_callV 11 1 Pre_X11_answer Fn_X11_answer, s_iret, s_aload 0, s_ic (1), s_callV 11 1 Pre_X11_refuse Fn_X11_refuse, s_iret]
def pc_X11_suitor : Nat → Nat := fun i => [0, 1, 2, 5, 8, 11, 14, 15, 16, 19, 20, 21, 64, 65, 66, 69, 72, 73, 74, 77, 78, 79, 80, 83, 86, 89, 90, 91, 94, 95, 96, 97, 100, 103, 106, 107, 108, 111, 112, 113, 114, 117, 118, 121, 124, 125, 126, 127, 130, 131, 134, 137, 138, 139, 140, 143, 146, 149, 150, 151, 154, 155, 156, 157, 160, 161, 164, 167, 168, 169, 170, 173].getD i 0
def dl_X11_suitor : List (Nat × Instr × Nat) := [(0, .iload_n 1, 1), (1, .aload_n 0, 1), (2, .getfield 87, 3), (5, .getfield 197, 3), (8, .invokestatic 115, 3), (11, .ifCond .eq 9, 3), (14, .aload_n 0, 1), (15, .iconst 1, 1), (16, .invokevirtual 139, 3), (19, .ireturn, 1), (20, .iload_n 2, 1), (21, .tableswitch 147 0 6 #[43, 57, 74, 91, 104, 117, 134], 43), (64, .aload_n 0, 1), (65, .aload_n 0, 1), (66, .getfield 87, 3), (69, .getfield 231, 3), (72, .iload_n 1, 1), (73, .iaload, 1), (74, .invokevirtual 178, 3), (77, .ireturn, 1), (78, .aload_n 0, 1), (79, .aload_n 0, 1), (80, .getfield 87, 3), (83, .getfield 212, 3), (86, .getfield 234, 3), (89, .iload_n 1, 1), (90, .iaload, 1), (91, .invokevirtual 178, 3), (94, .ireturn, 1), (95, .aload_n 0, 1), (96, .aload_n 0, 1), (97, .getfield 87, 3), (100, .getfield 212, 3), (103, .getfield 237, 3), (106, .iload_n 1, 1), (107, .iaload, 1), (108, .invokevirtual 178, 3), (111, .ireturn, 1), (112, .aload_n 0, 1), (113, .aload_n 0, 1), (114, .getfield 87, 3), (117, .iload_n 1, 1), (118, .invokevirtual 240, 3), (121, .invokevirtual 178, 3), (124, .ireturn, 1), (125, .aload_n 0, 1), (126, .aload_n 0, 1), (127, .getfield 87, 3), (130, .iload_n 1, 1), (131, .invokevirtual 243, 3), (134, .invokevirtual 178, 3), (137, .ireturn, 1), (138, .aload_n 0, 1), (139, .aload_n 0, 1), (140, .getfield 87, 3), (143, .getfield 212, 3), (146, .getfield 246, 3), (149, .iload_n 1, 1), (150, .iaload, 1), (151, .invokevirtual 249, 3), (154, .ireturn, 1), (155, .aload_n 0, 1), (156, .aload_n 0, 1), (157, .getfield 87, 3), (160, .iload_n 1, 1), (161, .invokevirtual 252, 3), (164, .invokevirtual 178, 3), (167, .ireturn, 1), (168, .aload_n 0, 1), (169, .iconst 1, 1), (170, .invokevirtual 139, 3), (173, .ireturn, 1)]
theorem dc_X11_suitor : DEC prog_1_method_14_code pc_X11_suitor dl_X11_suitor := DEC_of (by decide +kernel)
abbrev rm_X11_suitor : Room := { frames := 3, cells := 0, slots := 0, locals := 65 }
set_option maxRecDepth 20000 in
theorem sa_X11_suitor (l : Launch) : SNDALL l prog_1_method_14_code "GivenUp" 3 (some .int) rm_X11_suitor P_X11_suitor pc_X11_suitor := fun p e s m args below meth c cells slots Q D dA ad A RR hC hR => by
  have hM := RTX_room (R := rm_X11_suitor) hR
  exact ⟨st_iload_n hC (n := 0) (k := 1) (dc_X11_suitor 0 (0, .iload_n 1, 1) rfl rfl) rfl rfl,
    st_aload_n hC (n := 1) (k := 0) (dc_X11_suitor 1 (1, .aload_n 0, 1) rfl rfl) rfl rfl,
    st_getD hC (n := 2) (k := 11) (j := 12) (dc_X11_suitor 2 (2, .getfield 87, 3) rfl rfl) rfl clf_11 (by decide) rfl (by decide) wd_723,
    st_getI hC (n := 3) (k := 6) (j := 13) (dc_X11_suitor 3 (5, .getfield 197, 3) rfl rfl) rfl clf_6 (by decide) rfl wd_622,
    st_callS hC (n := 4) (na := 2) (con_X11_isOut l) (dc_X11_suitor 4 (8, .invokestatic 115, 3) rfl rfl) rfl wd_790 wd_143 (by decide) ⟨rfl, rfl, by decide, by decide⟩ hM wd_788 wd_789,
    st_ifeq hC (n := 5) (dc_X11_suitor 5 (11, .ifCond .eq 9, 3) rfl rfl) rfl (by decide),
    st_aload_n hC (n := 6) (k := 0) (dc_X11_suitor 6 (14, .aload_n 0, 1) rfl rfl) rfl rfl,
    st_iconst hC (n := 7) (x := 1) (dc_X11_suitor 7 (15, .iconst 1, 1) rfl rfl) rfl (by decide),
    st_callV hC (n := 8) (k := 11) (na := 1) (con_X11_refuse l) (dc_X11_suitor 8 (16, .invokevirtual 139, 3) rfl rfl) rfl wd_824 wd_143 (by decide) ⟨rfl, rfl, by decide, by decide⟩ hM wd_821 wd_823 wd_3 clf_11,
    st_iret hC (n := 9) hR (dc_X11_suitor 9 (19, .ireturn, 1) rfl rfl),
    st_iload_n hC (n := 10) (k := 2) (dc_X11_suitor 10 (20, .iload_n 2, 1) rfl rfl) rfl rfl,
    st_table hC (n := 11) (ts := [12, 20, 29, 38, 45, 52, 61]) (dc_X11_suitor 11 (21, .tableswitch 147 0 6 #[43, 57, 74, 91, 104, 117, 134], 43) rfl rfl) (by decide) (by decide) (by decide) (by decide) (swt_of _ _ _ (by decide +kernel)),
    st_aload_n hC (n := 12) (k := 0) (dc_X11_suitor 12 (64, .aload_n 0, 1) rfl rfl) rfl rfl,
    st_aload_n hC (n := 13) (k := 0) (dc_X11_suitor 13 (65, .aload_n 0, 1) rfl rfl) rfl rfl,
    st_getD hC (n := 14) (k := 11) (j := 12) (dc_X11_suitor 14 (66, .getfield 87, 3) rfl rfl) rfl clf_11 (by decide) rfl (by decide) wd_723,
    st_getR hC (n := 15) (k := 6) (j := 1) (dc_X11_suitor 15 (69, .getfield 231, 3) rfl rfl) rfl clf_6 (by decide) rfl (by decide) wd_580,
    st_iload_n hC (n := 16) (k := 1) (dc_X11_suitor 16 (72, .iload_n 1, 1) rfl rfl) rfl rfl,
    st_iald hC (n := 17) (dc_X11_suitor 17 (73, .iaload, 1) rfl rfl) rfl,
    st_callV hC (n := 18) (k := 11) (na := 1) (con_X11_answer l) (dc_X11_suitor 18 (74, .invokevirtual 178, 3) rfl rfl) rfl wd_967 wd_143 (by decide) ⟨rfl, rfl, by decide, by decide⟩ hM wd_964 wd_966 wd_17 clf_11,
    st_iret hC (n := 19) hR (dc_X11_suitor 19 (77, .ireturn, 1) rfl rfl),
    st_aload_n hC (n := 20) (k := 0) (dc_X11_suitor 20 (78, .aload_n 0, 1) rfl rfl) rfl rfl,
    st_aload_n hC (n := 21) (k := 0) (dc_X11_suitor 21 (79, .aload_n 0, 1) rfl rfl) rfl rfl,
    st_getD hC (n := 22) (k := 11) (j := 12) (dc_X11_suitor 22 (80, .getfield 87, 3) rfl rfl) rfl clf_11 (by decide) rfl (by decide) wd_723,
    st_getR hC (n := 23) (k := 6) (j := 11) (dc_X11_suitor 23 (83, .getfield 212, 3) rfl rfl) rfl clf_6 (by decide) rfl (by decide) wd_613,
    st_getR hC (n := 24) (k := 1) (j := 0) (dc_X11_suitor 24 (86, .getfield 234, 3) rfl rfl) rfl clf_1 (by decide) rfl (by decide) wd_465,
    st_iload_n hC (n := 25) (k := 1) (dc_X11_suitor 25 (89, .iload_n 1, 1) rfl rfl) rfl rfl,
    st_iald hC (n := 26) (dc_X11_suitor 26 (90, .iaload, 1) rfl rfl) rfl,
    st_callV hC (n := 27) (k := 11) (na := 1) (con_X11_answer l) (dc_X11_suitor 27 (91, .invokevirtual 178, 3) rfl rfl) rfl wd_967 wd_143 (by decide) ⟨rfl, rfl, by decide, by decide⟩ hM wd_964 wd_966 wd_17 clf_11,
    st_iret hC (n := 28) hR (dc_X11_suitor 28 (94, .ireturn, 1) rfl rfl),
    st_aload_n hC (n := 29) (k := 0) (dc_X11_suitor 29 (95, .aload_n 0, 1) rfl rfl) rfl rfl,
    st_aload_n hC (n := 30) (k := 0) (dc_X11_suitor 30 (96, .aload_n 0, 1) rfl rfl) rfl rfl,
    st_getD hC (n := 31) (k := 11) (j := 12) (dc_X11_suitor 31 (97, .getfield 87, 3) rfl rfl) rfl clf_11 (by decide) rfl (by decide) wd_723,
    st_getR hC (n := 32) (k := 6) (j := 11) (dc_X11_suitor 32 (100, .getfield 212, 3) rfl rfl) rfl clf_6 (by decide) rfl (by decide) wd_613,
    st_getR hC (n := 33) (k := 1) (j := 1) (dc_X11_suitor 33 (103, .getfield 237, 3) rfl rfl) rfl clf_1 (by decide) rfl (by decide) wd_469,
    st_iload_n hC (n := 34) (k := 1) (dc_X11_suitor 34 (106, .iload_n 1, 1) rfl rfl) rfl rfl,
    st_iald hC (n := 35) (dc_X11_suitor 35 (107, .iaload, 1) rfl rfl) rfl,
    st_callV hC (n := 36) (k := 11) (na := 1) (con_X11_answer l) (dc_X11_suitor 36 (108, .invokevirtual 178, 3) rfl rfl) rfl wd_967 wd_143 (by decide) ⟨rfl, rfl, by decide, by decide⟩ hM wd_964 wd_966 wd_17 clf_11,
    st_iret hC (n := 37) hR (dc_X11_suitor 37 (111, .ireturn, 1) rfl rfl),
    st_aload_n hC (n := 38) (k := 0) (dc_X11_suitor 38 (112, .aload_n 0, 1) rfl rfl) rfl rfl,
    st_aload_n hC (n := 39) (k := 0) (dc_X11_suitor 39 (113, .aload_n 0, 1) rfl rfl) rfl rfl,
    st_getD hC (n := 40) (k := 11) (j := 12) (dc_X11_suitor 40 (114, .getfield 87, 3) rfl rfl) rfl clf_11 (by decide) rfl (by decide) wd_723,
    st_iload_n hC (n := 41) (k := 1) (dc_X11_suitor 41 (117, .iload_n 1, 1) rfl rfl) rfl rfl,
    st_callV hC (n := 42) (k := 6) (na := 1) (con_X6_left l) (dc_X11_suitor 42 (118, .invokevirtual 240, 3) rfl rfl) rfl wd_1031 wd_155 (by decide) ⟨rfl, rfl, by decide, by decide⟩ hM wd_1028 wd_1029 wd_1030 clf_6,
    st_callV hC (n := 43) (k := 11) (na := 1) (con_X11_answer l) (dc_X11_suitor 43 (121, .invokevirtual 178, 3) rfl rfl) rfl wd_967 wd_143 (by decide) ⟨rfl, rfl, by decide, by decide⟩ hM wd_964 wd_966 wd_17 clf_11,
    st_iret hC (n := 44) hR (dc_X11_suitor 44 (124, .ireturn, 1) rfl rfl),
    st_aload_n hC (n := 45) (k := 0) (dc_X11_suitor 45 (125, .aload_n 0, 1) rfl rfl) rfl rfl,
    st_aload_n hC (n := 46) (k := 0) (dc_X11_suitor 46 (126, .aload_n 0, 1) rfl rfl) rfl rfl,
    st_getD hC (n := 47) (k := 11) (j := 12) (dc_X11_suitor 47 (127, .getfield 87, 3) rfl rfl) rfl clf_11 (by decide) rfl (by decide) wd_723,
    st_iload_n hC (n := 48) (k := 1) (dc_X11_suitor 48 (130, .iload_n 1, 1) rfl rfl) rfl rfl,
    st_callV hC (n := 49) (k := 6) (na := 1) (con_X6_loss l) (dc_X11_suitor 49 (131, .invokevirtual 243, 3) rfl rfl) rfl wd_1043 wd_155 (by decide) ⟨rfl, rfl, by decide, by decide⟩ hM wd_1040 wd_1041 wd_1042 clf_6,
    st_callV hC (n := 50) (k := 11) (na := 1) (con_X11_answer l) (dc_X11_suitor 50 (134, .invokevirtual 178, 3) rfl rfl) rfl wd_967 wd_143 (by decide) ⟨rfl, rfl, by decide, by decide⟩ hM wd_964 wd_966 wd_17 clf_11,
    st_iret hC (n := 51) hR (dc_X11_suitor 51 (137, .ireturn, 1) rfl rfl),
    st_aload_n hC (n := 52) (k := 0) (dc_X11_suitor 52 (138, .aload_n 0, 1) rfl rfl) rfl rfl,
    st_aload_n hC (n := 53) (k := 0) (dc_X11_suitor 53 (139, .aload_n 0, 1) rfl rfl) rfl rfl,
    st_getD hC (n := 54) (k := 11) (j := 12) (dc_X11_suitor 54 (140, .getfield 87, 3) rfl rfl) rfl clf_11 (by decide) rfl (by decide) wd_723,
    st_getR hC (n := 55) (k := 6) (j := 11) (dc_X11_suitor 55 (143, .getfield 212, 3) rfl rfl) rfl clf_6 (by decide) rfl (by decide) wd_613,
    st_getR hC (n := 56) (k := 1) (j := 2) (dc_X11_suitor 56 (146, .getfield 246, 3) rfl rfl) rfl clf_1 (by decide) rfl (by decide) wd_472,
    st_iload_n hC (n := 57) (k := 1) (dc_X11_suitor 57 (149, .iload_n 1, 1) rfl rfl) rfl rfl,
    st_iald hC (n := 58) (dc_X11_suitor 58 (150, .iaload, 1) rfl rfl) rfl,
    st_callV hC (n := 59) (k := 11) (na := 1) (con_X11_answerOrNone l) (dc_X11_suitor 59 (151, .invokevirtual 249, 3) rfl rfl) rfl wd_1047 wd_143 (by decide) ⟨rfl, rfl, by decide, by decide⟩ hM wd_1044 wd_1046 wd_23 clf_11,
    st_iret hC (n := 60) hR (dc_X11_suitor 60 (154, .ireturn, 1) rfl rfl),
    st_aload_n hC (n := 61) (k := 0) (dc_X11_suitor 61 (155, .aload_n 0, 1) rfl rfl) rfl rfl,
    st_aload_n hC (n := 62) (k := 0) (dc_X11_suitor 62 (156, .aload_n 0, 1) rfl rfl) rfl rfl,
    st_getD hC (n := 63) (k := 11) (j := 12) (dc_X11_suitor 63 (157, .getfield 87, 3) rfl rfl) rfl clf_11 (by decide) rfl (by decide) wd_723,
    st_iload_n hC (n := 64) (k := 1) (dc_X11_suitor 64 (160, .iload_n 1, 1) rfl rfl) rfl rfl,
    st_callV hC (n := 65) (k := 6) (na := 1) (con_X6_goods l) (dc_X11_suitor 65 (161, .invokevirtual 252, 3) rfl rfl) rfl wd_1035 wd_155 (by decide) ⟨rfl, rfl, by decide, by decide⟩ hM wd_1048 wd_1033 wd_1034 clf_6,
    st_callV hC (n := 66) (k := 11) (na := 1) (con_X11_answer l) (dc_X11_suitor 66 (164, .invokevirtual 178, 3) rfl rfl) rfl wd_967 wd_143 (by decide) ⟨rfl, rfl, by decide, by decide⟩ hM wd_964 wd_966 wd_17 clf_11,
    st_iret hC (n := 67) hR (dc_X11_suitor 67 (167, .ireturn, 1) rfl rfl),
    st_aload_n hC (n := 68) (k := 0) (dc_X11_suitor 68 (168, .aload_n 0, 1) rfl rfl) rfl rfl,
    st_iconst hC (n := 69) (x := 1) (dc_X11_suitor 69 (169, .iconst 1, 1) rfl rfl) rfl (by decide),
    st_callV hC (n := 70) (k := 11) (na := 1) (con_X11_refuse l) (dc_X11_suitor 70 (170, .invokevirtual 139, 3) rfl rfl) rfl wd_824 wd_143 (by decide) ⟨rfl, rfl, by decide, by decide⟩ hM wd_821 wd_823 wd_3 clf_11,
    st_iret hC (n := 71) hR (dc_X11_suitor 71 (173, .ireturn, 1) rfl rfl), trivial⟩
set_option maxRecDepth 8000 in
theorem vc_X11_suitor : VC P_X11_suitor 3 Pre_X11_suitor Fn_X11_suitor := by
  rintro mm as hom hoa ⟨⟨ns, nm, nt, hV⟩, hND, x, y, rfl⟩
  refine ⟨Nat.le_of_ble_eq_true rfl, fun X h => ?_⟩
  have hS : mm.1 6 (mm.2.2 0) 13 = nI ns := hV.1.1.1
  have hn4 : ns ≤ 4 := hV.1.1.2
  have hN : mm.1 6 (mm.2.2 0) 14 = nI nm := hV.1.2.1.1
  have hm4 : nm ≤ 4 := hV.1.2.1.2
  have hT : mm.1 6 (mm.2.2 0) 15 = nI nt := hV.1.2.2.1.1
  have ht12 : nt ≤ 12 := hV.1.2.2.1.2
  have c0 : y = 0 → cl_suitor_w mm x y = gvC mm (mm.1 30 (mm.2.2 0) x.toNatClampNeg) := fun e => by rw [e]; rfl
  have c1 : y = 1 → cl_suitor_w mm x y = gvC mm (mm.1 16 (mm.2.2 0) x.toNatClampNeg) := fun e => by rw [e]; rfl
  have c2 : y = 2 → cl_suitor_w mm x y = gvC mm (mm.1 17 (mm.2.2 0) x.toNatClampNeg) := fun e => by rw [e]; rfl
  have c3 : y = 3 → cl_suitor_w mm x y = gvC mm (wtA (abV mm (mm.2.2 0)) (thA (abV mm (mm.2.2 0)) x &&& ((abV mm (mm.2.2 0)) 8 ^^^ -1))) := fun e => by rw [e]; rfl
  have c4 : y = 4 → cl_suitor_w mm x y = gvC mm (lsA' (abV mm (mm.2.2 0)) x) := fun e => by rw [e]; rfl
  have c5 : y = 5 → cl_suitor_w mm x y = onC mm (mm.1 18 (mm.2.2 0) x.toNatClampNeg) := fun e => by rw [e]; rfl
  have c6 : y = 6 → cl_suitor_w mm x y = gvC mm (thA (abV mm (mm.2.2 0)) x) := fun e => by rw [e]; rfl
  show X 0 [some (vR 11 0), some (vI x), some (vI y)] [] mm
  refine h (fun _ => false) 3000 0 _ _ _ ?_
  refine And.intro (show Pre_X11_isOut mm [vI x, vI (mm.1 6 (mm.2.2 0) 13)] from ⟨_, _, rfl⟩) ?_
  refine br_c (fun b5 => ?_) (fun b5 => ?_)
  · -- 5: bI (x < 0 ∨ (mm.1 6 (mm.2.2 0) 13) ≤ x) = 0 taken
    replace b5 : ¬ (x < 0 ∨ (mm.1 6 (mm.2.2 0) 13) ≤ x) := bI_0.mp b5
    obtain ⟨i, hi, ex⟩ := ou_in hS (by omega) b5
    refine And.intro ⟨fun b11 => ?_, fun b11 => ?_, fun b11 => ?_, fun b11 => ?_, fun b11 => ?_, fun b11 => ?_, fun b11 => ?_, trivial⟩ ?_
    · replace b11 : y = 0 := b11
      refine And.intro (show inb x (alen 30) = true from (inb_o 4 rfl rfl ex (by omega))) ?_
      refine And.intro (show Pre_X11_answer mm [vR 11 0, vI (mm.1 30 (mm.2.2 0) x.toNatClampNeg)] from ⟨_, rfl⟩) ?_
      show ((some (vI (mm.1 30 (mm.2.2 0) x.toNatClampNeg)) : Option MV), stC mm 0) = _
      exact ((if_neg b5).trans (c0 b11)).symm
    · replace b11 : y = 1 := b11
      refine And.intro (show inb x (alen 16) = true from (inb_o 4 rfl rfl ex (by omega))) ?_
      refine And.intro (show Pre_X11_answer mm [vR 11 0, vI (mm.1 16 (mm.2.2 0) x.toNatClampNeg)] from ⟨_, rfl⟩) ?_
      show ((some (vI (mm.1 16 (mm.2.2 0) x.toNatClampNeg)) : Option MV), stC mm 0) = _
      exact ((if_neg b5).trans (c1 b11)).symm
    · replace b11 : y = 2 := b11
      refine And.intro (show inb x (alen 17) = true from (inb_o 4 rfl rfl ex (by omega))) ?_
      refine And.intro (show Pre_X11_answer mm [vR 11 0, vI (mm.1 17 (mm.2.2 0) x.toNatClampNeg)] from ⟨_, rfl⟩) ?_
      show ((some (vI (mm.1 17 (mm.2.2 0) x.toNatClampNeg)) : Option MV), stC mm 0) = _
      exact ((if_neg b5).trans (c2 b11)).symm
    · replace b11 : y = 3 := b11
      refine And.intro (show Pre_X6_left mm [vR 6 (mm.2.2 0), vI x] from ⟨_, ns, nm, nt, hV, _, rfl⟩) ?_
      refine And.intro (show Pre_X11_answer mm [vR 11 0, vI (wtA (abV mm (mm.2.2 0)) (thA (abV mm (mm.2.2 0)) x &&& (abV mm (mm.2.2 0) 8 ^^^ -1)))] from ⟨_, rfl⟩) ?_
      show ((some (vI (wtA (abV mm (mm.2.2 0)) (thA (abV mm (mm.2.2 0)) x &&& (abV mm (mm.2.2 0) 8 ^^^ -1)))) : Option MV), stC mm 0) = _
      exact ((if_neg b5).trans (c3 b11)).symm
    · replace b11 : y = 4 := b11
      refine And.intro (show Pre_X6_loss mm [vR 6 (mm.2.2 0), vI x] from ⟨_, ns, nm, nt, hV, _, rfl⟩) ?_
      refine And.intro (show Pre_X11_answer mm [vR 11 0, vI (lsA' (abV mm (mm.2.2 0)) x)] from ⟨_, rfl⟩) ?_
      show ((some (vI (lsA' (abV mm (mm.2.2 0)) x)) : Option MV), stC mm 0) = _
      exact ((if_neg b5).trans (c4 b11)).symm
    · replace b11 : y = 5 := b11
      refine And.intro (show inb x (alen 18) = true from (inb_o 4 rfl rfl ex (by omega))) ?_
      refine And.intro (show Pre_X11_answerOrNone mm [vR 11 0, vI (mm.1 18 (mm.2.2 0) x.toNatClampNeg)] from ⟨_, rfl⟩) ?_
      show ((some (vI (if (mm.1 18 (mm.2.2 0) x.toNatClampNeg) < 0 then -1 else (mm.1 18 (mm.2.2 0) x.toNatClampNeg))) : Option MV), stC mm (if (mm.1 18 (mm.2.2 0) x.toNatClampNeg) < 0 then 6 else 0)) = _
      exact ((if_neg b5).trans (c5 b11)).symm
    · replace b11 : y = 6 := b11
      refine And.intro (show Pre_X6_goods mm [vR 6 (mm.2.2 0), vI x] from ⟨_, ns, nm, nt, hV, _, rfl⟩) ?_
      refine And.intro (show Pre_X11_answer mm [vR 11 0, vI (thA (abV mm (mm.2.2 0)) x)] from ⟨_, rfl⟩) ?_
      show ((some (vI (thA (abV mm (mm.2.2 0)) x)) : Option MV), stC mm 0) = _
      exact ((if_neg b5).trans (c6 b11)).symm
    · intro b11
      have n11_0 : ¬ y = 0 := b11 (0, 12) (by decide)
      have n11_1 : ¬ y = 1 := b11 (1, 20) (by decide)
      have n11_2 : ¬ y = 2 := b11 (2, 29) (by decide)
      have n11_3 : ¬ y = 3 := b11 (3, 38) (by decide)
      have n11_4 : ¬ y = 4 := b11 (4, 45) (by decide)
      have n11_5 : ¬ y = 5 := b11 (5, 52) (by decide)
      have n11_6 : ¬ y = 6 := b11 (6, 61) (by decide)
      refine And.intro (show Pre_X11_refuse mm [vR 11 0, vI 1] from ⟨_, rfl⟩) ?_
      show ((some (vI (-1)) : Option MV), stC mm 1) = _
      show _ = cl_suitor mm x y
      unfold cl_suitor cl_suitor_w
      rw [if_neg b5, if_neg n11_0, if_neg n11_1, if_neg n11_2, if_neg n11_3, if_neg n11_4, if_neg n11_5, if_neg n11_6]
      rfl
  · -- 5: bI (x < 0 ∨ (mm.1 6 (mm.2.2 0) 13) ≤ x) = 0 on
    replace b5 : x < 0 ∨ (mm.1 6 (mm.2.2 0) 13) ≤ x := bI_n0.mp b5
    refine And.intro (show Pre_X11_refuse mm [vR 11 0, vI 1] from ⟨_, rfl⟩) ?_
    show ((some (vI (-1)) : Option MV), stC mm 1) = _
    exact (if_pos b5).symm
theorem con_X11_suitor (l : Launch) : CON l y_X11_suitor prog_1_method_14_code 3 (some .int) rm_X11_suitor Pre_X11_suitor Fn_X11_suitor := CON_of (by decide) rfl rfl (sa_X11_suitor l) vc_X11_suitor
def cl_maid_w (m : MM) (x y : Int32) : Option MV × MM := if y = 0 then gvC m (m.1 32 (m.2.2 0) x.toNatClampNeg) else if y = 1 then gvC m (m.1 33 (m.2.2 0) x.toNatClampNeg) else if y = 2 then gvC m (m.1 34 (m.2.2 0) x.toNatClampNeg) else if y = 3 then gvC m (brA (abV m (m.2.2 0)) x.toNatClampNeg ((abV m (m.2.2 0)) 6)) else if y = 4 then onC m (m.1 19 (m.2.2 0) x.toNatClampNeg) else rfC m 1
def cl_maid (m : MM) (x y : Int32) : Option MV × MM := if x < 0 ∨ m.1 6 (m.2.2 0) 14 ≤ x then rfC m 1 else cl_maid_w m x y

def Pre_X11_maid : PreT := fun m as => VNx m ∧ NDo m (m.2.2 0) ∧ ∃ x y : Int32, as = [vR 11 0, vI x, vI y]
def Fn_X11_maid : FnT := fun m as => match as with
  | [_, Sum.inl x, Sum.inl y] => cl_maid m x y
  | _ => (none, m)
abbrev y_X11_maid : MethodName := ⟨"GivenUp", "maid", "(II)I"⟩
def P_X11_maid : List StpT := [s_iload 1, s_aload 0, s_getD 11 12 6 0, s_getI 6 14, s_callS 2 Pre_X11_isOut Fn_X11_isOut, s_ifeq 10, s_aload 0, s_ic (1), s_callV 11 1 Pre_X11_refuse Fn_X11_refuse, s_iret, s_iload 2, s_sw (tsw (0) [12, 20, 28, 36, 43]) 52, s_aload 0, s_aload 0, s_getD 11 12 6 0, s_getR 6 3 32, s_iload 1, s_iald, s_callV 11 1 Pre_X11_answer Fn_X11_answer, s_iret, s_aload 0, s_aload 0, s_getD 11 12 6 0, s_getR 6 4 33, s_iload 1, s_iald, s_callV 11 1 Pre_X11_answer Fn_X11_answer, s_iret, s_aload 0, s_aload 0, s_getD 11 12 6 0, s_getR 6 5 34, s_iload 1, s_iald, s_callV 11 1 Pre_X11_answer Fn_X11_answer, s_iret, s_aload 0, s_aload 0, s_getD 11 12 6 0, s_iload 1, s_callV 6 1 Pre_X6_barNow Fn_X6_barNow, s_callV 11 1 Pre_X11_answer Fn_X11_answer, s_iret, s_aload 0, s_aload 0, s_getD 11 12 6 0, s_getR 6 11 1, s_getR 1 3 19, s_iload 1, s_iald, s_callV 11 1 Pre_X11_answerOrNone Fn_X11_answerOrNone, s_iret, s_aload 0, s_ic (1), s_callV 11 1 Pre_X11_refuse Fn_X11_refuse, s_iret]
def pc_X11_maid : Nat → Nat := fun i => [0, 1, 2, 5, 8, 11, 14, 15, 16, 19, 20, 21, 56, 57, 58, 61, 64, 65, 66, 69, 70, 71, 72, 75, 78, 79, 80, 83, 84, 85, 86, 89, 92, 93, 94, 97, 98, 99, 100, 103, 104, 107, 110, 111, 112, 113, 116, 119, 122, 123, 124, 127, 128, 129, 130, 133].getD i 0
def dl_X11_maid : List (Nat × Instr × Nat) := [(0, .iload_n 1, 1), (1, .aload_n 0, 1), (2, .getfield 87, 3), (5, .getfield 200, 3), (8, .invokestatic 115, 3), (11, .ifCond .eq 9, 3), (14, .aload_n 0, 1), (15, .iconst 1, 1), (16, .invokevirtual 139, 3), (19, .ireturn, 1), (20, .iload_n 2, 1), (21, .tableswitch 107 0 4 #[35, 49, 63, 77, 90], 35), (56, .aload_n 0, 1), (57, .aload_n 0, 1), (58, .getfield 87, 3), (61, .getfield 255, 3), (64, .iload_n 1, 1), (65, .iaload, 1), (66, .invokevirtual 178, 3), (69, .ireturn, 1), (70, .aload_n 0, 1), (71, .aload_n 0, 1), (72, .getfield 87, 3), (75, .getfield 258, 3), (78, .iload_n 1, 1), (79, .iaload, 1), (80, .invokevirtual 178, 3), (83, .ireturn, 1), (84, .aload_n 0, 1), (85, .aload_n 0, 1), (86, .getfield 87, 3), (89, .getfield 261, 3), (92, .iload_n 1, 1), (93, .iaload, 1), (94, .invokevirtual 178, 3), (97, .ireturn, 1), (98, .aload_n 0, 1), (99, .aload_n 0, 1), (100, .getfield 87, 3), (103, .iload_n 1, 1), (104, .invokevirtual 264, 3), (107, .invokevirtual 178, 3), (110, .ireturn, 1), (111, .aload_n 0, 1), (112, .aload_n 0, 1), (113, .getfield 87, 3), (116, .getfield 212, 3), (119, .getfield 267, 3), (122, .iload_n 1, 1), (123, .iaload, 1), (124, .invokevirtual 249, 3), (127, .ireturn, 1), (128, .aload_n 0, 1), (129, .iconst 1, 1), (130, .invokevirtual 139, 3), (133, .ireturn, 1)]
theorem dc_X11_maid : DEC prog_1_method_15_code pc_X11_maid dl_X11_maid := DEC_of (by decide +kernel)
abbrev rm_X11_maid : Room := { frames := 2, cells := 0, slots := 0, locals := 42 }
set_option maxRecDepth 20000 in
theorem sa_X11_maid (l : Launch) : SNDALL l prog_1_method_15_code "GivenUp" 3 (some .int) rm_X11_maid P_X11_maid pc_X11_maid := fun p e s m args below meth c cells slots Q D dA ad A RR hC hR => by
  have hM := RTX_room (R := rm_X11_maid) hR
  exact ⟨st_iload_n hC (n := 0) (k := 1) (dc_X11_maid 0 (0, .iload_n 1, 1) rfl rfl) rfl rfl,
    st_aload_n hC (n := 1) (k := 0) (dc_X11_maid 1 (1, .aload_n 0, 1) rfl rfl) rfl rfl,
    st_getD hC (n := 2) (k := 11) (j := 12) (dc_X11_maid 2 (2, .getfield 87, 3) rfl rfl) rfl clf_11 (by decide) rfl (by decide) wd_723,
    st_getI hC (n := 3) (k := 6) (j := 14) (dc_X11_maid 3 (5, .getfield 200, 3) rfl rfl) rfl clf_6 (by decide) rfl wd_628,
    st_callS hC (n := 4) (na := 2) (con_X11_isOut l) (dc_X11_maid 4 (8, .invokestatic 115, 3) rfl rfl) rfl wd_790 wd_143 (by decide) ⟨rfl, rfl, by decide, by decide⟩ hM wd_788 wd_789,
    st_ifeq hC (n := 5) (dc_X11_maid 5 (11, .ifCond .eq 9, 3) rfl rfl) rfl (by decide),
    st_aload_n hC (n := 6) (k := 0) (dc_X11_maid 6 (14, .aload_n 0, 1) rfl rfl) rfl rfl,
    st_iconst hC (n := 7) (x := 1) (dc_X11_maid 7 (15, .iconst 1, 1) rfl rfl) rfl (by decide),
    st_callV hC (n := 8) (k := 11) (na := 1) (con_X11_refuse l) (dc_X11_maid 8 (16, .invokevirtual 139, 3) rfl rfl) rfl wd_824 wd_143 (by decide) ⟨rfl, rfl, by decide, by decide⟩ hM wd_821 wd_823 wd_3 clf_11,
    st_iret hC (n := 9) hR (dc_X11_maid 9 (19, .ireturn, 1) rfl rfl),
    st_iload_n hC (n := 10) (k := 2) (dc_X11_maid 10 (20, .iload_n 2, 1) rfl rfl) rfl rfl,
    st_table hC (n := 11) (ts := [12, 20, 28, 36, 43]) (dc_X11_maid 11 (21, .tableswitch 107 0 4 #[35, 49, 63, 77, 90], 35) rfl rfl) (by decide) (by decide) (by decide) (by decide) (swt_of _ _ _ (by decide +kernel)),
    st_aload_n hC (n := 12) (k := 0) (dc_X11_maid 12 (56, .aload_n 0, 1) rfl rfl) rfl rfl,
    st_aload_n hC (n := 13) (k := 0) (dc_X11_maid 13 (57, .aload_n 0, 1) rfl rfl) rfl rfl,
    st_getD hC (n := 14) (k := 11) (j := 12) (dc_X11_maid 14 (58, .getfield 87, 3) rfl rfl) rfl clf_11 (by decide) rfl (by decide) wd_723,
    st_getR hC (n := 15) (k := 6) (j := 3) (dc_X11_maid 15 (61, .getfield 255, 3) rfl rfl) rfl clf_6 (by decide) rfl (by decide) wd_587,
    st_iload_n hC (n := 16) (k := 1) (dc_X11_maid 16 (64, .iload_n 1, 1) rfl rfl) rfl rfl,
    st_iald hC (n := 17) (dc_X11_maid 17 (65, .iaload, 1) rfl rfl) rfl,
    st_callV hC (n := 18) (k := 11) (na := 1) (con_X11_answer l) (dc_X11_maid 18 (66, .invokevirtual 178, 3) rfl rfl) rfl wd_967 wd_143 (by decide) ⟨rfl, rfl, by decide, by decide⟩ hM wd_964 wd_966 wd_17 clf_11,
    st_iret hC (n := 19) hR (dc_X11_maid 19 (69, .ireturn, 1) rfl rfl),
    st_aload_n hC (n := 20) (k := 0) (dc_X11_maid 20 (70, .aload_n 0, 1) rfl rfl) rfl rfl,
    st_aload_n hC (n := 21) (k := 0) (dc_X11_maid 21 (71, .aload_n 0, 1) rfl rfl) rfl rfl,
    st_getD hC (n := 22) (k := 11) (j := 12) (dc_X11_maid 22 (72, .getfield 87, 3) rfl rfl) rfl clf_11 (by decide) rfl (by decide) wd_723,
    st_getR hC (n := 23) (k := 6) (j := 4) (dc_X11_maid 23 (75, .getfield 258, 3) rfl rfl) rfl clf_6 (by decide) rfl (by decide) wd_591,
    st_iload_n hC (n := 24) (k := 1) (dc_X11_maid 24 (78, .iload_n 1, 1) rfl rfl) rfl rfl,
    st_iald hC (n := 25) (dc_X11_maid 25 (79, .iaload, 1) rfl rfl) rfl,
    st_callV hC (n := 26) (k := 11) (na := 1) (con_X11_answer l) (dc_X11_maid 26 (80, .invokevirtual 178, 3) rfl rfl) rfl wd_967 wd_143 (by decide) ⟨rfl, rfl, by decide, by decide⟩ hM wd_964 wd_966 wd_17 clf_11,
    st_iret hC (n := 27) hR (dc_X11_maid 27 (83, .ireturn, 1) rfl rfl),
    st_aload_n hC (n := 28) (k := 0) (dc_X11_maid 28 (84, .aload_n 0, 1) rfl rfl) rfl rfl,
    st_aload_n hC (n := 29) (k := 0) (dc_X11_maid 29 (85, .aload_n 0, 1) rfl rfl) rfl rfl,
    st_getD hC (n := 30) (k := 11) (j := 12) (dc_X11_maid 30 (86, .getfield 87, 3) rfl rfl) rfl clf_11 (by decide) rfl (by decide) wd_723,
    st_getR hC (n := 31) (k := 6) (j := 5) (dc_X11_maid 31 (89, .getfield 261, 3) rfl rfl) rfl clf_6 (by decide) rfl (by decide) wd_594,
    st_iload_n hC (n := 32) (k := 1) (dc_X11_maid 32 (92, .iload_n 1, 1) rfl rfl) rfl rfl,
    st_iald hC (n := 33) (dc_X11_maid 33 (93, .iaload, 1) rfl rfl) rfl,
    st_callV hC (n := 34) (k := 11) (na := 1) (con_X11_answer l) (dc_X11_maid 34 (94, .invokevirtual 178, 3) rfl rfl) rfl wd_967 wd_143 (by decide) ⟨rfl, rfl, by decide, by decide⟩ hM wd_964 wd_966 wd_17 clf_11,
    st_iret hC (n := 35) hR (dc_X11_maid 35 (97, .ireturn, 1) rfl rfl),
    st_aload_n hC (n := 36) (k := 0) (dc_X11_maid 36 (98, .aload_n 0, 1) rfl rfl) rfl rfl,
    st_aload_n hC (n := 37) (k := 0) (dc_X11_maid 37 (99, .aload_n 0, 1) rfl rfl) rfl rfl,
    st_getD hC (n := 38) (k := 11) (j := 12) (dc_X11_maid 38 (100, .getfield 87, 3) rfl rfl) rfl clf_11 (by decide) rfl (by decide) wd_723,
    st_iload_n hC (n := 39) (k := 1) (dc_X11_maid 39 (103, .iload_n 1, 1) rfl rfl) rfl rfl,
    st_callV hC (n := 40) (k := 6) (na := 1) (con_X6_barNow l) (dc_X11_maid 40 (104, .invokevirtual 264, 3) rfl rfl) rfl wd_1056 wd_155 (by decide) ⟨rfl, rfl, by decide, by decide⟩ hM wd_1053 wd_1054 wd_1055 clf_6,
    st_callV hC (n := 41) (k := 11) (na := 1) (con_X11_answer l) (dc_X11_maid 41 (107, .invokevirtual 178, 3) rfl rfl) rfl wd_967 wd_143 (by decide) ⟨rfl, rfl, by decide, by decide⟩ hM wd_964 wd_966 wd_17 clf_11,
    st_iret hC (n := 42) hR (dc_X11_maid 42 (110, .ireturn, 1) rfl rfl),
    st_aload_n hC (n := 43) (k := 0) (dc_X11_maid 43 (111, .aload_n 0, 1) rfl rfl) rfl rfl,
    st_aload_n hC (n := 44) (k := 0) (dc_X11_maid 44 (112, .aload_n 0, 1) rfl rfl) rfl rfl,
    st_getD hC (n := 45) (k := 11) (j := 12) (dc_X11_maid 45 (113, .getfield 87, 3) rfl rfl) rfl clf_11 (by decide) rfl (by decide) wd_723,
    st_getR hC (n := 46) (k := 6) (j := 11) (dc_X11_maid 46 (116, .getfield 212, 3) rfl rfl) rfl clf_6 (by decide) rfl (by decide) wd_613,
    st_getR hC (n := 47) (k := 1) (j := 3) (dc_X11_maid 47 (119, .getfield 267, 3) rfl rfl) rfl clf_1 (by decide) rfl (by decide) wd_475,
    st_iload_n hC (n := 48) (k := 1) (dc_X11_maid 48 (122, .iload_n 1, 1) rfl rfl) rfl rfl,
    st_iald hC (n := 49) (dc_X11_maid 49 (123, .iaload, 1) rfl rfl) rfl,
    st_callV hC (n := 50) (k := 11) (na := 1) (con_X11_answerOrNone l) (dc_X11_maid 50 (124, .invokevirtual 249, 3) rfl rfl) rfl wd_1047 wd_143 (by decide) ⟨rfl, rfl, by decide, by decide⟩ hM wd_1044 wd_1046 wd_23 clf_11,
    st_iret hC (n := 51) hR (dc_X11_maid 51 (127, .ireturn, 1) rfl rfl),
    st_aload_n hC (n := 52) (k := 0) (dc_X11_maid 52 (128, .aload_n 0, 1) rfl rfl) rfl rfl,
    st_iconst hC (n := 53) (x := 1) (dc_X11_maid 53 (129, .iconst 1, 1) rfl rfl) rfl (by decide),
    st_callV hC (n := 54) (k := 11) (na := 1) (con_X11_refuse l) (dc_X11_maid 54 (130, .invokevirtual 139, 3) rfl rfl) rfl wd_824 wd_143 (by decide) ⟨rfl, rfl, by decide, by decide⟩ hM wd_821 wd_823 wd_3 clf_11,
    st_iret hC (n := 55) hR (dc_X11_maid 55 (133, .ireturn, 1) rfl rfl), trivial⟩
set_option maxRecDepth 8000 in
theorem vc_X11_maid : VC P_X11_maid 3 Pre_X11_maid Fn_X11_maid := by
  rintro mm as hom hoa ⟨⟨ns, nm, nt, hV⟩, hND, x, y, rfl⟩
  refine ⟨Nat.le_of_ble_eq_true rfl, fun X h => ?_⟩
  have hS : mm.1 6 (mm.2.2 0) 13 = nI ns := hV.1.1.1
  have hn4 : ns ≤ 4 := hV.1.1.2
  have hN : mm.1 6 (mm.2.2 0) 14 = nI nm := hV.1.2.1.1
  have hm4 : nm ≤ 4 := hV.1.2.1.2
  have hT : mm.1 6 (mm.2.2 0) 15 = nI nt := hV.1.2.2.1.1
  have ht12 : nt ≤ 12 := hV.1.2.2.1.2
  have c0 : y = 0 → cl_maid_w mm x y = gvC mm (mm.1 32 (mm.2.2 0) x.toNatClampNeg) := fun e => by rw [e]; rfl
  have c1 : y = 1 → cl_maid_w mm x y = gvC mm (mm.1 33 (mm.2.2 0) x.toNatClampNeg) := fun e => by rw [e]; rfl
  have c2 : y = 2 → cl_maid_w mm x y = gvC mm (mm.1 34 (mm.2.2 0) x.toNatClampNeg) := fun e => by rw [e]; rfl
  have c3 : y = 3 → cl_maid_w mm x y = gvC mm (brA (abV mm (mm.2.2 0)) x.toNatClampNeg ((abV mm (mm.2.2 0)) 6)) := fun e => by rw [e]; rfl
  have c4 : y = 4 → cl_maid_w mm x y = onC mm (mm.1 19 (mm.2.2 0) x.toNatClampNeg) := fun e => by rw [e]; rfl
  show X 0 [some (vR 11 0), some (vI x), some (vI y)] [] mm
  refine h (fun _ => false) 3000 0 _ _ _ ?_
  refine And.intro (show Pre_X11_isOut mm [vI x, vI (mm.1 6 (mm.2.2 0) 14)] from ⟨_, _, rfl⟩) ?_
  refine br_c (fun b5 => ?_) (fun b5 => ?_)
  · -- 5: bI (x < 0 ∨ (mm.1 6 (mm.2.2 0) 14) ≤ x) = 0 taken
    replace b5 : ¬ (x < 0 ∨ (mm.1 6 (mm.2.2 0) 14) ≤ x) := bI_0.mp b5
    obtain ⟨i, hi, ex⟩ := ou_in hN (by omega) b5
    refine And.intro ⟨fun b11 => ?_, fun b11 => ?_, fun b11 => ?_, fun b11 => ?_, fun b11 => ?_, trivial⟩ ?_
    · replace b11 : y = 0 := b11
      refine And.intro (show inb x (alen 32) = true from (inb_o 4 rfl rfl ex (by omega))) ?_
      refine And.intro (show Pre_X11_answer mm [vR 11 0, vI (mm.1 32 (mm.2.2 0) x.toNatClampNeg)] from ⟨_, rfl⟩) ?_
      show ((some (vI (mm.1 32 (mm.2.2 0) x.toNatClampNeg)) : Option MV), stC mm 0) = _
      exact ((if_neg b5).trans (c0 b11)).symm
    · replace b11 : y = 1 := b11
      refine And.intro (show inb x (alen 33) = true from (inb_o 4 rfl rfl ex (by omega))) ?_
      refine And.intro (show Pre_X11_answer mm [vR 11 0, vI (mm.1 33 (mm.2.2 0) x.toNatClampNeg)] from ⟨_, rfl⟩) ?_
      show ((some (vI (mm.1 33 (mm.2.2 0) x.toNatClampNeg)) : Option MV), stC mm 0) = _
      exact ((if_neg b5).trans (c1 b11)).symm
    · replace b11 : y = 2 := b11
      refine And.intro (show inb x (alen 34) = true from (inb_o 4 rfl rfl ex (by omega))) ?_
      refine And.intro (show Pre_X11_answer mm [vR 11 0, vI (mm.1 34 (mm.2.2 0) x.toNatClampNeg)] from ⟨_, rfl⟩) ?_
      show ((some (vI (mm.1 34 (mm.2.2 0) x.toNatClampNeg)) : Option MV), stC mm 0) = _
      exact ((if_neg b5).trans (c2 b11)).symm
    · replace b11 : y = 3 := b11
      refine And.intro (show Pre_X6_barNow mm [vR 6 (mm.2.2 0), vI x] from ⟨_, i, by omega, by rw [ex]⟩) ?_
      refine And.intro (show Pre_X11_answer mm [vR 11 0, vI (brA (abV mm (mm.2.2 0)) x.toNatClampNeg (abV mm (mm.2.2 0) 6))] from ⟨_, rfl⟩) ?_
      show ((some (vI (brA (abV mm (mm.2.2 0)) x.toNatClampNeg (abV mm (mm.2.2 0) 6))) : Option MV), stC mm 0) = _
      exact ((if_neg b5).trans (c3 b11)).symm
    · replace b11 : y = 4 := b11
      refine And.intro (show inb x (alen 19) = true from (inb_o 4 rfl rfl ex (by omega))) ?_
      refine And.intro (show Pre_X11_answerOrNone mm [vR 11 0, vI (mm.1 19 (mm.2.2 0) x.toNatClampNeg)] from ⟨_, rfl⟩) ?_
      show ((some (vI (if (mm.1 19 (mm.2.2 0) x.toNatClampNeg) < 0 then -1 else (mm.1 19 (mm.2.2 0) x.toNatClampNeg))) : Option MV), stC mm (if (mm.1 19 (mm.2.2 0) x.toNatClampNeg) < 0 then 6 else 0)) = _
      exact ((if_neg b5).trans (c4 b11)).symm
    · intro b11
      have n11_0 : ¬ y = 0 := b11 (0, 12) (by decide)
      have n11_1 : ¬ y = 1 := b11 (1, 20) (by decide)
      have n11_2 : ¬ y = 2 := b11 (2, 28) (by decide)
      have n11_3 : ¬ y = 3 := b11 (3, 36) (by decide)
      have n11_4 : ¬ y = 4 := b11 (4, 43) (by decide)
      refine And.intro (show Pre_X11_refuse mm [vR 11 0, vI 1] from ⟨_, rfl⟩) ?_
      show ((some (vI (-1)) : Option MV), stC mm 1) = _
      show _ = cl_maid mm x y
      unfold cl_maid cl_maid_w
      rw [if_neg b5, if_neg n11_0, if_neg n11_1, if_neg n11_2, if_neg n11_3, if_neg n11_4]
      rfl
  · -- 5: bI (x < 0 ∨ (mm.1 6 (mm.2.2 0) 14) ≤ x) = 0 on
    replace b5 : x < 0 ∨ (mm.1 6 (mm.2.2 0) 14) ≤ x := bI_n0.mp b5
    refine And.intro (show Pre_X11_refuse mm [vR 11 0, vI 1] from ⟨_, rfl⟩) ?_
    show ((some (vI (-1)) : Option MV), stC mm 1) = _
    exact (if_pos b5).symm
theorem con_X11_maid (l : Launch) : CON l y_X11_maid prog_1_method_15_code 3 (some .int) rm_X11_maid Pre_X11_maid Fn_X11_maid := CON_of (by decide) rfl rfl (sa_X11_maid l) vc_X11_maid
def cl_thing_w (m : MM) (x y : Int32) : Option MV × MM := if y = 0 then gvC m (m.1 35 (m.2.2 0) x.toNatClampNeg) else if y = 1 then gvC m (m.1 36 (m.2.2 0) x.toNatClampNeg) else if y = 2 then gvC m (tsA (abV m (m.2.2 0)) x.toNatClampNeg) else if y = 3 then gvC m (m.1 37 (m.2.2 0) x.toNatClampNeg) else if y = 4 then gvC m (if inS (m.1 6 (m.2.2 0) 19) x then 99 else nI (pcN (m.1 38 (m.2.2 0) x.toNatClampNeg).toNatClampNeg)) else rfC m 1
def cl_thing (m : MM) (x y : Int32) : Option MV × MM := if x < 0 ∨ m.1 6 (m.2.2 0) 15 ≤ x then rfC m 1 else cl_thing_w m x y

def Pre_X11_thing : PreT := fun m as => VNx m ∧ NDo m (m.2.2 0) ∧ ∃ x y : Int32, as = [vR 11 0, vI x, vI y]
def Fn_X11_thing : FnT := fun m as => match as with
  | [_, Sum.inl x, Sum.inl y] => cl_thing m x y
  | _ => (none, m)
abbrev y_X11_thing : MethodName := ⟨"GivenUp", "thing", "(II)I"⟩
def P_X11_thing : List StpT := [s_iload 1, s_aload 0, s_getD 11 12 6 0, s_getI 6 15, s_callS 2 Pre_X11_isOut Fn_X11_isOut, s_ifeq 10, s_aload 0, s_ic (1), s_callV 11 1 Pre_X11_refuse Fn_X11_refuse, s_iret, s_iload 2, s_sw (tsw (0) [12, 20, 28, 35, 43]) 50, s_aload 0, s_aload 0, s_getD 11 12 6 0, s_getR 6 6 35, s_iload 1, s_iald, s_callV 11 1 Pre_X11_answer Fn_X11_answer, s_iret, s_aload 0, s_aload 0, s_getD 11 12 6 0, s_getR 6 7 36, s_iload 1, s_iald, s_callV 11 1 Pre_X11_answer Fn_X11_answer, s_iret, s_aload 0, s_aload 0, s_getD 11 12 6 0, s_iload 1, s_callV 6 1 Pre_X6_stateOf Fn_X6_stateOf, s_callV 11 1 Pre_X11_answer Fn_X11_answer, s_iret, s_aload 0, s_aload 0, s_getD 11 12 6 0, s_getR 6 8 37, s_iload 1, s_iald, s_callV 11 1 Pre_X11_answer Fn_X11_answer, s_iret, s_aload 0, s_aload 0, s_getD 11 12 6 0, s_iload 1, s_callV 6 1 Pre_X6_deep Fn_X6_deep, s_callV 11 1 Pre_X11_answer Fn_X11_answer, s_iret, s_aload 0, s_ic (1), s_callV 11 1 Pre_X11_refuse Fn_X11_refuse, s_iret]
def pc_X11_thing : Nat → Nat := fun i => [0, 1, 2, 5, 8, 11, 14, 15, 16, 19, 20, 21, 56, 57, 58, 61, 64, 65, 66, 69, 70, 71, 72, 75, 78, 79, 80, 83, 84, 85, 86, 89, 90, 93, 96, 97, 98, 99, 102, 105, 106, 107, 110, 111, 112, 113, 116, 117, 120, 123, 124, 125, 126, 129].getD i 0
def dl_X11_thing : List (Nat × Instr × Nat) := [(0, .iload_n 1, 1), (1, .aload_n 0, 1), (2, .getfield 87, 3), (5, .getfield 175, 3), (8, .invokestatic 115, 3), (11, .ifCond .eq 9, 3), (14, .aload_n 0, 1), (15, .iconst 1, 1), (16, .invokevirtual 139, 3), (19, .ireturn, 1), (20, .iload_n 2, 1), (21, .tableswitch 103 0 4 #[35, 49, 63, 76, 90], 35), (56, .aload_n 0, 1), (57, .aload_n 0, 1), (58, .getfield 87, 3), (61, .getfield 270, 3), (64, .iload_n 1, 1), (65, .iaload, 1), (66, .invokevirtual 178, 3), (69, .ireturn, 1), (70, .aload_n 0, 1), (71, .aload_n 0, 1), (72, .getfield 87, 3), (75, .getfield 273, 3), (78, .iload_n 1, 1), (79, .iaload, 1), (80, .invokevirtual 178, 3), (83, .ireturn, 1), (84, .aload_n 0, 1), (85, .aload_n 0, 1), (86, .getfield 87, 3), (89, .iload_n 1, 1), (90, .invokevirtual 276, 3), (93, .invokevirtual 178, 3), (96, .ireturn, 1), (97, .aload_n 0, 1), (98, .aload_n 0, 1), (99, .getfield 87, 3), (102, .getfield 279, 3), (105, .iload_n 1, 1), (106, .iaload, 1), (107, .invokevirtual 178, 3), (110, .ireturn, 1), (111, .aload_n 0, 1), (112, .aload_n 0, 1), (113, .getfield 87, 3), (116, .iload_n 1, 1), (117, .invokevirtual 282, 3), (120, .invokevirtual 178, 3), (123, .ireturn, 1), (124, .aload_n 0, 1), (125, .iconst 1, 1), (126, .invokevirtual 139, 3), (129, .ireturn, 1)]
theorem dc_X11_thing : DEC prog_1_method_16_code pc_X11_thing dl_X11_thing := DEC_of (by decide +kernel)
abbrev rm_X11_thing : Room := { frames := 2, cells := 0, slots := 0, locals := 42 }
set_option maxRecDepth 20000 in
theorem sa_X11_thing (l : Launch) : SNDALL l prog_1_method_16_code "GivenUp" 3 (some .int) rm_X11_thing P_X11_thing pc_X11_thing := fun p e s m args below meth c cells slots Q D dA ad A RR hC hR => by
  have hM := RTX_room (R := rm_X11_thing) hR
  exact ⟨st_iload_n hC (n := 0) (k := 1) (dc_X11_thing 0 (0, .iload_n 1, 1) rfl rfl) rfl rfl,
    st_aload_n hC (n := 1) (k := 0) (dc_X11_thing 1 (1, .aload_n 0, 1) rfl rfl) rfl rfl,
    st_getD hC (n := 2) (k := 11) (j := 12) (dc_X11_thing 2 (2, .getfield 87, 3) rfl rfl) rfl clf_11 (by decide) rfl (by decide) wd_723,
    st_getI hC (n := 3) (k := 6) (j := 15) (dc_X11_thing 3 (5, .getfield 175, 3) rfl rfl) rfl clf_6 (by decide) rfl wd_633,
    st_callS hC (n := 4) (na := 2) (con_X11_isOut l) (dc_X11_thing 4 (8, .invokestatic 115, 3) rfl rfl) rfl wd_790 wd_143 (by decide) ⟨rfl, rfl, by decide, by decide⟩ hM wd_788 wd_789,
    st_ifeq hC (n := 5) (dc_X11_thing 5 (11, .ifCond .eq 9, 3) rfl rfl) rfl (by decide),
    st_aload_n hC (n := 6) (k := 0) (dc_X11_thing 6 (14, .aload_n 0, 1) rfl rfl) rfl rfl,
    st_iconst hC (n := 7) (x := 1) (dc_X11_thing 7 (15, .iconst 1, 1) rfl rfl) rfl (by decide),
    st_callV hC (n := 8) (k := 11) (na := 1) (con_X11_refuse l) (dc_X11_thing 8 (16, .invokevirtual 139, 3) rfl rfl) rfl wd_824 wd_143 (by decide) ⟨rfl, rfl, by decide, by decide⟩ hM wd_821 wd_823 wd_3 clf_11,
    st_iret hC (n := 9) hR (dc_X11_thing 9 (19, .ireturn, 1) rfl rfl),
    st_iload_n hC (n := 10) (k := 2) (dc_X11_thing 10 (20, .iload_n 2, 1) rfl rfl) rfl rfl,
    st_table hC (n := 11) (ts := [12, 20, 28, 35, 43]) (dc_X11_thing 11 (21, .tableswitch 103 0 4 #[35, 49, 63, 76, 90], 35) rfl rfl) (by decide) (by decide) (by decide) (by decide) (swt_of _ _ _ (by decide +kernel)),
    st_aload_n hC (n := 12) (k := 0) (dc_X11_thing 12 (56, .aload_n 0, 1) rfl rfl) rfl rfl,
    st_aload_n hC (n := 13) (k := 0) (dc_X11_thing 13 (57, .aload_n 0, 1) rfl rfl) rfl rfl,
    st_getD hC (n := 14) (k := 11) (j := 12) (dc_X11_thing 14 (58, .getfield 87, 3) rfl rfl) rfl clf_11 (by decide) rfl (by decide) wd_723,
    st_getR hC (n := 15) (k := 6) (j := 6) (dc_X11_thing 15 (61, .getfield 270, 3) rfl rfl) rfl clf_6 (by decide) rfl (by decide) wd_597,
    st_iload_n hC (n := 16) (k := 1) (dc_X11_thing 16 (64, .iload_n 1, 1) rfl rfl) rfl rfl,
    st_iald hC (n := 17) (dc_X11_thing 17 (65, .iaload, 1) rfl rfl) rfl,
    st_callV hC (n := 18) (k := 11) (na := 1) (con_X11_answer l) (dc_X11_thing 18 (66, .invokevirtual 178, 3) rfl rfl) rfl wd_967 wd_143 (by decide) ⟨rfl, rfl, by decide, by decide⟩ hM wd_964 wd_966 wd_17 clf_11,
    st_iret hC (n := 19) hR (dc_X11_thing 19 (69, .ireturn, 1) rfl rfl),
    st_aload_n hC (n := 20) (k := 0) (dc_X11_thing 20 (70, .aload_n 0, 1) rfl rfl) rfl rfl,
    st_aload_n hC (n := 21) (k := 0) (dc_X11_thing 21 (71, .aload_n 0, 1) rfl rfl) rfl rfl,
    st_getD hC (n := 22) (k := 11) (j := 12) (dc_X11_thing 22 (72, .getfield 87, 3) rfl rfl) rfl clf_11 (by decide) rfl (by decide) wd_723,
    st_getR hC (n := 23) (k := 6) (j := 7) (dc_X11_thing 23 (75, .getfield 273, 3) rfl rfl) rfl clf_6 (by decide) rfl (by decide) wd_600,
    st_iload_n hC (n := 24) (k := 1) (dc_X11_thing 24 (78, .iload_n 1, 1) rfl rfl) rfl rfl,
    st_iald hC (n := 25) (dc_X11_thing 25 (79, .iaload, 1) rfl rfl) rfl,
    st_callV hC (n := 26) (k := 11) (na := 1) (con_X11_answer l) (dc_X11_thing 26 (80, .invokevirtual 178, 3) rfl rfl) rfl wd_967 wd_143 (by decide) ⟨rfl, rfl, by decide, by decide⟩ hM wd_964 wd_966 wd_17 clf_11,
    st_iret hC (n := 27) hR (dc_X11_thing 27 (83, .ireturn, 1) rfl rfl),
    st_aload_n hC (n := 28) (k := 0) (dc_X11_thing 28 (84, .aload_n 0, 1) rfl rfl) rfl rfl,
    st_aload_n hC (n := 29) (k := 0) (dc_X11_thing 29 (85, .aload_n 0, 1) rfl rfl) rfl rfl,
    st_getD hC (n := 30) (k := 11) (j := 12) (dc_X11_thing 30 (86, .getfield 87, 3) rfl rfl) rfl clf_11 (by decide) rfl (by decide) wd_723,
    st_iload_n hC (n := 31) (k := 1) (dc_X11_thing 31 (89, .iload_n 1, 1) rfl rfl) rfl rfl,
    st_callV hC (n := 32) (k := 6) (na := 1) (con_X6_stateOf l) (dc_X11_thing 32 (90, .invokevirtual 276, 3) rfl rfl) rfl wd_1064 wd_155 (by decide) ⟨rfl, rfl, by decide, by decide⟩ hM wd_1061 wd_1062 wd_1063 clf_6,
    st_callV hC (n := 33) (k := 11) (na := 1) (con_X11_answer l) (dc_X11_thing 33 (93, .invokevirtual 178, 3) rfl rfl) rfl wd_967 wd_143 (by decide) ⟨rfl, rfl, by decide, by decide⟩ hM wd_964 wd_966 wd_17 clf_11,
    st_iret hC (n := 34) hR (dc_X11_thing 34 (96, .ireturn, 1) rfl rfl),
    st_aload_n hC (n := 35) (k := 0) (dc_X11_thing 35 (97, .aload_n 0, 1) rfl rfl) rfl rfl,
    st_aload_n hC (n := 36) (k := 0) (dc_X11_thing 36 (98, .aload_n 0, 1) rfl rfl) rfl rfl,
    st_getD hC (n := 37) (k := 11) (j := 12) (dc_X11_thing 37 (99, .getfield 87, 3) rfl rfl) rfl clf_11 (by decide) rfl (by decide) wd_723,
    st_getR hC (n := 38) (k := 6) (j := 8) (dc_X11_thing 38 (102, .getfield 279, 3) rfl rfl) rfl clf_6 (by decide) rfl (by decide) wd_604,
    st_iload_n hC (n := 39) (k := 1) (dc_X11_thing 39 (105, .iload_n 1, 1) rfl rfl) rfl rfl,
    st_iald hC (n := 40) (dc_X11_thing 40 (106, .iaload, 1) rfl rfl) rfl,
    st_callV hC (n := 41) (k := 11) (na := 1) (con_X11_answer l) (dc_X11_thing 41 (107, .invokevirtual 178, 3) rfl rfl) rfl wd_967 wd_143 (by decide) ⟨rfl, rfl, by decide, by decide⟩ hM wd_964 wd_966 wd_17 clf_11,
    st_iret hC (n := 42) hR (dc_X11_thing 42 (110, .ireturn, 1) rfl rfl),
    st_aload_n hC (n := 43) (k := 0) (dc_X11_thing 43 (111, .aload_n 0, 1) rfl rfl) rfl rfl,
    st_aload_n hC (n := 44) (k := 0) (dc_X11_thing 44 (112, .aload_n 0, 1) rfl rfl) rfl rfl,
    st_getD hC (n := 45) (k := 11) (j := 12) (dc_X11_thing 45 (113, .getfield 87, 3) rfl rfl) rfl clf_11 (by decide) rfl (by decide) wd_723,
    st_iload_n hC (n := 46) (k := 1) (dc_X11_thing 46 (116, .iload_n 1, 1) rfl rfl) rfl rfl,
    st_callV hC (n := 47) (k := 6) (na := 1) (con_X6_deep l) (dc_X11_thing 47 (117, .invokevirtual 282, 3) rfl rfl) rfl wd_1068 wd_155 (by decide) ⟨rfl, rfl, by decide, by decide⟩ hM wd_1065 wd_1066 wd_1067 clf_6,
    st_callV hC (n := 48) (k := 11) (na := 1) (con_X11_answer l) (dc_X11_thing 48 (120, .invokevirtual 178, 3) rfl rfl) rfl wd_967 wd_143 (by decide) ⟨rfl, rfl, by decide, by decide⟩ hM wd_964 wd_966 wd_17 clf_11,
    st_iret hC (n := 49) hR (dc_X11_thing 49 (123, .ireturn, 1) rfl rfl),
    st_aload_n hC (n := 50) (k := 0) (dc_X11_thing 50 (124, .aload_n 0, 1) rfl rfl) rfl rfl,
    st_iconst hC (n := 51) (x := 1) (dc_X11_thing 51 (125, .iconst 1, 1) rfl rfl) rfl (by decide),
    st_callV hC (n := 52) (k := 11) (na := 1) (con_X11_refuse l) (dc_X11_thing 52 (126, .invokevirtual 139, 3) rfl rfl) rfl wd_824 wd_143 (by decide) ⟨rfl, rfl, by decide, by decide⟩ hM wd_821 wd_823 wd_3 clf_11,
    st_iret hC (n := 53) hR (dc_X11_thing 53 (129, .ireturn, 1) rfl rfl), trivial⟩
set_option maxRecDepth 8000 in
theorem vc_X11_thing : VC P_X11_thing 3 Pre_X11_thing Fn_X11_thing := by
  rintro mm as hom hoa ⟨⟨ns, nm, nt, hV⟩, hND, x, y, rfl⟩
  refine ⟨Nat.le_of_ble_eq_true rfl, fun X h => ?_⟩
  have hS : mm.1 6 (mm.2.2 0) 13 = nI ns := hV.1.1.1
  have hn4 : ns ≤ 4 := hV.1.1.2
  have hN : mm.1 6 (mm.2.2 0) 14 = nI nm := hV.1.2.1.1
  have hm4 : nm ≤ 4 := hV.1.2.1.2
  have hT : mm.1 6 (mm.2.2 0) 15 = nI nt := hV.1.2.2.1.1
  have ht12 : nt ≤ 12 := hV.1.2.2.1.2
  have c0 : y = 0 → cl_thing_w mm x y = gvC mm (mm.1 35 (mm.2.2 0) x.toNatClampNeg) := fun e => by rw [e]; rfl
  have c1 : y = 1 → cl_thing_w mm x y = gvC mm (mm.1 36 (mm.2.2 0) x.toNatClampNeg) := fun e => by rw [e]; rfl
  have c2 : y = 2 → cl_thing_w mm x y = gvC mm (tsA (abV mm (mm.2.2 0)) x.toNatClampNeg) := fun e => by rw [e]; rfl
  have c3 : y = 3 → cl_thing_w mm x y = gvC mm (mm.1 37 (mm.2.2 0) x.toNatClampNeg) := fun e => by rw [e]; rfl
  have c4 : y = 4 → cl_thing_w mm x y = gvC mm (if inS (mm.1 6 (mm.2.2 0) 19) x then 99 else nI (pcN (mm.1 38 (mm.2.2 0) x.toNatClampNeg).toNatClampNeg)) := fun e => by rw [e]; rfl
  show X 0 [some (vR 11 0), some (vI x), some (vI y)] [] mm
  refine h (fun _ => false) 3000 0 _ _ _ ?_
  refine And.intro (show Pre_X11_isOut mm [vI x, vI (mm.1 6 (mm.2.2 0) 15)] from ⟨_, _, rfl⟩) ?_
  refine br_c (fun b5 => ?_) (fun b5 => ?_)
  · -- 5: bI (x < 0 ∨ (mm.1 6 (mm.2.2 0) 15) ≤ x) = 0 taken
    replace b5 : ¬ (x < 0 ∨ (mm.1 6 (mm.2.2 0) 15) ≤ x) := bI_0.mp b5
    obtain ⟨i, hi, ex⟩ := ou_in hT (by omega) b5
    refine And.intro ⟨fun b11 => ?_, fun b11 => ?_, fun b11 => ?_, fun b11 => ?_, fun b11 => ?_, trivial⟩ ?_
    · replace b11 : y = 0 := b11
      refine And.intro (show inb x (alen 35) = true from (inb_o 12 rfl rfl ex (by omega))) ?_
      refine And.intro (show Pre_X11_answer mm [vR 11 0, vI (mm.1 35 (mm.2.2 0) x.toNatClampNeg)] from ⟨_, rfl⟩) ?_
      show ((some (vI (mm.1 35 (mm.2.2 0) x.toNatClampNeg)) : Option MV), stC mm 0) = _
      exact ((if_neg b5).trans (c0 b11)).symm
    · replace b11 : y = 1 := b11
      refine And.intro (show inb x (alen 36) = true from (inb_o 12 rfl rfl ex (by omega))) ?_
      refine And.intro (show Pre_X11_answer mm [vR 11 0, vI (mm.1 36 (mm.2.2 0) x.toNatClampNeg)] from ⟨_, rfl⟩) ?_
      show ((some (vI (mm.1 36 (mm.2.2 0) x.toNatClampNeg)) : Option MV), stC mm 0) = _
      exact ((if_neg b5).trans (c1 b11)).symm
    · replace b11 : y = 2 := b11
      refine And.intro (show Pre_X6_stateOf mm [vR 6 (mm.2.2 0), vI x] from ⟨_, i, by omega, by rw [ex]⟩) ?_
      refine And.intro (show Pre_X11_answer mm [vR 11 0, vI (tsA (abV mm (mm.2.2 0)) x.toNatClampNeg)] from ⟨_, rfl⟩) ?_
      show ((some (vI (tsA (abV mm (mm.2.2 0)) x.toNatClampNeg)) : Option MV), stC mm 0) = _
      exact ((if_neg b5).trans (c2 b11)).symm
    · replace b11 : y = 3 := b11
      refine And.intro (show inb x (alen 37) = true from (inb_o 12 rfl rfl ex (by omega))) ?_
      refine And.intro (show Pre_X11_answer mm [vR 11 0, vI (mm.1 37 (mm.2.2 0) x.toNatClampNeg)] from ⟨_, rfl⟩) ?_
      show ((some (vI (mm.1 37 (mm.2.2 0) x.toNatClampNeg)) : Option MV), stC mm 0) = _
      exact ((if_neg b5).trans (c3 b11)).symm
    · replace b11 : y = 4 := b11
      refine And.intro (show Pre_X6_deep mm [vR 6 (mm.2.2 0), vI x] from (by obtain ⟨n, hn, en⟩ := hND i (by omega); exact ⟨_, i, n, by omega, hn, en, by rw [ex]⟩)) ?_
      refine And.intro (show Pre_X11_answer mm [vR 11 0, vI (if inS (mm.1 6 (mm.2.2 0) 19) x then 99 else nI (pcN (mm.1 38 (mm.2.2 0) x.toNatClampNeg).toNatClampNeg))] from ⟨_, rfl⟩) ?_
      show ((some (vI (if inS (mm.1 6 (mm.2.2 0) 19) x then 99 else nI (pcN (mm.1 38 (mm.2.2 0) x.toNatClampNeg).toNatClampNeg))) : Option MV), stC mm 0) = _
      exact ((if_neg b5).trans (c4 b11)).symm
    · intro b11
      have n11_0 : ¬ y = 0 := b11 (0, 12) (by decide)
      have n11_1 : ¬ y = 1 := b11 (1, 20) (by decide)
      have n11_2 : ¬ y = 2 := b11 (2, 28) (by decide)
      have n11_3 : ¬ y = 3 := b11 (3, 35) (by decide)
      have n11_4 : ¬ y = 4 := b11 (4, 43) (by decide)
      refine And.intro (show Pre_X11_refuse mm [vR 11 0, vI 1] from ⟨_, rfl⟩) ?_
      show ((some (vI (-1)) : Option MV), stC mm 1) = _
      show _ = cl_thing mm x y
      unfold cl_thing cl_thing_w
      rw [if_neg b5, if_neg n11_0, if_neg n11_1, if_neg n11_2, if_neg n11_3, if_neg n11_4]
      rfl
  · -- 5: bI (x < 0 ∨ (mm.1 6 (mm.2.2 0) 15) ≤ x) = 0 on
    replace b5 : x < 0 ∨ (mm.1 6 (mm.2.2 0) 15) ≤ x := bI_n0.mp b5
    refine And.intro (show Pre_X11_refuse mm [vR 11 0, vI 1] from ⟨_, rfl⟩) ?_
    show ((some (vI (-1)) : Option MV), stC mm 1) = _
    exact (if_pos b5).symm
theorem con_X11_thing (l : Launch) : CON l y_X11_thing prog_1_method_16_code 3 (some .int) rm_X11_thing Pre_X11_thing Fn_X11_thing := CON_of (by decide) rfl rfl (sa_X11_thing l) vc_X11_thing
def cl_says (m : MM) (x y : Int32) : Option MV × MM := if x < 0 ∨ m.1 6 (m.2.2 0) 15 ≤ x then rfC m 1 else if y < 0 ∨ m.1 6 (m.2.2 0) 14 ≤ y then rfC m 1 else gvC m (abV m (m.2.2 0) (80 + 4 * x.toNatClampNeg + y.toNatClampNeg))

def Pre_X11_says : PreT := fun m as => VNx m ∧ ∃ x y : Int32, as = [vR 11 0, vI x, vI y]
def Fn_X11_says : FnT := fun m as => match as with
  | [_, Sum.inl x, Sum.inl y] => cl_says m x y
  | _ => (none, m)
abbrev y_X11_says : MethodName := ⟨"GivenUp", "says", "(II)I"⟩
def P_X11_says : List StpT := [s_iload 1, s_aload 0, s_getD 11 12 6 0, s_getI 6 15, s_callS 2 Pre_X11_isOut Fn_X11_isOut, s_ifne 12, s_iload 2, s_aload 0, s_getD 11 12 6 0, s_getI 6 14, s_callS 2 Pre_X11_isOut Fn_X11_isOut, s_ifeq 16, s_aload 0, s_ic (1), s_callV 11 1 Pre_X11_refuse Fn_X11_refuse, s_iret, s_aload 0, s_aload 0, s_getD 11 12 6 0, s_iload 1, s_iload 2, s_callV 6 2 Pre_X6_word Fn_X6_word, s_callV 11 1 Pre_X11_answer Fn_X11_answer, s_iret]
def pc_X11_says : Nat → Nat := fun i => [0, 1, 2, 5, 8, 11, 14, 15, 16, 19, 22, 25, 28, 29, 30, 33, 34, 35, 36, 39, 40, 41, 44, 47].getD i 0
def dl_X11_says : List (Nat × Instr × Nat) := [(0, .iload_n 1, 1), (1, .aload_n 0, 1), (2, .getfield 87, 3), (5, .getfield 175, 3), (8, .invokestatic 115, 3), (11, .ifCond .ne 17, 3), (14, .iload_n 2, 1), (15, .aload_n 0, 1), (16, .getfield 87, 3), (19, .getfield 200, 3), (22, .invokestatic 115, 3), (25, .ifCond .eq 9, 3), (28, .aload_n 0, 1), (29, .iconst 1, 1), (30, .invokevirtual 139, 3), (33, .ireturn, 1), (34, .aload_n 0, 1), (35, .aload_n 0, 1), (36, .getfield 87, 3), (39, .iload_n 1, 1), (40, .iload_n 2, 1), (41, .invokevirtual 285, 3), (44, .invokevirtual 178, 3), (47, .ireturn, 1)]
theorem dc_X11_says : DEC prog_1_method_17_code pc_X11_says dl_X11_says := DEC_of (by decide +kernel)
abbrev rm_X11_says : Room := { frames := 1, cells := 0, slots := 0, locals := 22 }
set_option maxRecDepth 20000 in
theorem sa_X11_says (l : Launch) : SNDALL l prog_1_method_17_code "GivenUp" 3 (some .int) rm_X11_says P_X11_says pc_X11_says := fun p e s m args below meth c cells slots Q D dA ad A RR hC hR => by
  have hM := RTX_room (R := rm_X11_says) hR
  exact ⟨st_iload_n hC (n := 0) (k := 1) (dc_X11_says 0 (0, .iload_n 1, 1) rfl rfl) rfl rfl,
    st_aload_n hC (n := 1) (k := 0) (dc_X11_says 1 (1, .aload_n 0, 1) rfl rfl) rfl rfl,
    st_getD hC (n := 2) (k := 11) (j := 12) (dc_X11_says 2 (2, .getfield 87, 3) rfl rfl) rfl clf_11 (by decide) rfl (by decide) wd_723,
    st_getI hC (n := 3) (k := 6) (j := 15) (dc_X11_says 3 (5, .getfield 175, 3) rfl rfl) rfl clf_6 (by decide) rfl wd_633,
    st_callS hC (n := 4) (na := 2) (con_X11_isOut l) (dc_X11_says 4 (8, .invokestatic 115, 3) rfl rfl) rfl wd_790 wd_143 (by decide) ⟨rfl, rfl, by decide, by decide⟩ hM wd_788 wd_789,
    st_ifne hC (n := 5) (dc_X11_says 5 (11, .ifCond .ne 17, 3) rfl rfl) rfl (by decide),
    st_iload_n hC (n := 6) (k := 2) (dc_X11_says 6 (14, .iload_n 2, 1) rfl rfl) rfl rfl,
    st_aload_n hC (n := 7) (k := 0) (dc_X11_says 7 (15, .aload_n 0, 1) rfl rfl) rfl rfl,
    st_getD hC (n := 8) (k := 11) (j := 12) (dc_X11_says 8 (16, .getfield 87, 3) rfl rfl) rfl clf_11 (by decide) rfl (by decide) wd_723,
    st_getI hC (n := 9) (k := 6) (j := 14) (dc_X11_says 9 (19, .getfield 200, 3) rfl rfl) rfl clf_6 (by decide) rfl wd_628,
    st_callS hC (n := 10) (na := 2) (con_X11_isOut l) (dc_X11_says 10 (22, .invokestatic 115, 3) rfl rfl) rfl wd_790 wd_143 (by decide) ⟨rfl, rfl, by decide, by decide⟩ hM wd_788 wd_789,
    st_ifeq hC (n := 11) (dc_X11_says 11 (25, .ifCond .eq 9, 3) rfl rfl) rfl (by decide),
    st_aload_n hC (n := 12) (k := 0) (dc_X11_says 12 (28, .aload_n 0, 1) rfl rfl) rfl rfl,
    st_iconst hC (n := 13) (x := 1) (dc_X11_says 13 (29, .iconst 1, 1) rfl rfl) rfl (by decide),
    st_callV hC (n := 14) (k := 11) (na := 1) (con_X11_refuse l) (dc_X11_says 14 (30, .invokevirtual 139, 3) rfl rfl) rfl wd_824 wd_143 (by decide) ⟨rfl, rfl, by decide, by decide⟩ hM wd_821 wd_823 wd_3 clf_11,
    st_iret hC (n := 15) hR (dc_X11_says 15 (33, .ireturn, 1) rfl rfl),
    st_aload_n hC (n := 16) (k := 0) (dc_X11_says 16 (34, .aload_n 0, 1) rfl rfl) rfl rfl,
    st_aload_n hC (n := 17) (k := 0) (dc_X11_says 17 (35, .aload_n 0, 1) rfl rfl) rfl rfl,
    st_getD hC (n := 18) (k := 11) (j := 12) (dc_X11_says 18 (36, .getfield 87, 3) rfl rfl) rfl clf_11 (by decide) rfl (by decide) wd_723,
    st_iload_n hC (n := 19) (k := 1) (dc_X11_says 19 (39, .iload_n 1, 1) rfl rfl) rfl rfl,
    st_iload_n hC (n := 20) (k := 2) (dc_X11_says 20 (40, .iload_n 2, 1) rfl rfl) rfl rfl,
    st_callV hC (n := 21) (k := 6) (na := 2) (con_X6_word l) (dc_X11_says 21 (41, .invokevirtual 285, 3) rfl rfl) rfl wd_1082 wd_155 (by decide) ⟨rfl, rfl, by decide, by decide⟩ hM wd_1079 wd_1080 wd_1081 clf_6,
    st_callV hC (n := 22) (k := 11) (na := 1) (con_X11_answer l) (dc_X11_says 22 (44, .invokevirtual 178, 3) rfl rfl) rfl wd_967 wd_143 (by decide) ⟨rfl, rfl, by decide, by decide⟩ hM wd_964 wd_966 wd_17 clf_11,
    st_iret hC (n := 23) hR (dc_X11_says 23 (47, .ireturn, 1) rfl rfl), trivial⟩
set_option maxRecDepth 8000 in
theorem vc_X11_says : VC P_X11_says 3 Pre_X11_says Fn_X11_says := by
  rintro mm as hom hoa ⟨⟨ns, nm, nt, hV⟩, x, y, rfl⟩
  refine ⟨Nat.le_of_ble_eq_true rfl, fun X h => ?_⟩
  have hS : mm.1 6 (mm.2.2 0) 13 = nI ns := hV.1.1.1
  have hn4 : ns ≤ 4 := hV.1.1.2
  have hN : mm.1 6 (mm.2.2 0) 14 = nI nm := hV.1.2.1.1
  have hm4 : nm ≤ 4 := hV.1.2.1.2
  have hT : mm.1 6 (mm.2.2 0) 15 = nI nt := hV.1.2.2.1.1
  have ht12 : nt ≤ 12 := hV.1.2.2.1.2
  show X 0 [some (vR 11 0), some (vI x), some (vI y)] [] mm
  refine h (fun _ => false) 3000 0 _ _ _ ?_
  refine And.intro (show Pre_X11_isOut mm [vI x, vI (mm.1 6 (mm.2.2 0) 15)] from ⟨_, _, rfl⟩) ?_
  refine brn_c (fun b5 => ?_) (fun b5 => ?_)
  · -- 5: bI (x < 0 ∨ (mm.1 6 (mm.2.2 0) 15) ≤ x) = 0 taken
    replace b5 : x < 0 ∨ (mm.1 6 (mm.2.2 0) 15) ≤ x := bI_n0.mp b5
    refine And.intro (show Pre_X11_refuse mm [vR 11 0, vI 1] from ⟨_, rfl⟩) ?_
    show ((some (vI (-1)) : Option MV), stC mm 1) = _
    show _ = cl_says mm x y
    unfold cl_says
    (try simp only [if_pos b5])
    all_goals exact rfl
  · -- 5: bI (x < 0 ∨ (mm.1 6 (mm.2.2 0) 15) ≤ x) = 0 on
    replace b5 : ¬ (x < 0 ∨ (mm.1 6 (mm.2.2 0) 15) ≤ x) := bI_0.mp b5
    obtain ⟨i, hi, ex⟩ := ou_in hT (by omega) b5
    refine And.intro (show Pre_X11_isOut mm [vI y, vI (mm.1 6 (mm.2.2 0) 14)] from ⟨_, _, rfl⟩) ?_
    refine br_c (fun b11 => ?_) (fun b11 => ?_)
    · -- 11: bI (y < 0 ∨ (mm.1 6 (mm.2.2 0) 14) ≤ y) = 0 taken
      replace b11 : ¬ (y < 0 ∨ (mm.1 6 (mm.2.2 0) 14) ≤ y) := bI_0.mp b11
      obtain ⟨j, hj, ey⟩ := ou_in hN (by omega) b11
      refine And.intro (show Pre_X6_word mm [vR 6 (mm.2.2 0), vI x, vI y] from ⟨_, i, j, by omega, by omega, by rw [ex, ey]⟩) ?_
      refine And.intro (show Pre_X11_answer mm [vR 11 0, vI (abV mm (mm.2.2 0) (80 + 4 * x.toNatClampNeg + y.toNatClampNeg))] from ⟨_, rfl⟩) ?_
      show ((some (vI (abV mm (mm.2.2 0) (80 + 4 * x.toNatClampNeg + y.toNatClampNeg))) : Option MV), stC mm 0) = _
      show _ = cl_says mm x y
      unfold cl_says
      (try simp only [if_neg b5, if_neg b11])
      all_goals exact rfl
    · -- 11: bI (y < 0 ∨ (mm.1 6 (mm.2.2 0) 14) ≤ y) = 0 on
      replace b11 : y < 0 ∨ (mm.1 6 (mm.2.2 0) 14) ≤ y := bI_n0.mp b11
      refine And.intro (show Pre_X11_refuse mm [vR 11 0, vI 1] from ⟨_, rfl⟩) ?_
      show ((some (vI (-1)) : Option MV), stC mm 1) = _
      show _ = cl_says mm x y
      unfold cl_says
      (try simp only [if_neg b5, if_pos b11])
      all_goals exact rfl
theorem con_X11_says (l : Launch) : CON l y_X11_says prog_1_method_17_code 3 (some .int) rm_X11_says Pre_X11_says Fn_X11_says := CON_of (by decide) rfl rfl (sa_X11_says l) vc_X11_says
def cl_ends (m : MM) (x w : Int32) : Option MV × MM := if x < 0 ∨ m.1 6 (m.2.2 0) 13 ≤ x then rfC m 1 else if w < 0 then rfC m 1 else if w ≤ 1 then (if w = 0 then gvC m (fiC (abV m (m.2.2 0)) (thA (abV m (m.2.2 0)) x &&& m.1 1 (m.2.2 0) 5) (m.1 6 (m.2.2 0) 15).toNatClampNeg) else gvC m (laC (abV m (m.2.2 0)) (thA (abV m (m.2.2 0)) x &&& m.1 1 (m.2.2 0) 5) (m.1 6 (m.2.2 0) 15).toNatClampNeg)) else rfC m 1

def Pre_X11_ends : PreT := fun m as => VNx m ∧ ∃ x w : Int32, as = [vR 11 0, vI x, vI w]
def Fn_X11_ends : FnT := fun m as => match as with
  | [_, Sum.inl x, Sum.inl w] => cl_ends m x w
  | _ => (none, m)
abbrev y_X11_ends : MethodName := ⟨"GivenUp", "ends", "(II)I"⟩
def P_X11_ends : List StpT := [s_iload 1, s_aload 0, s_getD 11 12 6 0, s_getI 6 13, s_callS 2 Pre_X11_isOut Fn_X11_isOut, s_ifne 11, s_iload 2, s_iflt 11, s_iload 2, s_ic (1), s_icle 15, s_aload 0, s_ic (1), s_callV 11 1 Pre_X11_refuse Fn_X11_refuse, s_iret, s_aload 0, s_getD 11 12 6 0, s_iload 1, s_callV 6 1 Pre_X6_goods Fn_X6_goods, s_aload 0, s_getD 11 12 6 0, s_getR 6 11 1, s_getI 1 5, s_iand, s_istore 3, s_aload 0, s_iload 2, s_ifne 33, s_aload 0, s_getD 11 12 6 0, s_iload 3, s_callV 6 1 Pre_X6_firsts Fn_X6_firsts, s_goto 37, s_aload 0, s_getD 11 12 6 0, s_iload 3, s_callV 6 1 Pre_X6_lasts Fn_X6_lasts, s_callV 11 1 Pre_X11_answer Fn_X11_answer, s_iret]
def pc_X11_ends : Nat → Nat := fun i => [0, 1, 2, 5, 8, 11, 14, 15, 18, 19, 20, 23, 24, 25, 28, 29, 30, 33, 34, 37, 38, 41, 44, 47, 48, 49, 50, 51, 54, 55, 58, 59, 62, 65, 66, 69, 70, 73, 76].getD i 0
def dl_X11_ends : List (Nat × Instr × Nat) := [(0, .iload_n 1, 1), (1, .aload_n 0, 1), (2, .getfield 87, 3), (5, .getfield 197, 3), (8, .invokestatic 115, 3), (11, .ifCond .ne 12, 3), (14, .iload_n 2, 1), (15, .ifCond .lt 8, 3), (18, .iload_n 2, 1), (19, .iconst 1, 1), (20, .if_icmp .le 9, 3), (23, .aload_n 0, 1), (24, .iconst 1, 1), (25, .invokevirtual 139, 3), (28, .ireturn, 1), (29, .aload_n 0, 1), (30, .getfield 87, 3), (33, .iload_n 1, 1), (34, .invokevirtual 252, 3), (37, .aload_n 0, 1), (38, .getfield 87, 3), (41, .getfield 212, 3), (44, .getfield 225, 3), (47, .iand, 1), (48, .istore_n 3, 1), (49, .aload_n 0, 1), (50, .iload_n 2, 1), (51, .ifCond .ne 14, 3), (54, .aload_n 0, 1), (55, .getfield 87, 3), (58, .iload_n 3, 1), (59, .invokevirtual 424, 3), (62, .goto 11, 3), (65, .aload_n 0, 1), (66, .getfield 87, 3), (69, .iload_n 3, 1), (70, .invokevirtual 427, 3), (73, .invokevirtual 178, 3), (76, .ireturn, 1)]
theorem dc_X11_ends : DEC prog_1_method_53_code pc_X11_ends dl_X11_ends := DEC_of (by decide +kernel)
abbrev rm_X11_ends : Room := { frames := 2, cells := 0, slots := 0, locals := 44 }
set_option maxRecDepth 20000 in
theorem sa_X11_ends (l : Launch) : SNDALL l prog_1_method_53_code "GivenUp" 4 (some .int) rm_X11_ends P_X11_ends pc_X11_ends := fun p e s m args below meth c cells slots Q D dA ad A RR hC hR => by
  have hM := RTX_room (R := rm_X11_ends) hR
  exact ⟨st_iload_n hC (n := 0) (k := 1) (dc_X11_ends 0 (0, .iload_n 1, 1) rfl rfl) rfl rfl,
    st_aload_n hC (n := 1) (k := 0) (dc_X11_ends 1 (1, .aload_n 0, 1) rfl rfl) rfl rfl,
    st_getD hC (n := 2) (k := 11) (j := 12) (dc_X11_ends 2 (2, .getfield 87, 3) rfl rfl) rfl clf_11 (by decide) rfl (by decide) wd_723,
    st_getI hC (n := 3) (k := 6) (j := 13) (dc_X11_ends 3 (5, .getfield 197, 3) rfl rfl) rfl clf_6 (by decide) rfl wd_622,
    st_callS hC (n := 4) (na := 2) (con_X11_isOut l) (dc_X11_ends 4 (8, .invokestatic 115, 3) rfl rfl) rfl wd_790 wd_143 (by decide) ⟨rfl, rfl, by decide, by decide⟩ hM wd_788 wd_789,
    st_ifne hC (n := 5) (dc_X11_ends 5 (11, .ifCond .ne 12, 3) rfl rfl) rfl (by decide),
    st_iload_n hC (n := 6) (k := 2) (dc_X11_ends 6 (14, .iload_n 2, 1) rfl rfl) rfl rfl,
    st_iflt hC (n := 7) (dc_X11_ends 7 (15, .ifCond .lt 8, 3) rfl rfl) rfl (by decide),
    st_iload_n hC (n := 8) (k := 2) (dc_X11_ends 8 (18, .iload_n 2, 1) rfl rfl) rfl rfl,
    st_iconst hC (n := 9) (x := 1) (dc_X11_ends 9 (19, .iconst 1, 1) rfl rfl) rfl (by decide),
    st_icle hC (n := 10) (dc_X11_ends 10 (20, .if_icmp .le 9, 3) rfl rfl) rfl (by decide),
    st_aload_n hC (n := 11) (k := 0) (dc_X11_ends 11 (23, .aload_n 0, 1) rfl rfl) rfl rfl,
    st_iconst hC (n := 12) (x := 1) (dc_X11_ends 12 (24, .iconst 1, 1) rfl rfl) rfl (by decide),
    st_callV hC (n := 13) (k := 11) (na := 1) (con_X11_refuse l) (dc_X11_ends 13 (25, .invokevirtual 139, 3) rfl rfl) rfl wd_824 wd_143 (by decide) ⟨rfl, rfl, by decide, by decide⟩ hM wd_821 wd_823 wd_3 clf_11,
    st_iret hC (n := 14) hR (dc_X11_ends 14 (28, .ireturn, 1) rfl rfl),
    st_aload_n hC (n := 15) (k := 0) (dc_X11_ends 15 (29, .aload_n 0, 1) rfl rfl) rfl rfl,
    st_getD hC (n := 16) (k := 11) (j := 12) (dc_X11_ends 16 (30, .getfield 87, 3) rfl rfl) rfl clf_11 (by decide) rfl (by decide) wd_723,
    st_iload_n hC (n := 17) (k := 1) (dc_X11_ends 17 (33, .iload_n 1, 1) rfl rfl) rfl rfl,
    st_callV hC (n := 18) (k := 6) (na := 1) (con_X6_goods l) (dc_X11_ends 18 (34, .invokevirtual 252, 3) rfl rfl) rfl wd_1035 wd_155 (by decide) ⟨rfl, rfl, by decide, by decide⟩ hM wd_1048 wd_1033 wd_1034 clf_6,
    st_aload_n hC (n := 19) (k := 0) (dc_X11_ends 19 (37, .aload_n 0, 1) rfl rfl) rfl rfl,
    st_getD hC (n := 20) (k := 11) (j := 12) (dc_X11_ends 20 (38, .getfield 87, 3) rfl rfl) rfl clf_11 (by decide) rfl (by decide) wd_723,
    st_getR hC (n := 21) (k := 6) (j := 11) (dc_X11_ends 21 (41, .getfield 212, 3) rfl rfl) rfl clf_6 (by decide) rfl (by decide) wd_613,
    st_getI hC (n := 22) (k := 1) (j := 5) (dc_X11_ends 22 (44, .getfield 225, 3) rfl rfl) rfl clf_1 (by decide) rfl wd_484,
    st_iand hC (n := 23) (dc_X11_ends 23 (47, .iand, 1) rfl rfl) rfl,
    st_istore_n hC (n := 24) (k := 3) (dc_X11_ends 24 (48, .istore_n 3, 1) rfl rfl) rfl rfl (by decide),
    st_aload_n hC (n := 25) (k := 0) (dc_X11_ends 25 (49, .aload_n 0, 1) rfl rfl) rfl rfl,
    st_iload_n hC (n := 26) (k := 2) (dc_X11_ends 26 (50, .iload_n 2, 1) rfl rfl) rfl rfl,
    st_ifne hC (n := 27) (dc_X11_ends 27 (51, .ifCond .ne 14, 3) rfl rfl) rfl (by decide),
    st_aload_n hC (n := 28) (k := 0) (dc_X11_ends 28 (54, .aload_n 0, 1) rfl rfl) rfl rfl,
    st_getD hC (n := 29) (k := 11) (j := 12) (dc_X11_ends 29 (55, .getfield 87, 3) rfl rfl) rfl clf_11 (by decide) rfl (by decide) wd_723,
    st_iload_n hC (n := 30) (k := 3) (dc_X11_ends 30 (58, .iload_n 3, 1) rfl rfl) rfl rfl,
    st_callV hC (n := 31) (k := 6) (na := 1) (con_X6_firsts l) (dc_X11_ends 31 (59, .invokevirtual 424, 3) rfl rfl) rfl wd_1441 wd_155 (by decide) ⟨rfl, rfl, by decide, by decide⟩ hM wd_1438 wd_1439 wd_1440 clf_6,
    st_goto hC (n := 32) (dc_X11_ends 32 (62, .goto 11, 3) rfl rfl) (by decide),
    st_aload_n hC (n := 33) (k := 0) (dc_X11_ends 33 (65, .aload_n 0, 1) rfl rfl) rfl rfl,
    st_getD hC (n := 34) (k := 11) (j := 12) (dc_X11_ends 34 (66, .getfield 87, 3) rfl rfl) rfl clf_11 (by decide) rfl (by decide) wd_723,
    st_iload_n hC (n := 35) (k := 3) (dc_X11_ends 35 (69, .iload_n 3, 1) rfl rfl) rfl rfl,
    st_callV hC (n := 36) (k := 6) (na := 1) (con_X6_lasts l) (dc_X11_ends 36 (70, .invokevirtual 427, 3) rfl rfl) rfl wd_1445 wd_155 (by decide) ⟨rfl, rfl, by decide, by decide⟩ hM wd_1442 wd_1443 wd_1444 clf_6,
    st_callV hC (n := 37) (k := 11) (na := 1) (con_X11_answer l) (dc_X11_ends 37 (73, .invokevirtual 178, 3) rfl rfl) rfl wd_967 wd_143 (by decide) ⟨rfl, rfl, by decide, by decide⟩ hM wd_964 wd_966 wd_17 clf_11,
    st_iret hC (n := 38) hR (dc_X11_ends 38 (76, .ireturn, 1) rfl rfl), trivial⟩
set_option maxRecDepth 8000 in
theorem vc_X11_ends : VC P_X11_ends 4 Pre_X11_ends Fn_X11_ends := by
  rintro mm as hom hoa ⟨⟨ns, nm, nt, hV⟩, x, w, rfl⟩
  refine ⟨Nat.le_of_ble_eq_true rfl, fun X h => ?_⟩
  show X 0 [some (vR 11 0), some (vI x), some (vI w), none] [] mm
  refine h (fun _ => false) 3000 0 _ _ _ ?_
  refine And.intro (show Pre_X11_isOut mm [vI x, vI (mm.1 6 (mm.2.2 0) 13)] from ⟨_, _, rfl⟩) ?_
  refine brn_c (fun b5 => ?_) (fun b5 => ?_)
  · -- 5: bI (x < 0 ∨ (mm.1 6 (mm.2.2 0) 13) ≤ x) = 0 taken
    replace b5 : x < 0 ∨ (mm.1 6 (mm.2.2 0) 13) ≤ x := bI_n0.mp b5
    refine And.intro (show Pre_X11_refuse mm [vR 11 0, vI 1] from ⟨_, rfl⟩) ?_
    show ((some (vI (-1)) : Option MV), stC mm 1) = _
    show _ = cl_ends mm x w
    unfold cl_ends
    (try simp only [if_pos b5])
    all_goals exact rfl
  · -- 5: bI (x < 0 ∨ (mm.1 6 (mm.2.2 0) 13) ≤ x) = 0 on
    replace b5 : ¬ (x < 0 ∨ (mm.1 6 (mm.2.2 0) 13) ≤ x) := bI_0.mp b5
    refine br_c (fun b7 => ?_) (fun b7 => ?_)
    · -- 7: w < 0 taken
      replace b7 : w < 0 := b7
      refine And.intro (show Pre_X11_refuse mm [vR 11 0, vI 1] from ⟨_, rfl⟩) ?_
      show ((some (vI (-1)) : Option MV), stC mm 1) = _
      show _ = cl_ends mm x w
      unfold cl_ends
      (try simp only [if_neg b5, if_pos b7])
      all_goals exact rfl
    · -- 7: w < 0 on
      replace b7 : ¬ (w < 0) := b7
      refine br_c (fun b10 => ?_) (fun b10 => ?_)
      · -- 10: w ≤ 1 taken
        replace b10 : w ≤ 1 := b10
        refine And.intro (show Pre_X6_goods mm [vR 6 (mm.2.2 0), vI x] from ⟨_, ns, nm, nt, hV, _, rfl⟩) ?_
        refine brn_c (fun b27 => ?_) (fun b27 => ?_)
        · -- 27: w = 0 taken
          replace b27 : ¬ (w = 0) := b27
          refine And.intro (show Pre_X6_lasts mm [vR 6 (mm.2.2 0), vI ((thA (abV mm (mm.2.2 0)) x) &&& (mm.1 1 (mm.2.2 0) 5))] from ⟨_, ns, nm, nt, hV, _, rfl⟩) ?_
          refine And.intro (show Pre_X11_answer mm [vR 11 0, vI (laC (abV mm (mm.2.2 0)) ((thA (abV mm (mm.2.2 0)) x) &&& (mm.1 1 (mm.2.2 0) 5)) (mm.1 6 (mm.2.2 0) 15).toNatClampNeg)] from ⟨_, rfl⟩) ?_
          show ((some (vI (laC (abV mm (mm.2.2 0)) ((thA (abV mm (mm.2.2 0)) x) &&& (mm.1 1 (mm.2.2 0) 5)) (mm.1 6 (mm.2.2 0) 15).toNatClampNeg)) : Option MV), stC mm 0) = _
          show _ = cl_ends mm x w
          unfold cl_ends
          (try simp only [if_neg b5, if_neg b7, if_pos b10, if_neg b27])
          all_goals exact rfl
        · -- 27: w = 0 on
          replace b27 : w = 0 := b27
          refine And.intro (show Pre_X6_firsts mm [vR 6 (mm.2.2 0), vI ((thA (abV mm (mm.2.2 0)) x) &&& (mm.1 1 (mm.2.2 0) 5))] from ⟨_, ns, nm, nt, hV, _, rfl⟩) ?_
          refine And.intro (show Pre_X11_answer mm [vR 11 0, vI (fiC (abV mm (mm.2.2 0)) ((thA (abV mm (mm.2.2 0)) x) &&& (mm.1 1 (mm.2.2 0) 5)) (mm.1 6 (mm.2.2 0) 15).toNatClampNeg)] from ⟨_, rfl⟩) ?_
          show ((some (vI (fiC (abV mm (mm.2.2 0)) ((thA (abV mm (mm.2.2 0)) x) &&& (mm.1 1 (mm.2.2 0) 5)) (mm.1 6 (mm.2.2 0) 15).toNatClampNeg)) : Option MV), stC mm 0) = _
          show _ = cl_ends mm x w
          unfold cl_ends
          (try simp only [if_neg b5, if_neg b7, if_pos b10, if_pos b27])
          all_goals exact rfl
      · -- 10: w ≤ 1 on
        replace b10 : ¬ (w ≤ 1) := b10
        refine And.intro (show Pre_X11_refuse mm [vR 11 0, vI 1] from ⟨_, rfl⟩) ?_
        show ((some (vI (-1)) : Option MV), stC mm 1) = _
        show _ = cl_ends mm x w
        unfold cl_ends
        (try simp only [if_neg b5, if_neg b7, if_neg b10])
        all_goals exact rfl
theorem con_X11_ends (l : Launch) : CON l y_X11_ends prog_1_method_53_code 4 (some .int) rm_X11_ends Pre_X11_ends Fn_X11_ends := CON_of (by decide) rfl rfl (sa_X11_ends l) vc_X11_ends
def cl_lies (m : MM) (x y w : Int32) : Option MV × MM := if npC m x y then rfC m 1 else if w < 0 then rfC m 1 else if w ≤ 1 then (if w = 0 then gvC m (nI (pcN (thA (abV m (m.2.2 0)) x &&& m.1 1 (m.2.2 0) 6).toNatClampNeg)) else gvC m (syA (abV m (m.2.2 0)) (thA (abV m (m.2.2 0)) x &&& m.1 1 (m.2.2 0) 6) y.toNatClampNeg)) else rfC m 1

def Pre_X11_lies : PreT := fun m as => VNx m ∧ ∃ x y w : Int32, as = [vR 11 0, vI x, vI y, vI w]
def Fn_X11_lies : FnT := fun m as => match as with
  | [_, Sum.inl x, Sum.inl y, Sum.inl w] => cl_lies m x y w
  | _ => (none, m)
abbrev y_X11_lies : MethodName := ⟨"GivenUp", "lies", "(III)I"⟩
def P_X11_lies : List StpT := [s_aload 0, s_iload 1, s_iload 2, s_callV 11 2 Pre_X11_isNoPair Fn_X11_isNoPair, s_ifne 10, s_iload 3, s_iflt 10, s_iload 3, s_ic (1), s_icle 14, s_aload 0, s_ic (1), s_callV 11 1 Pre_X11_refuse Fn_X11_refuse, s_iret, s_aload 0, s_getD 11 12 6 0, s_iload 1, s_callV 6 1 Pre_X6_goods Fn_X6_goods, s_aload 0, s_getD 11 12 6 0, s_getR 6 11 1, s_getI 1 6, s_iand, s_istore 4, s_aload 0, s_iload 3, s_ifne 30, s_iload 4, s_callS 1 Pre_J6_bitCount_0f7a4 Fn_J6_bitCount_0f7a4, s_goto 35, s_aload 0, s_getD 11 12 6 0, s_iload 4, s_iload 2, s_callV 6 2 Pre_X6_saying Fn_X6_saying, s_callV 11 1 Pre_X11_answer Fn_X11_answer, s_iret]
def pc_X11_lies : Nat → Nat := fun i => [0, 1, 2, 3, 6, 9, 10, 13, 14, 15, 18, 19, 20, 23, 24, 25, 28, 29, 32, 33, 36, 39, 42, 43, 45, 46, 47, 50, 52, 55, 58, 59, 62, 64, 65, 68, 71].getD i 0
def dl_X11_lies : List (Nat × Instr × Nat) := [(0, .aload_n 0, 1), (1, .iload_n 1, 1), (2, .iload_n 2, 1), (3, .invokevirtual 288, 3), (6, .ifCond .ne 12, 3), (9, .iload_n 3, 1), (10, .ifCond .lt 8, 3), (13, .iload_n 3, 1), (14, .iconst 1, 1), (15, .if_icmp .le 9, 3), (18, .aload_n 0, 1), (19, .iconst 1, 1), (20, .invokevirtual 139, 3), (23, .ireturn, 1), (24, .aload_n 0, 1), (25, .getfield 87, 3), (28, .iload_n 1, 1), (29, .invokevirtual 252, 3), (32, .aload_n 0, 1), (33, .getfield 87, 3), (36, .getfield 212, 3), (39, .getfield 228, 3), (42, .iand, 1), (43, .istore 4, 2), (45, .aload_n 0, 1), (46, .iload_n 3, 1), (47, .ifCond .ne 11, 3), (50, .iload 4, 2), (52, .invokestatic 436, 3), (55, .goto 13, 3), (58, .aload_n 0, 1), (59, .getfield 87, 3), (62, .iload 4, 2), (64, .iload_n 2, 1), (65, .invokevirtual 339, 3), (68, .invokevirtual 178, 3), (71, .ireturn, 1)]
theorem dc_X11_lies : DEC prog_1_method_57_code pc_X11_lies dl_X11_lies := DEC_of (by decide +kernel)
abbrev rm_X11_lies : Room := { frames := 2, cells := 0, slots := 0, locals := 43 }
set_option maxRecDepth 20000 in
theorem sa_X11_lies (l : Launch) : SNDALL l prog_1_method_57_code "GivenUp" 5 (some .int) rm_X11_lies P_X11_lies pc_X11_lies := fun p e s m args below meth c cells slots Q D dA ad A RR hC hR => by
  have hM := RTX_room (R := rm_X11_lies) hR
  exact ⟨st_aload_n hC (n := 0) (k := 0) (dc_X11_lies 0 (0, .aload_n 0, 1) rfl rfl) rfl rfl,
    st_iload_n hC (n := 1) (k := 1) (dc_X11_lies 1 (1, .iload_n 1, 1) rfl rfl) rfl rfl,
    st_iload_n hC (n := 2) (k := 2) (dc_X11_lies 2 (2, .iload_n 2, 1) rfl rfl) rfl rfl,
    st_callV hC (n := 3) (k := 11) (na := 2) (con_X11_isNoPair l) (dc_X11_lies 3 (3, .invokevirtual 288, 3) rfl rfl) rfl wd_1090 wd_143 (by decide) ⟨rfl, rfl, by decide, by decide⟩ hM wd_1087 wd_1089 wd_24 clf_11,
    st_ifne hC (n := 4) (dc_X11_lies 4 (6, .ifCond .ne 12, 3) rfl rfl) rfl (by decide),
    st_iload_n hC (n := 5) (k := 3) (dc_X11_lies 5 (9, .iload_n 3, 1) rfl rfl) rfl rfl,
    st_iflt hC (n := 6) (dc_X11_lies 6 (10, .ifCond .lt 8, 3) rfl rfl) rfl (by decide),
    st_iload_n hC (n := 7) (k := 3) (dc_X11_lies 7 (13, .iload_n 3, 1) rfl rfl) rfl rfl,
    st_iconst hC (n := 8) (x := 1) (dc_X11_lies 8 (14, .iconst 1, 1) rfl rfl) rfl (by decide),
    st_icle hC (n := 9) (dc_X11_lies 9 (15, .if_icmp .le 9, 3) rfl rfl) rfl (by decide),
    st_aload_n hC (n := 10) (k := 0) (dc_X11_lies 10 (18, .aload_n 0, 1) rfl rfl) rfl rfl,
    st_iconst hC (n := 11) (x := 1) (dc_X11_lies 11 (19, .iconst 1, 1) rfl rfl) rfl (by decide),
    st_callV hC (n := 12) (k := 11) (na := 1) (con_X11_refuse l) (dc_X11_lies 12 (20, .invokevirtual 139, 3) rfl rfl) rfl wd_824 wd_143 (by decide) ⟨rfl, rfl, by decide, by decide⟩ hM wd_821 wd_823 wd_3 clf_11,
    st_iret hC (n := 13) hR (dc_X11_lies 13 (23, .ireturn, 1) rfl rfl),
    st_aload_n hC (n := 14) (k := 0) (dc_X11_lies 14 (24, .aload_n 0, 1) rfl rfl) rfl rfl,
    st_getD hC (n := 15) (k := 11) (j := 12) (dc_X11_lies 15 (25, .getfield 87, 3) rfl rfl) rfl clf_11 (by decide) rfl (by decide) wd_723,
    st_iload_n hC (n := 16) (k := 1) (dc_X11_lies 16 (28, .iload_n 1, 1) rfl rfl) rfl rfl,
    st_callV hC (n := 17) (k := 6) (na := 1) (con_X6_goods l) (dc_X11_lies 17 (29, .invokevirtual 252, 3) rfl rfl) rfl wd_1035 wd_155 (by decide) ⟨rfl, rfl, by decide, by decide⟩ hM wd_1048 wd_1033 wd_1034 clf_6,
    st_aload_n hC (n := 18) (k := 0) (dc_X11_lies 18 (32, .aload_n 0, 1) rfl rfl) rfl rfl,
    st_getD hC (n := 19) (k := 11) (j := 12) (dc_X11_lies 19 (33, .getfield 87, 3) rfl rfl) rfl clf_11 (by decide) rfl (by decide) wd_723,
    st_getR hC (n := 20) (k := 6) (j := 11) (dc_X11_lies 20 (36, .getfield 212, 3) rfl rfl) rfl clf_6 (by decide) rfl (by decide) wd_613,
    st_getI hC (n := 21) (k := 1) (j := 6) (dc_X11_lies 21 (39, .getfield 228, 3) rfl rfl) rfl clf_1 (by decide) rfl wd_487,
    st_iand hC (n := 22) (dc_X11_lies 22 (42, .iand, 1) rfl rfl) rfl,
    st_istore hC (n := 23) (dc_X11_lies 23 (43, .istore 4, 2) rfl rfl) rfl (by decide),
    st_aload_n hC (n := 24) (k := 0) (dc_X11_lies 24 (45, .aload_n 0, 1) rfl rfl) rfl rfl,
    st_iload_n hC (n := 25) (k := 3) (dc_X11_lies 25 (46, .iload_n 3, 1) rfl rfl) rfl rfl,
    st_ifne hC (n := 26) (dc_X11_lies 26 (47, .ifCond .ne 11, 3) rfl rfl) rfl (by decide),
    st_iload hC (n := 27) (dc_X11_lies 27 (50, .iload 4, 2) rfl rfl) rfl,
    st_callS hC (n := 28) (na := 1) (con_J6_bitCount_0f7a4 l) (dc_X11_lies 28 (52, .invokestatic 436, 3) rfl rfl) rfl wd_1071 wd_163 (by decide) ⟨rfl, rfl, by decide, by decide⟩ hM wd_1462 wd_1070,
    st_goto hC (n := 29) (dc_X11_lies 29 (55, .goto 13, 3) rfl rfl) (by decide),
    st_aload_n hC (n := 30) (k := 0) (dc_X11_lies 30 (58, .aload_n 0, 1) rfl rfl) rfl rfl,
    st_getD hC (n := 31) (k := 11) (j := 12) (dc_X11_lies 31 (59, .getfield 87, 3) rfl rfl) rfl clf_11 (by decide) rfl (by decide) wd_723,
    st_iload hC (n := 32) (dc_X11_lies 32 (62, .iload 4, 2) rfl rfl) rfl,
    st_iload_n hC (n := 33) (k := 2) (dc_X11_lies 33 (64, .iload_n 2, 1) rfl rfl) rfl rfl,
    st_callV hC (n := 34) (k := 6) (na := 2) (con_X6_saying l) (dc_X11_lies 34 (65, .invokevirtual 339, 3) rfl rfl) rfl wd_1147 wd_155 (by decide) ⟨rfl, rfl, by decide, by decide⟩ hM wd_1245 wd_1145 wd_1146 clf_6,
    st_callV hC (n := 35) (k := 11) (na := 1) (con_X11_answer l) (dc_X11_lies 35 (68, .invokevirtual 178, 3) rfl rfl) rfl wd_967 wd_143 (by decide) ⟨rfl, rfl, by decide, by decide⟩ hM wd_964 wd_966 wd_17 clf_11,
    st_iret hC (n := 36) hR (dc_X11_lies 36 (71, .ireturn, 1) rfl rfl), trivial⟩
set_option maxRecDepth 8000 in
theorem vc_X11_lies : VC P_X11_lies 5 Pre_X11_lies Fn_X11_lies := by
  rintro mm as hom hoa ⟨⟨ns, nm, nt, hV⟩, x, y, w, rfl⟩
  refine ⟨Nat.le_of_ble_eq_true rfl, fun X h => ?_⟩
  have hS : mm.1 6 (mm.2.2 0) 13 = nI ns := hV.1.1.1
  have hn4 : ns ≤ 4 := hV.1.1.2
  have hN : mm.1 6 (mm.2.2 0) 14 = nI nm := hV.1.2.1.1
  have hm4 : nm ≤ 4 := hV.1.2.1.2
  have hT : mm.1 6 (mm.2.2 0) 15 = nI nt := hV.1.2.2.1.1
  have ht12 : nt ≤ 12 := hV.1.2.2.1.2
  show X 0 [some (vR 11 0), some (vI x), some (vI y), some (vI w), none] [] mm
  refine h (fun _ => false) 3000 0 _ _ _ ?_
  refine And.intro (show Pre_X11_isNoPair mm [vR 11 0, vI x, vI y] from ⟨_, _, rfl⟩) ?_
  refine brn_c (fun b4 => ?_) (fun b4 => ?_)
  · -- 4: bI (npC mm x y) = 0 taken
    replace b4 : npC mm x y := bI_n0.mp b4
    refine And.intro (show Pre_X11_refuse mm [vR 11 0, vI 1] from ⟨_, rfl⟩) ?_
    show ((some (vI (-1)) : Option MV), stC mm 1) = _
    show _ = cl_lies mm x y w
    unfold cl_lies
    (try simp only [if_pos b4])
    all_goals exact rfl
  · -- 4: bI (npC mm x y) = 0 on
    replace b4 : ¬ (npC mm x y) := bI_0.mp b4
    obtain ⟨j, hj, ey⟩ := ou_in hN (by omega) (fun z => b4 (Or.inr z))
    refine br_c (fun b6 => ?_) (fun b6 => ?_)
    · -- 6: w < 0 taken
      replace b6 : w < 0 := b6
      refine And.intro (show Pre_X11_refuse mm [vR 11 0, vI 1] from ⟨_, rfl⟩) ?_
      show ((some (vI (-1)) : Option MV), stC mm 1) = _
      show _ = cl_lies mm x y w
      unfold cl_lies
      (try simp only [if_neg b4, if_pos b6])
      all_goals exact rfl
    · -- 6: w < 0 on
      replace b6 : ¬ (w < 0) := b6
      refine br_c (fun b9 => ?_) (fun b9 => ?_)
      · -- 9: w ≤ 1 taken
        replace b9 : w ≤ 1 := b9
        refine And.intro (show Pre_X6_goods mm [vR 6 (mm.2.2 0), vI x] from ⟨_, ns, nm, nt, hV, _, rfl⟩) ?_
        refine brn_c (fun b26 => ?_) (fun b26 => ?_)
        · -- 26: w = 0 taken
          replace b26 : ¬ (w = 0) := b26
          refine And.intro (show Pre_X6_saying mm [vR 6 (mm.2.2 0), vI ((thA (abV mm (mm.2.2 0)) x) &&& (mm.1 1 (mm.2.2 0) 6)), vI y] from ⟨_, ns, nm, nt, j, hV, by omega, _, by rw [ey]⟩) ?_
          refine And.intro (show Pre_X11_answer mm [vR 11 0, vI (syA (abV mm (mm.2.2 0)) ((thA (abV mm (mm.2.2 0)) x) &&& (mm.1 1 (mm.2.2 0) 6)) y.toNatClampNeg)] from ⟨_, rfl⟩) ?_
          show ((some (vI (syA (abV mm (mm.2.2 0)) ((thA (abV mm (mm.2.2 0)) x) &&& (mm.1 1 (mm.2.2 0) 6)) y.toNatClampNeg)) : Option MV), stC mm 0) = _
          show _ = cl_lies mm x y w
          unfold cl_lies
          (try simp only [if_neg b4, if_neg b6, if_pos b9, if_neg b26])
          all_goals exact rfl
        · -- 26: w = 0 on
          replace b26 : w = 0 := b26
          refine And.intro (show Pre_J6_bitCount_0f7a4 mm [vI ((thA (abV mm (mm.2.2 0)) x) &&& (mm.1 1 (mm.2.2 0) 6))] from (by obtain ⟨W, hW, eW⟩ := th_and hV.1 x (mm.1 1 (mm.2.2 0) 6); exact ⟨W, hW, by rw [eW]⟩)) ?_
          refine And.intro (show Pre_X11_answer mm [vR 11 0, vI (nI (pcN ((thA (abV mm (mm.2.2 0)) x) &&& (mm.1 1 (mm.2.2 0) 6)).toNatClampNeg))] from ⟨_, rfl⟩) ?_
          show ((some (vI (nI (pcN ((thA (abV mm (mm.2.2 0)) x) &&& (mm.1 1 (mm.2.2 0) 6)).toNatClampNeg))) : Option MV), stC mm 0) = _
          show _ = cl_lies mm x y w
          unfold cl_lies
          (try simp only [if_neg b4, if_neg b6, if_pos b9, if_pos b26])
          all_goals exact rfl
      · -- 9: w ≤ 1 on
        replace b9 : ¬ (w ≤ 1) := b9
        refine And.intro (show Pre_X11_refuse mm [vR 11 0, vI 1] from ⟨_, rfl⟩) ?_
        show ((some (vI (-1)) : Option MV), stC mm 1) = _
        show _ = cl_lies mm x y w
        unfold cl_lies
        (try simp only [if_neg b4, if_neg b6, if_neg b9])
        all_goals exact rfl
theorem con_X11_lies (l : Launch) : CON l y_X11_lies prog_1_method_57_code 5 (some .int) rm_X11_lies Pre_X11_lies Fn_X11_lies := CON_of (by decide) rfl rfl (sa_X11_lies l) vc_X11_lies
def cl_like (m : MM) (x y w : Int32) : Option MV × MM := if npC m x y then dnC m 1 else if w < 0 then dnC m 1 else if w ≤ 99 then alC (mRow m 31 (m.2.2 0) (upd (m.1 31 (m.2.2 0)) (x * 4 + y).toNatClampNeg w)) else dnC m 1

def Pre_X11_like : PreT := fun m as => VNx m ∧ ∃ x y w : Int32, as = [vR 11 0, vI x, vI y, vI w]
def Fn_X11_like : FnT := fun m as => match as with
  | [_, Sum.inl x, Sum.inl y, Sum.inl w] => cl_like m x y w
  | _ => (none, m)
abbrev y_X11_like : MethodName := ⟨"GivenUp", "like", "(III)Z"⟩
def P_X11_like : List StpT := [s_aload 0, s_iload 1, s_iload 2, s_callV 11 2 Pre_X11_isNoPair Fn_X11_isNoPair, s_ifne 10, s_iload 3, s_iflt 10, s_iload 3, s_ic (99), s_icle 14, s_aload 0, s_ic (1), s_callV 11 1 Pre_X11_deny Fn_X11_deny, s_zret, s_aload 0, s_getD 11 12 6 0, s_getR 6 2 31, s_iload 1, s_ic (4), s_imul, s_iload 2, s_iadd, s_iload 3, s_iast, s_aload 0, s_callV 11 0 Pre_X11_allow Fn_X11_allow, s_zret]
def pc_X11_like : Nat → Nat := fun i => [0, 1, 2, 3, 6, 9, 10, 13, 14, 16, 19, 20, 21, 24, 25, 26, 29, 32, 33, 34, 35, 36, 37, 38, 39, 40, 43].getD i 0
def dl_X11_like : List (Nat × Instr × Nat) := [(0, .aload_n 0, 1), (1, .iload_n 1, 1), (2, .iload_n 2, 1), (3, .invokevirtual 288, 3), (6, .ifCond .ne 13, 3), (9, .iload_n 3, 1), (10, .ifCond .lt 9, 3), (13, .iload_n 3, 1), (14, .bipush 99, 2), (16, .if_icmp .le 9, 3), (19, .aload_n 0, 1), (20, .iconst 1, 1), (21, .invokevirtual 119, 3), (24, .ireturn, 1), (25, .aload_n 0, 1), (26, .getfield 87, 3), (29, .getfield 291, 3), (32, .iload_n 1, 1), (33, .iconst 4, 1), (34, .imul, 1), (35, .iload_n 2, 1), (36, .iadd, 1), (37, .iload_n 3, 1), (38, .iastore, 1), (39, .aload_n 0, 1), (40, .invokevirtual 127, 3), (43, .ireturn, 1)]
theorem dc_X11_like : DEC prog_1_method_35_code pc_X11_like dl_X11_like := DEC_of (by decide +kernel)
abbrev rm_X11_like : Room := { frames := 2, cells := 0, slots := 0, locals := 43 }
set_option maxRecDepth 20000 in
theorem sa_X11_like (l : Launch) : SNDALL l prog_1_method_35_code "GivenUp" 4 (some .boolean) rm_X11_like P_X11_like pc_X11_like := fun p e s m args below meth c cells slots Q D dA ad A RR hC hR => by
  have hM := RTX_room (R := rm_X11_like) hR
  exact ⟨st_aload_n hC (n := 0) (k := 0) (dc_X11_like 0 (0, .aload_n 0, 1) rfl rfl) rfl rfl,
    st_iload_n hC (n := 1) (k := 1) (dc_X11_like 1 (1, .iload_n 1, 1) rfl rfl) rfl rfl,
    st_iload_n hC (n := 2) (k := 2) (dc_X11_like 2 (2, .iload_n 2, 1) rfl rfl) rfl rfl,
    st_callV hC (n := 3) (k := 11) (na := 2) (con_X11_isNoPair l) (dc_X11_like 3 (3, .invokevirtual 288, 3) rfl rfl) rfl wd_1090 wd_143 (by decide) ⟨rfl, rfl, by decide, by decide⟩ hM wd_1087 wd_1089 wd_24 clf_11,
    st_ifne hC (n := 4) (dc_X11_like 4 (6, .ifCond .ne 13, 3) rfl rfl) rfl (by decide),
    st_iload_n hC (n := 5) (k := 3) (dc_X11_like 5 (9, .iload_n 3, 1) rfl rfl) rfl rfl,
    st_iflt hC (n := 6) (dc_X11_like 6 (10, .ifCond .lt 9, 3) rfl rfl) rfl (by decide),
    st_iload_n hC (n := 7) (k := 3) (dc_X11_like 7 (13, .iload_n 3, 1) rfl rfl) rfl rfl,
    st_bipush hC (n := 8) (x := 99) (dc_X11_like 8 (14, .bipush 99, 2) rfl rfl) rfl (by decide),
    st_icle hC (n := 9) (dc_X11_like 9 (16, .if_icmp .le 9, 3) rfl rfl) rfl (by decide),
    st_aload_n hC (n := 10) (k := 0) (dc_X11_like 10 (19, .aload_n 0, 1) rfl rfl) rfl rfl,
    st_iconst hC (n := 11) (x := 1) (dc_X11_like 11 (20, .iconst 1, 1) rfl rfl) rfl (by decide),
    st_callV hC (n := 12) (k := 11) (na := 1) (con_X11_deny l) (dc_X11_like 12 (21, .invokevirtual 119, 3) rfl rfl) rfl wd_794 wd_143 (by decide) ⟨rfl, rfl, by decide, by decide⟩ hM wd_791 wd_793 wd_0 clf_11,
    st_zret hC (n := 13) hR (dc_X11_like 13 (24, .ireturn, 1) rfl rfl),
    st_aload_n hC (n := 14) (k := 0) (dc_X11_like 14 (25, .aload_n 0, 1) rfl rfl) rfl rfl,
    st_getD hC (n := 15) (k := 11) (j := 12) (dc_X11_like 15 (26, .getfield 87, 3) rfl rfl) rfl clf_11 (by decide) rfl (by decide) wd_723,
    st_getR hC (n := 16) (k := 6) (j := 2) (dc_X11_like 16 (29, .getfield 291, 3) rfl rfl) rfl clf_6 (by decide) rfl (by decide) wd_584,
    st_iload_n hC (n := 17) (k := 1) (dc_X11_like 17 (32, .iload_n 1, 1) rfl rfl) rfl rfl,
    st_iconst hC (n := 18) (x := 4) (dc_X11_like 18 (33, .iconst 4, 1) rfl rfl) rfl (by decide),
    st_imul hC (n := 19) (dc_X11_like 19 (34, .imul, 1) rfl rfl) rfl,
    st_iload_n hC (n := 20) (k := 2) (dc_X11_like 20 (35, .iload_n 2, 1) rfl rfl) rfl rfl,
    st_iadd hC (n := 21) (dc_X11_like 21 (36, .iadd, 1) rfl rfl) rfl,
    st_iload_n hC (n := 22) (k := 3) (dc_X11_like 22 (37, .iload_n 3, 1) rfl rfl) rfl rfl,
    st_iast hC (n := 23) (dc_X11_like 23 (38, .iastore, 1) rfl rfl) rfl,
    st_aload_n hC (n := 24) (k := 0) (dc_X11_like 24 (39, .aload_n 0, 1) rfl rfl) rfl rfl,
    st_callV hC (n := 25) (k := 11) (na := 0) (con_X11_allow l) (dc_X11_like 25 (40, .invokevirtual 127, 3) rfl rfl) rfl wd_803 wd_143 (by decide) ⟨rfl, rfl, by decide, by decide⟩ hM wd_800 wd_802 wd_1 clf_11,
    st_zret hC (n := 26) hR (dc_X11_like 26 (43, .ireturn, 1) rfl rfl), trivial⟩
set_option maxRecDepth 8000 in
theorem vc_X11_like : VC P_X11_like 4 Pre_X11_like Fn_X11_like := by
  rintro mm as hom hoa ⟨⟨ns, nm, nt, hV⟩, x, y, w, rfl⟩
  refine ⟨Nat.le_of_ble_eq_true rfl, fun X h => ?_⟩
  have hS : mm.1 6 (mm.2.2 0) 13 = nI ns := hV.1.1.1
  have hn4 : ns ≤ 4 := hV.1.1.2
  have hN : mm.1 6 (mm.2.2 0) 14 = nI nm := hV.1.2.1.1
  have hm4 : nm ≤ 4 := hV.1.2.1.2
  have hT : mm.1 6 (mm.2.2 0) 15 = nI nt := hV.1.2.2.1.1
  have ht12 : nt ≤ 12 := hV.1.2.2.1.2
  show X 0 [some (vR 11 0), some (vI x), some (vI y), some (vI w)] [] mm
  refine h (fun _ => false) 3000 0 _ _ _ ?_
  refine And.intro (show Pre_X11_isNoPair mm [vR 11 0, vI x, vI y] from ⟨_, _, rfl⟩) ?_
  refine brn_c (fun b4 => ?_) (fun b4 => ?_)
  · -- 4: bI (npC mm x y) = 0 taken
    replace b4 : npC mm x y := bI_n0.mp b4
    refine And.intro (show Pre_X11_deny mm [vR 11 0, vI 1] from ⟨_, rfl⟩) ?_
    refine And.intro (Or.inl rfl) ?_
    show ((some (vI 0) : Option MV), stC mm 1) = _
    show _ = cl_like mm x y w
    unfold cl_like
    (try simp only [if_pos b4])
    all_goals exact rfl
  · -- 4: bI (npC mm x y) = 0 on
    replace b4 : ¬ (npC mm x y) := bI_0.mp b4
    obtain ⟨i, hi, ex⟩ := ou_in hS (by omega) (fun z => b4 (Or.inl z))
    obtain ⟨j, hj, ey⟩ := ou_in hN (by omega) (fun z => b4 (Or.inr z))
    have x1 : x * 4 + y = nI (4 * i + j) := by rw [ex, ey, show (4 : Int32) = nI 4 from rfl, pk_mul, nI_add, Nat.mul_comm i 4]
    refine br_c (fun b6 => ?_) (fun b6 => ?_)
    · -- 6: w < 0 taken
      replace b6 : w < 0 := b6
      refine And.intro (show Pre_X11_deny mm [vR 11 0, vI 1] from ⟨_, rfl⟩) ?_
      refine And.intro (Or.inl rfl) ?_
      show ((some (vI 0) : Option MV), stC mm 1) = _
      show _ = cl_like mm x y w
      unfold cl_like
      (try simp only [if_neg b4, if_pos b6])
      all_goals exact rfl
    · -- 6: w < 0 on
      replace b6 : ¬ (w < 0) := b6
      refine br_c (fun b9 => ?_) (fun b9 => ?_)
      · -- 9: w ≤ 99 taken
        replace b9 : w ≤ 99 := b9
        refine And.intro (show inb ((x * 4) + y) (alen 31) = true from (inb_o 16 rfl rfl x1 (by omega))) ?_
        refine And.intro (show Pre_X11_allow (mRow mm 31 (mm.2.2 0) (upd (mm.1 31 (mm.2.2 0)) ((x * 4) + y).toNatClampNeg w)) [vR 11 0] from rfl) ?_
        refine And.intro (Or.inr rfl) ?_
        show ((some (vI 1) : Option MV), stC (mRow mm 31 (mm.2.2 0) (upd (mm.1 31 (mm.2.2 0)) ((x * 4) + y).toNatClampNeg w)) 0) = _
        show _ = cl_like mm x y w
        unfold cl_like
        (try simp only [if_neg b4, if_neg b6, if_pos b9])
        all_goals exact rfl
      · -- 9: w ≤ 99 on
        replace b9 : ¬ (w ≤ 99) := b9
        refine And.intro (show Pre_X11_deny mm [vR 11 0, vI 1] from ⟨_, rfl⟩) ?_
        refine And.intro (Or.inl rfl) ?_
        show ((some (vI 0) : Option MV), stC mm 1) = _
        show _ = cl_like mm x y w
        unfold cl_like
        (try simp only [if_neg b4, if_neg b6, if_neg b9])
        all_goals exact rfl
theorem con_X11_like (l : Launch) : CON l y_X11_like prog_1_method_35_code 4 (some .boolean) rm_X11_like Pre_X11_like Fn_X11_like := CON_of (by decide) rfl rfl (sa_X11_like l) vc_X11_like
def cl_bar (m : MM) (x w : Int32) : Option MV × MM := if x < 0 ∨ m.1 6 (m.2.2 0) 14 ≤ x then dnC m 1 else if w < 0 then dnC m 1 else if w ≤ 999 then alC (mRow m 32 (m.2.2 0) (upd (m.1 32 (m.2.2 0)) x.toNatClampNeg w)) else dnC m 1

def Pre_X11_bar : PreT := fun m as => VNx m ∧ ∃ x w : Int32, as = [vR 11 0, vI x, vI w]
def Fn_X11_bar : FnT := fun m as => match as with
  | [_, Sum.inl x, Sum.inl w] => cl_bar m x w
  | _ => (none, m)
abbrev y_X11_bar : MethodName := ⟨"GivenUp", "bar", "(II)Z"⟩
def P_X11_bar : List StpT := [s_iload 1, s_aload 0, s_getD 11 12 6 0, s_getI 6 14, s_callS 2 Pre_X11_isOut Fn_X11_isOut, s_ifne 11, s_iload 2, s_iflt 11, s_iload 2, s_ic (999), s_icle 15, s_aload 0, s_ic (1), s_callV 11 1 Pre_X11_deny Fn_X11_deny, s_zret, s_aload 0, s_getD 11 12 6 0, s_getR 6 3 32, s_iload 1, s_iload 2, s_iast, s_aload 0, s_callV 11 0 Pre_X11_allow Fn_X11_allow, s_zret]
def pc_X11_bar : Nat → Nat := fun i => [0, 1, 2, 5, 8, 11, 14, 15, 18, 19, 22, 25, 26, 27, 30, 31, 32, 35, 38, 39, 40, 41, 42, 45].getD i 0
def dl_X11_bar : List (Nat × Instr × Nat) := [(0, .iload_n 1, 1), (1, .aload_n 0, 1), (2, .getfield 87, 3), (5, .getfield 200, 3), (8, .invokestatic 115, 3), (11, .ifCond .ne 14, 3), (14, .iload_n 2, 1), (15, .ifCond .lt 10, 3), (18, .iload_n 2, 1), (19, .sipush 999, 3), (22, .if_icmp .le 9, 3), (25, .aload_n 0, 1), (26, .iconst 1, 1), (27, .invokevirtual 119, 3), (30, .ireturn, 1), (31, .aload_n 0, 1), (32, .getfield 87, 3), (35, .getfield 255, 3), (38, .iload_n 1, 1), (39, .iload_n 2, 1), (40, .iastore, 1), (41, .aload_n 0, 1), (42, .invokevirtual 127, 3), (45, .ireturn, 1)]
theorem dc_X11_bar : DEC prog_1_method_36_code pc_X11_bar dl_X11_bar := DEC_of (by decide +kernel)
abbrev rm_X11_bar : Room := { frames := 1, cells := 0, slots := 0, locals := 21 }
set_option maxRecDepth 20000 in
theorem sa_X11_bar (l : Launch) : SNDALL l prog_1_method_36_code "GivenUp" 3 (some .boolean) rm_X11_bar P_X11_bar pc_X11_bar := fun p e s m args below meth c cells slots Q D dA ad A RR hC hR => by
  have hM := RTX_room (R := rm_X11_bar) hR
  exact ⟨st_iload_n hC (n := 0) (k := 1) (dc_X11_bar 0 (0, .iload_n 1, 1) rfl rfl) rfl rfl,
    st_aload_n hC (n := 1) (k := 0) (dc_X11_bar 1 (1, .aload_n 0, 1) rfl rfl) rfl rfl,
    st_getD hC (n := 2) (k := 11) (j := 12) (dc_X11_bar 2 (2, .getfield 87, 3) rfl rfl) rfl clf_11 (by decide) rfl (by decide) wd_723,
    st_getI hC (n := 3) (k := 6) (j := 14) (dc_X11_bar 3 (5, .getfield 200, 3) rfl rfl) rfl clf_6 (by decide) rfl wd_628,
    st_callS hC (n := 4) (na := 2) (con_X11_isOut l) (dc_X11_bar 4 (8, .invokestatic 115, 3) rfl rfl) rfl wd_790 wd_143 (by decide) ⟨rfl, rfl, by decide, by decide⟩ hM wd_788 wd_789,
    st_ifne hC (n := 5) (dc_X11_bar 5 (11, .ifCond .ne 14, 3) rfl rfl) rfl (by decide),
    st_iload_n hC (n := 6) (k := 2) (dc_X11_bar 6 (14, .iload_n 2, 1) rfl rfl) rfl rfl,
    st_iflt hC (n := 7) (dc_X11_bar 7 (15, .ifCond .lt 10, 3) rfl rfl) rfl (by decide),
    st_iload_n hC (n := 8) (k := 2) (dc_X11_bar 8 (18, .iload_n 2, 1) rfl rfl) rfl rfl,
    st_sipush hC (n := 9) (x := 999) (dc_X11_bar 9 (19, .sipush 999, 3) rfl rfl) rfl (by decide),
    st_icle hC (n := 10) (dc_X11_bar 10 (22, .if_icmp .le 9, 3) rfl rfl) rfl (by decide),
    st_aload_n hC (n := 11) (k := 0) (dc_X11_bar 11 (25, .aload_n 0, 1) rfl rfl) rfl rfl,
    st_iconst hC (n := 12) (x := 1) (dc_X11_bar 12 (26, .iconst 1, 1) rfl rfl) rfl (by decide),
    st_callV hC (n := 13) (k := 11) (na := 1) (con_X11_deny l) (dc_X11_bar 13 (27, .invokevirtual 119, 3) rfl rfl) rfl wd_794 wd_143 (by decide) ⟨rfl, rfl, by decide, by decide⟩ hM wd_791 wd_793 wd_0 clf_11,
    st_zret hC (n := 14) hR (dc_X11_bar 14 (30, .ireturn, 1) rfl rfl),
    st_aload_n hC (n := 15) (k := 0) (dc_X11_bar 15 (31, .aload_n 0, 1) rfl rfl) rfl rfl,
    st_getD hC (n := 16) (k := 11) (j := 12) (dc_X11_bar 16 (32, .getfield 87, 3) rfl rfl) rfl clf_11 (by decide) rfl (by decide) wd_723,
    st_getR hC (n := 17) (k := 6) (j := 3) (dc_X11_bar 17 (35, .getfield 255, 3) rfl rfl) rfl clf_6 (by decide) rfl (by decide) wd_587,
    st_iload_n hC (n := 18) (k := 1) (dc_X11_bar 18 (38, .iload_n 1, 1) rfl rfl) rfl rfl,
    st_iload_n hC (n := 19) (k := 2) (dc_X11_bar 19 (39, .iload_n 2, 1) rfl rfl) rfl rfl,
    st_iast hC (n := 20) (dc_X11_bar 20 (40, .iastore, 1) rfl rfl) rfl,
    st_aload_n hC (n := 21) (k := 0) (dc_X11_bar 21 (41, .aload_n 0, 1) rfl rfl) rfl rfl,
    st_callV hC (n := 22) (k := 11) (na := 0) (con_X11_allow l) (dc_X11_bar 22 (42, .invokevirtual 127, 3) rfl rfl) rfl wd_803 wd_143 (by decide) ⟨rfl, rfl, by decide, by decide⟩ hM wd_800 wd_802 wd_1 clf_11,
    st_zret hC (n := 23) hR (dc_X11_bar 23 (45, .ireturn, 1) rfl rfl), trivial⟩
set_option maxRecDepth 8000 in
theorem vc_X11_bar : VC P_X11_bar 3 Pre_X11_bar Fn_X11_bar := by
  rintro mm as hom hoa ⟨⟨ns, nm, nt, hV⟩, x, w, rfl⟩
  refine ⟨Nat.le_of_ble_eq_true rfl, fun X h => ?_⟩
  have hS : mm.1 6 (mm.2.2 0) 13 = nI ns := hV.1.1.1
  have hn4 : ns ≤ 4 := hV.1.1.2
  have hN : mm.1 6 (mm.2.2 0) 14 = nI nm := hV.1.2.1.1
  have hm4 : nm ≤ 4 := hV.1.2.1.2
  have hT : mm.1 6 (mm.2.2 0) 15 = nI nt := hV.1.2.2.1.1
  have ht12 : nt ≤ 12 := hV.1.2.2.1.2
  show X 0 [some (vR 11 0), some (vI x), some (vI w)] [] mm
  refine h (fun _ => false) 3000 0 _ _ _ ?_
  refine And.intro (show Pre_X11_isOut mm [vI x, vI (mm.1 6 (mm.2.2 0) 14)] from ⟨_, _, rfl⟩) ?_
  refine brn_c (fun b5 => ?_) (fun b5 => ?_)
  · -- 5: bI (x < 0 ∨ (mm.1 6 (mm.2.2 0) 14) ≤ x) = 0 taken
    replace b5 : x < 0 ∨ (mm.1 6 (mm.2.2 0) 14) ≤ x := bI_n0.mp b5
    refine And.intro (show Pre_X11_deny mm [vR 11 0, vI 1] from ⟨_, rfl⟩) ?_
    refine And.intro (Or.inl rfl) ?_
    show ((some (vI 0) : Option MV), stC mm 1) = _
    show _ = cl_bar mm x w
    unfold cl_bar
    (try simp only [if_pos b5])
    all_goals exact rfl
  · -- 5: bI (x < 0 ∨ (mm.1 6 (mm.2.2 0) 14) ≤ x) = 0 on
    replace b5 : ¬ (x < 0 ∨ (mm.1 6 (mm.2.2 0) 14) ≤ x) := bI_0.mp b5
    obtain ⟨i, hi, ex⟩ := ou_in hN (by omega) b5
    refine br_c (fun b7 => ?_) (fun b7 => ?_)
    · -- 7: w < 0 taken
      replace b7 : w < 0 := b7
      refine And.intro (show Pre_X11_deny mm [vR 11 0, vI 1] from ⟨_, rfl⟩) ?_
      refine And.intro (Or.inl rfl) ?_
      show ((some (vI 0) : Option MV), stC mm 1) = _
      show _ = cl_bar mm x w
      unfold cl_bar
      (try simp only [if_neg b5, if_pos b7])
      all_goals exact rfl
    · -- 7: w < 0 on
      replace b7 : ¬ (w < 0) := b7
      refine br_c (fun b10 => ?_) (fun b10 => ?_)
      · -- 10: w ≤ 999 taken
        replace b10 : w ≤ 999 := b10
        refine And.intro (show inb x (alen 32) = true from (inb_o 4 rfl rfl ex (by omega))) ?_
        refine And.intro (show Pre_X11_allow (mRow mm 32 (mm.2.2 0) (upd (mm.1 32 (mm.2.2 0)) x.toNatClampNeg w)) [vR 11 0] from rfl) ?_
        refine And.intro (Or.inr rfl) ?_
        show ((some (vI 1) : Option MV), stC (mRow mm 32 (mm.2.2 0) (upd (mm.1 32 (mm.2.2 0)) x.toNatClampNeg w)) 0) = _
        show _ = cl_bar mm x w
        unfold cl_bar
        (try simp only [if_neg b5, if_neg b7, if_pos b10])
        all_goals exact rfl
      · -- 10: w ≤ 999 on
        replace b10 : ¬ (w ≤ 999) := b10
        refine And.intro (show Pre_X11_deny mm [vR 11 0, vI 1] from ⟨_, rfl⟩) ?_
        refine And.intro (Or.inl rfl) ?_
        show ((some (vI 0) : Option MV), stC mm 1) = _
        show _ = cl_bar mm x w
        unfold cl_bar
        (try simp only [if_neg b5, if_neg b7, if_neg b10])
        all_goals exact rfl
theorem con_X11_bar (l : Launch) : CON l y_X11_bar prog_1_method_36_code 3 (some .boolean) rm_X11_bar Pre_X11_bar Fn_X11_bar := CON_of (by decide) rfl rfl (sa_X11_bar l) vc_X11_bar
def cl_give1 (m : MM) (x : Int32) : Option MV × MM := gvC m (lsA' (abV m (m.2.2 0)) (m.1 35 (m.2.2 0) x.toNatClampNeg))
def cl_give (m : MM) (x : Int32) : Option MV × MM := if x < 0 ∨ m.1 6 (m.2.2 0) 15 ≤ x then rfC m 1 else if mgA (abV m (m.2.2 0)) x.toNatClampNeg then cl_give1 (cgM m (m.2.2 0) 5 x.toNatClampNeg) x else rfC m 7

def Pre_X11_give : PreT := fun m as => VNx m ∧ ∃ x : Int32, as = [vR 11 0, vI x]
def Fn_X11_give : FnT := fun m as => match as with
  | [_, Sum.inl x] => cl_give m x
  | _ => (none, m)
abbrev y_X11_give : MethodName := ⟨"GivenUp", "give", "(I)I"⟩
def P_X11_give : List StpT := [s_iload 1, s_aload 0, s_getD 11 12 6 0, s_getI 6 15, s_callS 2 Pre_X11_isOut Fn_X11_isOut, s_ifeq 10, s_aload 0, s_ic (1), s_callV 11 1 Pre_X11_refuse Fn_X11_refuse, s_iret, s_aload 0, s_getD 11 12 6 0, s_iload 1, s_callV 6 1 Pre_X6_giveUp Fn_X6_giveUp, s_ifne 19, s_aload 0, s_ic (7), s_callV 11 1 Pre_X11_refuse Fn_X11_refuse, s_iret, s_aload 0, s_aload 0, s_getD 11 12 6 0, s_aload 0, s_getD 11 12 6 0, s_getR 6 6 35, s_iload 1, s_iald, s_callV 6 1 Pre_X6_loss Fn_X6_loss, s_callV 11 1 Pre_X11_answer Fn_X11_answer, s_iret]
def pc_X11_give : Nat → Nat := fun i => [0, 1, 2, 5, 8, 11, 14, 15, 16, 19, 20, 21, 24, 25, 28, 31, 32, 34, 37, 38, 39, 40, 43, 44, 47, 50, 51, 52, 55, 58].getD i 0
def dl_X11_give : List (Nat × Instr × Nat) := [(0, .iload_n 1, 1), (1, .aload_n 0, 1), (2, .getfield 87, 3), (5, .getfield 175, 3), (8, .invokestatic 115, 3), (11, .ifCond .eq 9, 3), (14, .aload_n 0, 1), (15, .iconst 1, 1), (16, .invokevirtual 139, 3), (19, .ireturn, 1), (20, .aload_n 0, 1), (21, .getfield 87, 3), (24, .iload_n 1, 1), (25, .invokevirtual 294, 3), (28, .ifCond .ne 10, 3), (31, .aload_n 0, 1), (32, .bipush 7, 2), (34, .invokevirtual 139, 3), (37, .ireturn, 1), (38, .aload_n 0, 1), (39, .aload_n 0, 1), (40, .getfield 87, 3), (43, .aload_n 0, 1), (44, .getfield 87, 3), (47, .getfield 270, 3), (50, .iload_n 1, 1), (51, .iaload, 1), (52, .invokevirtual 243, 3), (55, .invokevirtual 178, 3), (58, .ireturn, 1)]
theorem dc_X11_give : DEC prog_1_method_19_code pc_X11_give dl_X11_give := DEC_of (by decide +kernel)
abbrev rm_X11_give : Room := { frames := 3, cells := 0, slots := 0, locals := 65 }
set_option maxRecDepth 20000 in
theorem sa_X11_give (l : Launch) : SNDALL l prog_1_method_19_code "GivenUp" 2 (some .int) rm_X11_give P_X11_give pc_X11_give := fun p e s m args below meth c cells slots Q D dA ad A RR hC hR => by
  have hM := RTX_room (R := rm_X11_give) hR
  exact ⟨st_iload_n hC (n := 0) (k := 1) (dc_X11_give 0 (0, .iload_n 1, 1) rfl rfl) rfl rfl,
    st_aload_n hC (n := 1) (k := 0) (dc_X11_give 1 (1, .aload_n 0, 1) rfl rfl) rfl rfl,
    st_getD hC (n := 2) (k := 11) (j := 12) (dc_X11_give 2 (2, .getfield 87, 3) rfl rfl) rfl clf_11 (by decide) rfl (by decide) wd_723,
    st_getI hC (n := 3) (k := 6) (j := 15) (dc_X11_give 3 (5, .getfield 175, 3) rfl rfl) rfl clf_6 (by decide) rfl wd_633,
    st_callS hC (n := 4) (na := 2) (con_X11_isOut l) (dc_X11_give 4 (8, .invokestatic 115, 3) rfl rfl) rfl wd_790 wd_143 (by decide) ⟨rfl, rfl, by decide, by decide⟩ hM wd_788 wd_789,
    st_ifeq hC (n := 5) (dc_X11_give 5 (11, .ifCond .eq 9, 3) rfl rfl) rfl (by decide),
    st_aload_n hC (n := 6) (k := 0) (dc_X11_give 6 (14, .aload_n 0, 1) rfl rfl) rfl rfl,
    st_iconst hC (n := 7) (x := 1) (dc_X11_give 7 (15, .iconst 1, 1) rfl rfl) rfl (by decide),
    st_callV hC (n := 8) (k := 11) (na := 1) (con_X11_refuse l) (dc_X11_give 8 (16, .invokevirtual 139, 3) rfl rfl) rfl wd_824 wd_143 (by decide) ⟨rfl, rfl, by decide, by decide⟩ hM wd_821 wd_823 wd_3 clf_11,
    st_iret hC (n := 9) hR (dc_X11_give 9 (19, .ireturn, 1) rfl rfl),
    st_aload_n hC (n := 10) (k := 0) (dc_X11_give 10 (20, .aload_n 0, 1) rfl rfl) rfl rfl,
    st_getD hC (n := 11) (k := 11) (j := 12) (dc_X11_give 11 (21, .getfield 87, 3) rfl rfl) rfl clf_11 (by decide) rfl (by decide) wd_723,
    st_iload_n hC (n := 12) (k := 1) (dc_X11_give 12 (24, .iload_n 1, 1) rfl rfl) rfl rfl,
    st_callV hC (n := 13) (k := 6) (na := 1) (con_X6_giveUp l) (dc_X11_give 13 (25, .invokevirtual 294, 3) rfl rfl) rfl wd_1098 wd_155 (by decide) ⟨rfl, rfl, by decide, by decide⟩ hM wd_1095 wd_1096 wd_1097 clf_6,
    st_ifne hC (n := 14) (dc_X11_give 14 (28, .ifCond .ne 10, 3) rfl rfl) rfl (by decide),
    st_aload_n hC (n := 15) (k := 0) (dc_X11_give 15 (31, .aload_n 0, 1) rfl rfl) rfl rfl,
    st_bipush hC (n := 16) (x := 7) (dc_X11_give 16 (32, .bipush 7, 2) rfl rfl) rfl (by decide),
    st_callV hC (n := 17) (k := 11) (na := 1) (con_X11_refuse l) (dc_X11_give 17 (34, .invokevirtual 139, 3) rfl rfl) rfl wd_824 wd_143 (by decide) ⟨rfl, rfl, by decide, by decide⟩ hM wd_821 wd_823 wd_3 clf_11,
    st_iret hC (n := 18) hR (dc_X11_give 18 (37, .ireturn, 1) rfl rfl),
    st_aload_n hC (n := 19) (k := 0) (dc_X11_give 19 (38, .aload_n 0, 1) rfl rfl) rfl rfl,
    st_aload_n hC (n := 20) (k := 0) (dc_X11_give 20 (39, .aload_n 0, 1) rfl rfl) rfl rfl,
    st_getD hC (n := 21) (k := 11) (j := 12) (dc_X11_give 21 (40, .getfield 87, 3) rfl rfl) rfl clf_11 (by decide) rfl (by decide) wd_723,
    st_aload_n hC (n := 22) (k := 0) (dc_X11_give 22 (43, .aload_n 0, 1) rfl rfl) rfl rfl,
    st_getD hC (n := 23) (k := 11) (j := 12) (dc_X11_give 23 (44, .getfield 87, 3) rfl rfl) rfl clf_11 (by decide) rfl (by decide) wd_723,
    st_getR hC (n := 24) (k := 6) (j := 6) (dc_X11_give 24 (47, .getfield 270, 3) rfl rfl) rfl clf_6 (by decide) rfl (by decide) wd_597,
    st_iload_n hC (n := 25) (k := 1) (dc_X11_give 25 (50, .iload_n 1, 1) rfl rfl) rfl rfl,
    st_iald hC (n := 26) (dc_X11_give 26 (51, .iaload, 1) rfl rfl) rfl,
    st_callV hC (n := 27) (k := 6) (na := 1) (con_X6_loss l) (dc_X11_give 27 (52, .invokevirtual 243, 3) rfl rfl) rfl wd_1043 wd_155 (by decide) ⟨rfl, rfl, by decide, by decide⟩ hM wd_1040 wd_1041 wd_1042 clf_6,
    st_callV hC (n := 28) (k := 11) (na := 1) (con_X11_answer l) (dc_X11_give 28 (55, .invokevirtual 178, 3) rfl rfl) rfl wd_967 wd_143 (by decide) ⟨rfl, rfl, by decide, by decide⟩ hM wd_964 wd_966 wd_17 clf_11,
    st_iret hC (n := 29) hR (dc_X11_give 29 (58, .ireturn, 1) rfl rfl), trivial⟩
set_option maxRecDepth 8000 in
theorem vc_X11_give : VC P_X11_give 2 Pre_X11_give Fn_X11_give := by
  rintro mm as hom hoa ⟨⟨ns, nm, nt, hV⟩, x, rfl⟩
  refine ⟨Nat.le_of_ble_eq_true rfl, fun X h => ?_⟩
  have hS : mm.1 6 (mm.2.2 0) 13 = nI ns := hV.1.1.1
  have hn4 : ns ≤ 4 := hV.1.1.2
  have hN : mm.1 6 (mm.2.2 0) 14 = nI nm := hV.1.2.1.1
  have hm4 : nm ≤ 4 := hV.1.2.1.2
  have hT : mm.1 6 (mm.2.2 0) 15 = nI nt := hV.1.2.2.1.1
  have ht12 : nt ≤ 12 := hV.1.2.2.1.2
  have s19 : ∀ M, VN M ns nm nt → (mgA (abV mm (mm.2.2 0)) x.toNatClampNeg → cl_give mm x = cl_give1 M x) → mgA (abV mm (mm.2.2 0)) x.toNatClampNeg → (∃ i, i < nt ∧ x = nI i) → X 19 [some (vR 11 0), some (vI (x))] [] (M) := by
    intro M hM hF c ⟨i, hi, ex⟩
    have hF := hF c
    show X 19 [some (vR 11 0), some (vI x)] [] M
    refine h (fun _ => false) 3000 19 _ _ _ ?_
    refine And.intro (show inb x (alen 35) = true from (inb_o 12 rfl rfl ex (by omega))) ?_
    refine And.intro (show Pre_X6_loss M [vR 6 (M.2.2 0), vI (M.1 35 (M.2.2 0) x.toNatClampNeg)] from ⟨_, ns, nm, nt, hM, _, rfl⟩) ?_
    refine And.intro (show Pre_X11_answer M [vR 11 0, vI (lsA' (abV M (M.2.2 0)) (M.1 35 (M.2.2 0) x.toNatClampNeg))] from ⟨_, rfl⟩) ?_
    show ((some (vI (lsA' (abV M (M.2.2 0)) (M.1 35 (M.2.2 0) x.toNatClampNeg))) : Option MV), stC M 0) = _
    exact hF.symm
  show X 0 [some (vR 11 0), some (vI x)] [] mm
  refine h (fun i => Nat.beq i 19) 3000 0 _ _ _ ?_
  refine And.intro (show Pre_X11_isOut mm [vI x, vI (mm.1 6 (mm.2.2 0) 15)] from ⟨_, _, rfl⟩) ?_
  refine br_c (fun b5 => ?_) (fun b5 => ?_)
  · -- 5: bI (x < 0 ∨ (mm.1 6 (mm.2.2 0) 15) ≤ x) = 0 taken
    replace b5 : ¬ (x < 0 ∨ (mm.1 6 (mm.2.2 0) 15) ≤ x) := bI_0.mp b5
    obtain ⟨i, hi, ex⟩ := ou_in hT (by omega) b5
    have eic : x.toNatClampNeg = i := by rw [ex]; exact nI_clamp (by omega)
    refine And.intro (show Pre_X6_giveUp mm [vR 6 (mm.2.2 0), vI x] from ⟨_, ns, nm, nt, i, hV, hi, by rw [ex]⟩) ?_
    refine brn_c (fun b14 => ?_) (fun b14 => ?_)
    · -- 14: bI (mgA (abV mm (mm.2.2 0)) x.toNatClampNeg) = 0 taken
      replace b14 : mgA (abV mm (mm.2.2 0)) x.toNatClampNeg := bI_n0.mp b14
      show X 19 [some (vR 11 0), some (vI x)] [] (mite (mgA (abV mm (mm.2.2 0)) x.toNatClampNeg) (cgM mm (mm.2.2 0) 5 x.toNatClampNeg) mm)
      rw [mite_t b14]
      exact s19 _ (VC2_d hV (SML_cg _ _ _ _) (DDo_cg (DDo_of hV) (by decide))) (fun c => (if_neg b5).trans (if_pos c)) b14 ⟨i, hi, ex⟩
    · -- 14: bI (mgA (abV mm (mm.2.2 0)) x.toNatClampNeg) = 0 on
      replace b14 : ¬ (mgA (abV mm (mm.2.2 0)) x.toNatClampNeg) := bI_0.mp b14
      refine And.intro (show Pre_X11_refuse (mite (mgA (abV mm (mm.2.2 0)) x.toNatClampNeg) (cgM mm (mm.2.2 0) 5 x.toNatClampNeg) mm) [vR 11 0, vI 7] from ⟨_, rfl⟩) ?_
      show ((some (vI (-1)) : Option MV), stC (mite (mgA (abV mm (mm.2.2 0)) x.toNatClampNeg) (cgM mm (mm.2.2 0) 5 x.toNatClampNeg) mm) 7) = _
      rw [mite_f b14]
      exact ((if_neg b5).trans (if_neg b14)).symm
  · -- 5: bI (x < 0 ∨ (mm.1 6 (mm.2.2 0) 15) ≤ x) = 0 on
    replace b5 : x < 0 ∨ (mm.1 6 (mm.2.2 0) 15) ≤ x := bI_n0.mp b5
    skip
    refine And.intro (show Pre_X11_refuse mm [vR 11 0, vI 1] from ⟨_, rfl⟩) ?_
    show ((some (vI (-1)) : Option MV), stC mm 1) = _
    exact (if_pos b5).symm
theorem con_X11_give (l : Launch) : CON l y_X11_give prog_1_method_19_code 2 (some .int) rm_X11_give Pre_X11_give Fn_X11_give := CON_of (by decide) rfl rfl (sa_X11_give l) vc_X11_give
def cl_feign1 (m : MM) (x : Int32) : Option MV × MM := gvC m (nI (pcN (thA (abV m (m.2.2 0)) (m.1 35 (m.2.2 0) x.toNatClampNeg) &&& abV m (m.2.2 0) 9).toNatClampNeg))
def cl_feign (m : MM) (x : Int32) : Option MV × MM := if x < 0 ∨ m.1 6 (m.2.2 0) 15 ≤ x then rfC m 1 else if mgA (abV m (m.2.2 0)) x.toNatClampNeg then cl_feign1 (cgM m (m.2.2 0) 6 x.toNatClampNeg) x else rfC m 7

def Pre_X11_feign : PreT := fun m as => VNx m ∧ ∃ x : Int32, as = [vR 11 0, vI x]
def Fn_X11_feign : FnT := fun m as => match as with
  | [_, Sum.inl x] => cl_feign m x
  | _ => (none, m)
abbrev y_X11_feign : MethodName := ⟨"GivenUp", "feign", "(I)I"⟩
def P_X11_feign : List StpT := [s_iload 1, s_aload 0, s_getD 11 12 6 0, s_getI 6 15, s_callS 2 Pre_X11_isOut Fn_X11_isOut, s_ifeq 10, s_aload 0, s_ic (1), s_callV 11 1 Pre_X11_refuse Fn_X11_refuse, s_iret, s_aload 0, s_getD 11 12 6 0, s_iload 1, s_callV 6 1 Pre_X6_pretend Fn_X6_pretend, s_ifne 19, s_aload 0, s_ic (7), s_callV 11 1 Pre_X11_refuse Fn_X11_refuse, s_iret, s_aload 0, s_aload 0, s_getD 11 12 6 0, s_aload 0, s_getD 11 12 6 0, s_getR 6 6 35, s_iload 1, s_iald, s_callV 6 1 Pre_X6_feignedBy Fn_X6_feignedBy, s_callV 11 1 Pre_X11_answer Fn_X11_answer, s_iret]
def pc_X11_feign : Nat → Nat := fun i => [0, 1, 2, 5, 8, 11, 14, 15, 16, 19, 20, 21, 24, 25, 28, 31, 32, 34, 37, 38, 39, 40, 43, 44, 47, 50, 51, 52, 55, 58].getD i 0
def dl_X11_feign : List (Nat × Instr × Nat) := [(0, .iload_n 1, 1), (1, .aload_n 0, 1), (2, .getfield 87, 3), (5, .getfield 175, 3), (8, .invokestatic 115, 3), (11, .ifCond .eq 9, 3), (14, .aload_n 0, 1), (15, .iconst 1, 1), (16, .invokevirtual 139, 3), (19, .ireturn, 1), (20, .aload_n 0, 1), (21, .getfield 87, 3), (24, .iload_n 1, 1), (25, .invokevirtual 297, 3), (28, .ifCond .ne 10, 3), (31, .aload_n 0, 1), (32, .bipush 7, 2), (34, .invokevirtual 139, 3), (37, .ireturn, 1), (38, .aload_n 0, 1), (39, .aload_n 0, 1), (40, .getfield 87, 3), (43, .aload_n 0, 1), (44, .getfield 87, 3), (47, .getfield 270, 3), (50, .iload_n 1, 1), (51, .iaload, 1), (52, .invokevirtual 300, 3), (55, .invokevirtual 178, 3), (58, .ireturn, 1)]
theorem dc_X11_feign : DEC prog_1_method_20_code pc_X11_feign dl_X11_feign := DEC_of (by decide +kernel)
abbrev rm_X11_feign : Room := { frames := 3, cells := 0, slots := 0, locals := 64 }
set_option maxRecDepth 20000 in
theorem sa_X11_feign (l : Launch) : SNDALL l prog_1_method_20_code "GivenUp" 2 (some .int) rm_X11_feign P_X11_feign pc_X11_feign := fun p e s m args below meth c cells slots Q D dA ad A RR hC hR => by
  have hM := RTX_room (R := rm_X11_feign) hR
  exact ⟨st_iload_n hC (n := 0) (k := 1) (dc_X11_feign 0 (0, .iload_n 1, 1) rfl rfl) rfl rfl,
    st_aload_n hC (n := 1) (k := 0) (dc_X11_feign 1 (1, .aload_n 0, 1) rfl rfl) rfl rfl,
    st_getD hC (n := 2) (k := 11) (j := 12) (dc_X11_feign 2 (2, .getfield 87, 3) rfl rfl) rfl clf_11 (by decide) rfl (by decide) wd_723,
    st_getI hC (n := 3) (k := 6) (j := 15) (dc_X11_feign 3 (5, .getfield 175, 3) rfl rfl) rfl clf_6 (by decide) rfl wd_633,
    st_callS hC (n := 4) (na := 2) (con_X11_isOut l) (dc_X11_feign 4 (8, .invokestatic 115, 3) rfl rfl) rfl wd_790 wd_143 (by decide) ⟨rfl, rfl, by decide, by decide⟩ hM wd_788 wd_789,
    st_ifeq hC (n := 5) (dc_X11_feign 5 (11, .ifCond .eq 9, 3) rfl rfl) rfl (by decide),
    st_aload_n hC (n := 6) (k := 0) (dc_X11_feign 6 (14, .aload_n 0, 1) rfl rfl) rfl rfl,
    st_iconst hC (n := 7) (x := 1) (dc_X11_feign 7 (15, .iconst 1, 1) rfl rfl) rfl (by decide),
    st_callV hC (n := 8) (k := 11) (na := 1) (con_X11_refuse l) (dc_X11_feign 8 (16, .invokevirtual 139, 3) rfl rfl) rfl wd_824 wd_143 (by decide) ⟨rfl, rfl, by decide, by decide⟩ hM wd_821 wd_823 wd_3 clf_11,
    st_iret hC (n := 9) hR (dc_X11_feign 9 (19, .ireturn, 1) rfl rfl),
    st_aload_n hC (n := 10) (k := 0) (dc_X11_feign 10 (20, .aload_n 0, 1) rfl rfl) rfl rfl,
    st_getD hC (n := 11) (k := 11) (j := 12) (dc_X11_feign 11 (21, .getfield 87, 3) rfl rfl) rfl clf_11 (by decide) rfl (by decide) wd_723,
    st_iload_n hC (n := 12) (k := 1) (dc_X11_feign 12 (24, .iload_n 1, 1) rfl rfl) rfl rfl,
    st_callV hC (n := 13) (k := 6) (na := 1) (con_X6_pretend l) (dc_X11_feign 13 (25, .invokevirtual 297, 3) rfl rfl) rfl wd_1110 wd_155 (by decide) ⟨rfl, rfl, by decide, by decide⟩ hM wd_1107 wd_1108 wd_1109 clf_6,
    st_ifne hC (n := 14) (dc_X11_feign 14 (28, .ifCond .ne 10, 3) rfl rfl) rfl (by decide),
    st_aload_n hC (n := 15) (k := 0) (dc_X11_feign 15 (31, .aload_n 0, 1) rfl rfl) rfl rfl,
    st_bipush hC (n := 16) (x := 7) (dc_X11_feign 16 (32, .bipush 7, 2) rfl rfl) rfl (by decide),
    st_callV hC (n := 17) (k := 11) (na := 1) (con_X11_refuse l) (dc_X11_feign 17 (34, .invokevirtual 139, 3) rfl rfl) rfl wd_824 wd_143 (by decide) ⟨rfl, rfl, by decide, by decide⟩ hM wd_821 wd_823 wd_3 clf_11,
    st_iret hC (n := 18) hR (dc_X11_feign 18 (37, .ireturn, 1) rfl rfl),
    st_aload_n hC (n := 19) (k := 0) (dc_X11_feign 19 (38, .aload_n 0, 1) rfl rfl) rfl rfl,
    st_aload_n hC (n := 20) (k := 0) (dc_X11_feign 20 (39, .aload_n 0, 1) rfl rfl) rfl rfl,
    st_getD hC (n := 21) (k := 11) (j := 12) (dc_X11_feign 21 (40, .getfield 87, 3) rfl rfl) rfl clf_11 (by decide) rfl (by decide) wd_723,
    st_aload_n hC (n := 22) (k := 0) (dc_X11_feign 22 (43, .aload_n 0, 1) rfl rfl) rfl rfl,
    st_getD hC (n := 23) (k := 11) (j := 12) (dc_X11_feign 23 (44, .getfield 87, 3) rfl rfl) rfl clf_11 (by decide) rfl (by decide) wd_723,
    st_getR hC (n := 24) (k := 6) (j := 6) (dc_X11_feign 24 (47, .getfield 270, 3) rfl rfl) rfl clf_6 (by decide) rfl (by decide) wd_597,
    st_iload_n hC (n := 25) (k := 1) (dc_X11_feign 25 (50, .iload_n 1, 1) rfl rfl) rfl rfl,
    st_iald hC (n := 26) (dc_X11_feign 26 (51, .iaload, 1) rfl rfl) rfl,
    st_callV hC (n := 27) (k := 6) (na := 1) (con_X6_feignedBy l) (dc_X11_feign 27 (52, .invokevirtual 300, 3) rfl rfl) rfl wd_1114 wd_155 (by decide) ⟨rfl, rfl, by decide, by decide⟩ hM wd_1111 wd_1112 wd_1113 clf_6,
    st_callV hC (n := 28) (k := 11) (na := 1) (con_X11_answer l) (dc_X11_feign 28 (55, .invokevirtual 178, 3) rfl rfl) rfl wd_967 wd_143 (by decide) ⟨rfl, rfl, by decide, by decide⟩ hM wd_964 wd_966 wd_17 clf_11,
    st_iret hC (n := 29) hR (dc_X11_feign 29 (58, .ireturn, 1) rfl rfl), trivial⟩
set_option maxRecDepth 8000 in
theorem vc_X11_feign : VC P_X11_feign 2 Pre_X11_feign Fn_X11_feign := by
  rintro mm as hom hoa ⟨⟨ns, nm, nt, hV⟩, x, rfl⟩
  refine ⟨Nat.le_of_ble_eq_true rfl, fun X h => ?_⟩
  have hS : mm.1 6 (mm.2.2 0) 13 = nI ns := hV.1.1.1
  have hn4 : ns ≤ 4 := hV.1.1.2
  have hN : mm.1 6 (mm.2.2 0) 14 = nI nm := hV.1.2.1.1
  have hm4 : nm ≤ 4 := hV.1.2.1.2
  have hT : mm.1 6 (mm.2.2 0) 15 = nI nt := hV.1.2.2.1.1
  have ht12 : nt ≤ 12 := hV.1.2.2.1.2
  have s19 : ∀ M, VN M ns nm nt → (mgA (abV mm (mm.2.2 0)) x.toNatClampNeg → cl_feign mm x = cl_feign1 M x) → mgA (abV mm (mm.2.2 0)) x.toNatClampNeg → (∃ i, i < nt ∧ x = nI i) → X 19 [some (vR 11 0), some (vI (x))] [] (M) := by
    intro M hM hF c ⟨i, hi, ex⟩
    have hF := hF c
    show X 19 [some (vR 11 0), some (vI x)] [] M
    refine h (fun _ => false) 3000 19 _ _ _ ?_
    refine And.intro (show inb x (alen 35) = true from (inb_o 12 rfl rfl ex (by omega))) ?_
    refine And.intro (show Pre_X6_feignedBy M [vR 6 (M.2.2 0), vI (M.1 35 (M.2.2 0) x.toNatClampNeg)] from ⟨_, ns, nm, nt, hM, _, rfl⟩) ?_
    refine And.intro (show Pre_X11_answer M [vR 11 0, vI (nI (pcN (thA (abV M (M.2.2 0)) (M.1 35 (M.2.2 0) x.toNatClampNeg) &&& abV M (M.2.2 0) 9).toNatClampNeg))] from ⟨_, rfl⟩) ?_
    show ((some (vI (nI (pcN (thA (abV M (M.2.2 0)) (M.1 35 (M.2.2 0) x.toNatClampNeg) &&& abV M (M.2.2 0) 9).toNatClampNeg))) : Option MV), stC M 0) = _
    exact hF.symm
  show X 0 [some (vR 11 0), some (vI x)] [] mm
  refine h (fun i => Nat.beq i 19) 3000 0 _ _ _ ?_
  refine And.intro (show Pre_X11_isOut mm [vI x, vI (mm.1 6 (mm.2.2 0) 15)] from ⟨_, _, rfl⟩) ?_
  refine br_c (fun b5 => ?_) (fun b5 => ?_)
  · -- 5: bI (x < 0 ∨ (mm.1 6 (mm.2.2 0) 15) ≤ x) = 0 taken
    replace b5 : ¬ (x < 0 ∨ (mm.1 6 (mm.2.2 0) 15) ≤ x) := bI_0.mp b5
    obtain ⟨i, hi, ex⟩ := ou_in hT (by omega) b5
    have eic : x.toNatClampNeg = i := by rw [ex]; exact nI_clamp (by omega)
    refine And.intro (show Pre_X6_pretend mm [vR 6 (mm.2.2 0), vI x] from ⟨_, ns, nm, nt, i, hV, hi, by rw [ex]⟩) ?_
    refine brn_c (fun b14 => ?_) (fun b14 => ?_)
    · -- 14: bI (mgA (abV mm (mm.2.2 0)) x.toNatClampNeg) = 0 taken
      replace b14 : mgA (abV mm (mm.2.2 0)) x.toNatClampNeg := bI_n0.mp b14
      show X 19 [some (vR 11 0), some (vI x)] [] (mite (mgA (abV mm (mm.2.2 0)) x.toNatClampNeg) (cgM mm (mm.2.2 0) 6 x.toNatClampNeg) mm)
      rw [mite_t b14]
      exact s19 _ (VC2_d hV (SML_cg _ _ _ _) (DDo_cg (DDo_of hV) (by decide))) (fun c => (if_neg b5).trans (if_pos c)) b14 ⟨i, hi, ex⟩
    · -- 14: bI (mgA (abV mm (mm.2.2 0)) x.toNatClampNeg) = 0 on
      replace b14 : ¬ (mgA (abV mm (mm.2.2 0)) x.toNatClampNeg) := bI_0.mp b14
      refine And.intro (show Pre_X11_refuse (mite (mgA (abV mm (mm.2.2 0)) x.toNatClampNeg) (cgM mm (mm.2.2 0) 6 x.toNatClampNeg) mm) [vR 11 0, vI 7] from ⟨_, rfl⟩) ?_
      show ((some (vI (-1)) : Option MV), stC (mite (mgA (abV mm (mm.2.2 0)) x.toNatClampNeg) (cgM mm (mm.2.2 0) 6 x.toNatClampNeg) mm) 7) = _
      rw [mite_f b14]
      exact ((if_neg b5).trans (if_neg b14)).symm
  · -- 5: bI (x < 0 ∨ (mm.1 6 (mm.2.2 0) 15) ≤ x) = 0 on
    replace b5 : x < 0 ∨ (mm.1 6 (mm.2.2 0) 15) ≤ x := bI_n0.mp b5
    skip
    refine And.intro (show Pre_X11_refuse mm [vR 11 0, vI 1] from ⟨_, rfl⟩) ?_
    show ((some (vI (-1)) : Option MV), stC mm 1) = _
    exact (if_pos b5).symm
theorem con_X11_feign (l : Launch) : CON l y_X11_feign prog_1_method_20_code 2 (some .int) rm_X11_feign Pre_X11_feign Fn_X11_feign := CON_of (by decide) rfl rfl (sa_X11_feign l) vc_X11_feign
def cl_back1 (m : MM) (x : Int32) : Option MV × MM := gvC m (m.1 16 (m.2.2 0) (m.1 35 (m.2.2 0) x.toNatClampNeg).toNatClampNeg)
def cl_back (m : MM) (x : Int32) : Option MV × MM := if x < 0 ∨ m.1 6 (m.2.2 0) 15 ≤ x then rfC m 1 else if cbP (abV m (m.2.2 0)) x.toNatClampNeg then cl_back1 (feM m (m.2.2 0) x.toNatClampNeg) x else rfC m 7

def Pre_X11_back : PreT := fun m as => VNx m ∧ ∃ x : Int32, as = [vR 11 0, vI x]
def Fn_X11_back : FnT := fun m as => match as with
  | [_, Sum.inl x] => cl_back m x
  | _ => (none, m)
abbrev y_X11_back : MethodName := ⟨"GivenUp", "back", "(I)I"⟩
def P_X11_back : List StpT := [s_iload 1, s_aload 0, s_getD 11 12 6 0, s_getI 6 15, s_callS 2 Pre_X11_isOut Fn_X11_isOut, s_ifeq 10, s_aload 0, s_ic (1), s_callV 11 1 Pre_X11_refuse Fn_X11_refuse, s_iret, s_aload 0, s_getD 11 12 6 0, s_iload 1, s_callV 6 1 Pre_X6_fetch Fn_X6_fetch, s_ifne 19, s_aload 0, s_ic (7), s_callV 11 1 Pre_X11_refuse Fn_X11_refuse, s_iret, s_aload 0, s_aload 0, s_getD 11 12 6 0, s_getR 6 11 1, s_getR 1 0 16, s_aload 0, s_getD 11 12 6 0, s_getR 6 6 35, s_iload 1, s_iald, s_iald, s_callV 11 1 Pre_X11_answer Fn_X11_answer, s_iret]
def pc_X11_back : Nat → Nat := fun i => [0, 1, 2, 5, 8, 11, 14, 15, 16, 19, 20, 21, 24, 25, 28, 31, 32, 34, 37, 38, 39, 40, 43, 46, 49, 50, 53, 56, 57, 58, 59, 62].getD i 0
def dl_X11_back : List (Nat × Instr × Nat) := [(0, .iload_n 1, 1), (1, .aload_n 0, 1), (2, .getfield 87, 3), (5, .getfield 175, 3), (8, .invokestatic 115, 3), (11, .ifCond .eq 9, 3), (14, .aload_n 0, 1), (15, .iconst 1, 1), (16, .invokevirtual 139, 3), (19, .ireturn, 1), (20, .aload_n 0, 1), (21, .getfield 87, 3), (24, .iload_n 1, 1), (25, .invokevirtual 321, 3), (28, .ifCond .ne 10, 3), (31, .aload_n 0, 1), (32, .bipush 7, 2), (34, .invokevirtual 139, 3), (37, .ireturn, 1), (38, .aload_n 0, 1), (39, .aload_n 0, 1), (40, .getfield 87, 3), (43, .getfield 212, 3), (46, .getfield 234, 3), (49, .aload_n 0, 1), (50, .getfield 87, 3), (53, .getfield 270, 3), (56, .iload_n 1, 1), (57, .iaload, 1), (58, .iaload, 1), (59, .invokevirtual 178, 3), (62, .ireturn, 1)]
theorem dc_X11_back : DEC prog_1_method_28_code pc_X11_back dl_X11_back := DEC_of (by decide +kernel)
abbrev rm_X11_back : Room := { frames := 3, cells := 0, slots := 0, locals := 66 }
set_option maxRecDepth 20000 in
theorem sa_X11_back (l : Launch) : SNDALL l prog_1_method_28_code "GivenUp" 2 (some .int) rm_X11_back P_X11_back pc_X11_back := fun p e s m args below meth c cells slots Q D dA ad A RR hC hR => by
  have hM := RTX_room (R := rm_X11_back) hR
  exact ⟨st_iload_n hC (n := 0) (k := 1) (dc_X11_back 0 (0, .iload_n 1, 1) rfl rfl) rfl rfl,
    st_aload_n hC (n := 1) (k := 0) (dc_X11_back 1 (1, .aload_n 0, 1) rfl rfl) rfl rfl,
    st_getD hC (n := 2) (k := 11) (j := 12) (dc_X11_back 2 (2, .getfield 87, 3) rfl rfl) rfl clf_11 (by decide) rfl (by decide) wd_723,
    st_getI hC (n := 3) (k := 6) (j := 15) (dc_X11_back 3 (5, .getfield 175, 3) rfl rfl) rfl clf_6 (by decide) rfl wd_633,
    st_callS hC (n := 4) (na := 2) (con_X11_isOut l) (dc_X11_back 4 (8, .invokestatic 115, 3) rfl rfl) rfl wd_790 wd_143 (by decide) ⟨rfl, rfl, by decide, by decide⟩ hM wd_788 wd_789,
    st_ifeq hC (n := 5) (dc_X11_back 5 (11, .ifCond .eq 9, 3) rfl rfl) rfl (by decide),
    st_aload_n hC (n := 6) (k := 0) (dc_X11_back 6 (14, .aload_n 0, 1) rfl rfl) rfl rfl,
    st_iconst hC (n := 7) (x := 1) (dc_X11_back 7 (15, .iconst 1, 1) rfl rfl) rfl (by decide),
    st_callV hC (n := 8) (k := 11) (na := 1) (con_X11_refuse l) (dc_X11_back 8 (16, .invokevirtual 139, 3) rfl rfl) rfl wd_824 wd_143 (by decide) ⟨rfl, rfl, by decide, by decide⟩ hM wd_821 wd_823 wd_3 clf_11,
    st_iret hC (n := 9) hR (dc_X11_back 9 (19, .ireturn, 1) rfl rfl),
    st_aload_n hC (n := 10) (k := 0) (dc_X11_back 10 (20, .aload_n 0, 1) rfl rfl) rfl rfl,
    st_getD hC (n := 11) (k := 11) (j := 12) (dc_X11_back 11 (21, .getfield 87, 3) rfl rfl) rfl clf_11 (by decide) rfl (by decide) wd_723,
    st_iload_n hC (n := 12) (k := 1) (dc_X11_back 12 (24, .iload_n 1, 1) rfl rfl) rfl rfl,
    st_callV hC (n := 13) (k := 6) (na := 1) (con_X6_fetch l) (dc_X11_back 13 (25, .invokevirtual 321, 3) rfl rfl) rfl wd_1182 wd_155 (by decide) ⟨rfl, rfl, by decide, by decide⟩ hM wd_1179 wd_1180 wd_1181 clf_6,
    st_ifne hC (n := 14) (dc_X11_back 14 (28, .ifCond .ne 10, 3) rfl rfl) rfl (by decide),
    st_aload_n hC (n := 15) (k := 0) (dc_X11_back 15 (31, .aload_n 0, 1) rfl rfl) rfl rfl,
    st_bipush hC (n := 16) (x := 7) (dc_X11_back 16 (32, .bipush 7, 2) rfl rfl) rfl (by decide),
    st_callV hC (n := 17) (k := 11) (na := 1) (con_X11_refuse l) (dc_X11_back 17 (34, .invokevirtual 139, 3) rfl rfl) rfl wd_824 wd_143 (by decide) ⟨rfl, rfl, by decide, by decide⟩ hM wd_821 wd_823 wd_3 clf_11,
    st_iret hC (n := 18) hR (dc_X11_back 18 (37, .ireturn, 1) rfl rfl),
    st_aload_n hC (n := 19) (k := 0) (dc_X11_back 19 (38, .aload_n 0, 1) rfl rfl) rfl rfl,
    st_aload_n hC (n := 20) (k := 0) (dc_X11_back 20 (39, .aload_n 0, 1) rfl rfl) rfl rfl,
    st_getD hC (n := 21) (k := 11) (j := 12) (dc_X11_back 21 (40, .getfield 87, 3) rfl rfl) rfl clf_11 (by decide) rfl (by decide) wd_723,
    st_getR hC (n := 22) (k := 6) (j := 11) (dc_X11_back 22 (43, .getfield 212, 3) rfl rfl) rfl clf_6 (by decide) rfl (by decide) wd_613,
    st_getR hC (n := 23) (k := 1) (j := 0) (dc_X11_back 23 (46, .getfield 234, 3) rfl rfl) rfl clf_1 (by decide) rfl (by decide) wd_465,
    st_aload_n hC (n := 24) (k := 0) (dc_X11_back 24 (49, .aload_n 0, 1) rfl rfl) rfl rfl,
    st_getD hC (n := 25) (k := 11) (j := 12) (dc_X11_back 25 (50, .getfield 87, 3) rfl rfl) rfl clf_11 (by decide) rfl (by decide) wd_723,
    st_getR hC (n := 26) (k := 6) (j := 6) (dc_X11_back 26 (53, .getfield 270, 3) rfl rfl) rfl clf_6 (by decide) rfl (by decide) wd_597,
    st_iload_n hC (n := 27) (k := 1) (dc_X11_back 27 (56, .iload_n 1, 1) rfl rfl) rfl rfl,
    st_iald hC (n := 28) (dc_X11_back 28 (57, .iaload, 1) rfl rfl) rfl,
    st_iald hC (n := 29) (dc_X11_back 29 (58, .iaload, 1) rfl rfl) rfl,
    st_callV hC (n := 30) (k := 11) (na := 1) (con_X11_answer l) (dc_X11_back 30 (59, .invokevirtual 178, 3) rfl rfl) rfl wd_967 wd_143 (by decide) ⟨rfl, rfl, by decide, by decide⟩ hM wd_964 wd_966 wd_17 clf_11,
    st_iret hC (n := 31) hR (dc_X11_back 31 (62, .ireturn, 1) rfl rfl), trivial⟩
set_option maxRecDepth 8000 in
theorem vc_X11_back : VC P_X11_back 2 Pre_X11_back Fn_X11_back := by
  rintro mm as hom hoa ⟨⟨ns, nm, nt, hV⟩, x, rfl⟩
  refine ⟨Nat.le_of_ble_eq_true rfl, fun X h => ?_⟩
  have hS : mm.1 6 (mm.2.2 0) 13 = nI ns := hV.1.1.1
  have hn4 : ns ≤ 4 := hV.1.1.2
  have hN : mm.1 6 (mm.2.2 0) 14 = nI nm := hV.1.2.1.1
  have hm4 : nm ≤ 4 := hV.1.2.1.2
  have hT : mm.1 6 (mm.2.2 0) 15 = nI nt := hV.1.2.2.1.1
  have ht12 : nt ≤ 12 := hV.1.2.2.1.2
  have s19 : ∀ M, VN M ns nm nt → (cbP (abV mm (mm.2.2 0)) x.toNatClampNeg → cl_back mm x = cl_back1 M x) → cbP (abV mm (mm.2.2 0)) x.toNatClampNeg → (∃ i, i < nt ∧ x = nI i) → X 19 [some (vR 11 0), some (vI (x))] [] (M) := by
    intro M hM hF c ⟨i, hi, ex⟩
    have hF := hF c
    show X 19 [some (vR 11 0), some (vI x)] [] M
    refine h (fun _ => false) 3000 19 _ _ _ ?_
    refine And.intro (show inb x (alen 35) = true from (inb_o 12 rfl rfl ex (by omega))) ?_
    refine And.intro (show inb (M.1 35 (M.2.2 0) x.toNatClampNeg) (alen 16) = true from (by obtain ⟨o, ho, eo⟩ := hM.1.2.2.2.1 i hi; rw [ab_of (by omega)] at eo; exact inb_o 4 rfl rfl (by rw [ex, nI_clamp (show i < 2 ^ 31 by omega)]; exact eo) (by omega))) ?_
    refine And.intro (show Pre_X11_answer M [vR 11 0, vI (M.1 16 (M.2.2 0) ((M.1 35 (M.2.2 0) x.toNatClampNeg).toNatClampNeg))] from ⟨_, rfl⟩) ?_
    show ((some (vI (M.1 16 (M.2.2 0) ((M.1 35 (M.2.2 0) x.toNatClampNeg).toNatClampNeg))) : Option MV), stC M 0) = _
    exact hF.symm
  show X 0 [some (vR 11 0), some (vI x)] [] mm
  refine h (fun i => Nat.beq i 19) 3000 0 _ _ _ ?_
  refine And.intro (show Pre_X11_isOut mm [vI x, vI (mm.1 6 (mm.2.2 0) 15)] from ⟨_, _, rfl⟩) ?_
  refine br_c (fun b5 => ?_) (fun b5 => ?_)
  · -- 5: bI (x < 0 ∨ (mm.1 6 (mm.2.2 0) 15) ≤ x) = 0 taken
    replace b5 : ¬ (x < 0 ∨ (mm.1 6 (mm.2.2 0) 15) ≤ x) := bI_0.mp b5
    obtain ⟨i, hi, ex⟩ := ou_in hT (by omega) b5
    have eic : x.toNatClampNeg = i := by rw [ex]; exact nI_clamp (by omega)
    refine And.intro (show Pre_X6_fetch mm [vR 6 (mm.2.2 0), vI x] from ⟨_, ns, nm, nt, i, hV, hi, by rw [ex]⟩) ?_
    refine brn_c (fun b14 => ?_) (fun b14 => ?_)
    · -- 14: bI (cbP (abV mm (mm.2.2 0)) x.toNatClampNeg) = 0 taken
      replace b14 : cbP (abV mm (mm.2.2 0)) x.toNatClampNeg := bI_n0.mp b14
      show X 19 [some (vR 11 0), some (vI x)] [] (mite (cbP (abV mm (mm.2.2 0)) x.toNatClampNeg) (feM mm (mm.2.2 0) x.toNatClampNeg) mm)
      rw [mite_t b14]
      exact s19 _ (VC2_d hV (SML_fe _ _ _) (DDo_fe (DDo_of hV))) (fun c => (if_neg b5).trans (if_pos c)) b14 ⟨i, hi, ex⟩
    · -- 14: bI (cbP (abV mm (mm.2.2 0)) x.toNatClampNeg) = 0 on
      replace b14 : ¬ (cbP (abV mm (mm.2.2 0)) x.toNatClampNeg) := bI_0.mp b14
      refine And.intro (show Pre_X11_refuse (mite (cbP (abV mm (mm.2.2 0)) x.toNatClampNeg) (feM mm (mm.2.2 0) x.toNatClampNeg) mm) [vR 11 0, vI 7] from ⟨_, rfl⟩) ?_
      show ((some (vI (-1)) : Option MV), stC (mite (cbP (abV mm (mm.2.2 0)) x.toNatClampNeg) (feM mm (mm.2.2 0) x.toNatClampNeg) mm) 7) = _
      rw [mite_f b14]
      exact ((if_neg b5).trans (if_neg b14)).symm
  · -- 5: bI (x < 0 ∨ (mm.1 6 (mm.2.2 0) 15) ≤ x) = 0 on
    replace b5 : x < 0 ∨ (mm.1 6 (mm.2.2 0) 15) ≤ x := bI_n0.mp b5
    skip
    refine And.intro (show Pre_X11_refuse mm [vR 11 0, vI 1] from ⟨_, rfl⟩) ?_
    show ((some (vI (-1)) : Option MV), stC mm 1) = _
    exact (if_pos b5).symm
theorem con_X11_back (l : Launch) : CON l y_X11_back prog_1_method_28_code 2 (some .int) rm_X11_back Pre_X11_back Fn_X11_back := CON_of (by decide) rfl rfl (sa_X11_back l) vc_X11_back
def cl_week1 (m : MM)  : Option MV × MM := gvC m (m.1 1 (m.2.2 0) 4)
def cl_week (m : MM)  : Option MV × MM := if ¬ abV m (m.2.2 0) 6 = 999 then cl_week1 (pwM m (m.2.2 0))  else rfC m 4

def Pre_X11_week : PreT := fun m as => VNx m ∧ as = [vR 11 0]
def Fn_X11_week : FnT := fun m as => match as with
  | [_] => cl_week m 
  | _ => (none, m)
abbrev y_X11_week : MethodName := ⟨"GivenUp", "week", "()I"⟩
def P_X11_week : List StpT := [s_aload 0, s_getD 11 12 6 0, s_callV 6 0 Pre_X6_passWeek Fn_X6_passWeek, s_ifne 8, s_aload 0, s_ic (4), s_callV 11 1 Pre_X11_refuse Fn_X11_refuse, s_iret, s_aload 0, s_aload 0, s_getD 11 12 6 0, s_getR 6 11 1, s_getI 1 4, s_callV 11 1 Pre_X11_answer Fn_X11_answer, s_iret]
def pc_X11_week : Nat → Nat := fun i => [0, 1, 4, 7, 10, 11, 12, 15, 16, 17, 18, 21, 24, 27, 30].getD i 0
def dl_X11_week : List (Nat × Instr × Nat) := [(0, .aload_n 0, 1), (1, .getfield 87, 3), (4, .invokevirtual 309, 3), (7, .ifCond .ne 9, 3), (10, .aload_n 0, 1), (11, .iconst 4, 1), (12, .invokevirtual 139, 3), (15, .ireturn, 1), (16, .aload_n 0, 1), (17, .aload_n 0, 1), (18, .getfield 87, 3), (21, .getfield 212, 3), (24, .getfield 216, 3), (27, .invokevirtual 178, 3), (30, .ireturn, 1)]
theorem dc_X11_week : DEC prog_1_method_23_code pc_X11_week dl_X11_week := DEC_of (by decide +kernel)
abbrev rm_X11_week : Room := { frames := 2, cells := 0, slots := 0, locals := 43 }
set_option maxRecDepth 20000 in
theorem sa_X11_week (l : Launch) : SNDALL l prog_1_method_23_code "GivenUp" 1 (some .int) rm_X11_week P_X11_week pc_X11_week := fun p e s m args below meth c cells slots Q D dA ad A RR hC hR => by
  have hM := RTX_room (R := rm_X11_week) hR
  exact ⟨st_aload_n hC (n := 0) (k := 0) (dc_X11_week 0 (0, .aload_n 0, 1) rfl rfl) rfl rfl,
    st_getD hC (n := 1) (k := 11) (j := 12) (dc_X11_week 1 (1, .getfield 87, 3) rfl rfl) rfl clf_11 (by decide) rfl (by decide) wd_723,
    st_callV hC (n := 2) (k := 6) (na := 0) (con_X6_passWeek l) (dc_X11_week 2 (4, .invokevirtual 309, 3) rfl rfl) rfl wd_1135 wd_155 (by decide) ⟨rfl, rfl, by decide, by decide⟩ hM wd_1132 wd_1133 wd_1134 clf_6,
    st_ifne hC (n := 3) (dc_X11_week 3 (7, .ifCond .ne 9, 3) rfl rfl) rfl (by decide),
    st_aload_n hC (n := 4) (k := 0) (dc_X11_week 4 (10, .aload_n 0, 1) rfl rfl) rfl rfl,
    st_iconst hC (n := 5) (x := 4) (dc_X11_week 5 (11, .iconst 4, 1) rfl rfl) rfl (by decide),
    st_callV hC (n := 6) (k := 11) (na := 1) (con_X11_refuse l) (dc_X11_week 6 (12, .invokevirtual 139, 3) rfl rfl) rfl wd_824 wd_143 (by decide) ⟨rfl, rfl, by decide, by decide⟩ hM wd_821 wd_823 wd_3 clf_11,
    st_iret hC (n := 7) hR (dc_X11_week 7 (15, .ireturn, 1) rfl rfl),
    st_aload_n hC (n := 8) (k := 0) (dc_X11_week 8 (16, .aload_n 0, 1) rfl rfl) rfl rfl,
    st_aload_n hC (n := 9) (k := 0) (dc_X11_week 9 (17, .aload_n 0, 1) rfl rfl) rfl rfl,
    st_getD hC (n := 10) (k := 11) (j := 12) (dc_X11_week 10 (18, .getfield 87, 3) rfl rfl) rfl clf_11 (by decide) rfl (by decide) wd_723,
    st_getR hC (n := 11) (k := 6) (j := 11) (dc_X11_week 11 (21, .getfield 212, 3) rfl rfl) rfl clf_6 (by decide) rfl (by decide) wd_613,
    st_getI hC (n := 12) (k := 1) (j := 4) (dc_X11_week 12 (24, .getfield 216, 3) rfl rfl) rfl clf_1 (by decide) rfl wd_479,
    st_callV hC (n := 13) (k := 11) (na := 1) (con_X11_answer l) (dc_X11_week 13 (27, .invokevirtual 178, 3) rfl rfl) rfl wd_967 wd_143 (by decide) ⟨rfl, rfl, by decide, by decide⟩ hM wd_964 wd_966 wd_17 clf_11,
    st_iret hC (n := 14) hR (dc_X11_week 14 (30, .ireturn, 1) rfl rfl), trivial⟩
set_option maxRecDepth 8000 in
theorem vc_X11_week : VC P_X11_week 1 Pre_X11_week Fn_X11_week := by
  rintro mm as hom hoa ⟨⟨ns, nm, nt, hV⟩, rfl⟩
  refine ⟨Nat.le_of_ble_eq_true rfl, fun X h => ?_⟩
  have hS : mm.1 6 (mm.2.2 0) 13 = nI ns := hV.1.1.1
  have hn4 : ns ≤ 4 := hV.1.1.2
  have hN : mm.1 6 (mm.2.2 0) 14 = nI nm := hV.1.2.1.1
  have hm4 : nm ≤ 4 := hV.1.2.1.2
  have hT : mm.1 6 (mm.2.2 0) 15 = nI nt := hV.1.2.2.1.1
  have ht12 : nt ≤ 12 := hV.1.2.2.1.2
  have s8 : ∀ M, VN M ns nm nt → (¬ abV mm (mm.2.2 0) 6 = 999 → cl_week mm  = cl_week1 M ) → ¬ abV mm (mm.2.2 0) 6 = 999 → X 8 [some (vR 11 0)] [] (M) := by
    intro M hM hF c
    have hF := hF c
    show X 8 [some (vR 11 0)] [] M
    refine h (fun _ => false) 3000 8 _ _ _ ?_
    refine And.intro (show Pre_X11_answer M [vR 11 0, vI (M.1 1 (M.2.2 0) 4)] from ⟨_, rfl⟩) ?_
    show ((some (vI (M.1 1 (M.2.2 0) 4)) : Option MV), stC M 0) = _
    exact hF.symm
  show X 0 [some (vR 11 0)] [] mm
  refine h (fun i => Nat.beq i 8) 3000 0 _ _ _ ?_
  refine And.intro (show Pre_X6_passWeek mm [vR 6 (mm.2.2 0)] from ⟨_, ns, nm, nt, hV, rfl⟩) ?_
  refine brn_c (fun b3 => ?_) (fun b3 => ?_)
  · -- 3: bI (¬ abV mm (mm.2.2 0) 6 = 999) = 0 taken
    replace b3 : ¬ abV mm (mm.2.2 0) 6 = 999 := bI_n0.mp b3
    show X 8 [some (vR 11 0)] [] (mite (¬ abV mm (mm.2.2 0) 6 = 999) (pwM mm (mm.2.2 0)) mm)
    rw [mite_t b3]
    exact s8 _ (VC2_d hV (SML_pw _ _) (DDo_pw (DDo_of hV) b3)) (fun c => if_pos c) b3
  · -- 3: bI (¬ abV mm (mm.2.2 0) 6 = 999) = 0 on
    replace b3 : ¬ (¬ abV mm (mm.2.2 0) 6 = 999) := bI_0.mp b3
    refine And.intro (show Pre_X11_refuse (mite (¬ abV mm (mm.2.2 0) 6 = 999) (pwM mm (mm.2.2 0)) mm) [vR 11 0, vI 4] from ⟨_, rfl⟩) ?_
    show ((some (vI (-1)) : Option MV), stC (mite (¬ abV mm (mm.2.2 0) 6 = 999) (pwM mm (mm.2.2 0)) mm) 4) = _
    rw [mite_f b3]
    exact (if_neg b3).symm
theorem con_X11_week (l : Launch) : CON l y_X11_week prog_1_method_23_code 1 (some .int) rm_X11_week Pre_X11_week Fn_X11_week := CON_of (by decide) rfl rfl (sa_X11_week l) vc_X11_week
def cl_wed1 (m : MM) (x y : Int32) : Option MV × MM := gvC m (m.1 16 (m.2.2 0) x.toNatClampNeg)
def cl_wed (m : MM) (x y : Int32) : Option MV × MM := if npC m x y then rfC m 1 else if wdP (abV m (m.2.2 0)) x.toNatClampNeg y.toNatClampNeg then cl_wed1 (mrM m (m.2.2 0) x.toNatClampNeg y.toNatClampNeg) x y else rfC m 7

def Pre_X11_wed : PreT := fun m as => VNx m ∧ ∃ x y : Int32, as = [vR 11 0, vI x, vI y]
def Fn_X11_wed : FnT := fun m as => match as with
  | [_, Sum.inl x, Sum.inl y] => cl_wed m x y
  | _ => (none, m)
abbrev y_X11_wed : MethodName := ⟨"GivenUp", "wed", "(II)I"⟩
def P_X11_wed : List StpT := [s_aload 0, s_iload 1, s_iload 2, s_callV 11 2 Pre_X11_isNoPair Fn_X11_isNoPair, s_ifeq 9, s_aload 0, s_ic (1), s_callV 11 1 Pre_X11_refuse Fn_X11_refuse, s_iret, s_aload 0, s_getD 11 12 6 0, s_iload 1, s_iload 2, s_callV 6 2 Pre_X6_marry Fn_X6_marry, s_ifne 19, s_aload 0, s_ic (7), s_callV 11 1 Pre_X11_refuse Fn_X11_refuse, s_iret, s_aload 0, s_aload 0, s_getD 11 12 6 0, s_getR 6 11 1, s_getR 1 0 16, s_iload 1, s_iald, s_callV 11 1 Pre_X11_answer Fn_X11_answer, s_iret]
def pc_X11_wed : Nat → Nat := fun i => [0, 1, 2, 3, 6, 9, 10, 11, 14, 15, 16, 19, 20, 21, 24, 27, 28, 30, 33, 34, 35, 36, 39, 42, 45, 46, 47, 50].getD i 0
def dl_X11_wed : List (Nat × Instr × Nat) := [(0, .aload_n 0, 1), (1, .iload_n 1, 1), (2, .iload_n 2, 1), (3, .invokevirtual 288, 3), (6, .ifCond .eq 9, 3), (9, .aload_n 0, 1), (10, .iconst 1, 1), (11, .invokevirtual 139, 3), (14, .ireturn, 1), (15, .aload_n 0, 1), (16, .getfield 87, 3), (19, .iload_n 1, 1), (20, .iload_n 2, 1), (21, .invokevirtual 318, 3), (24, .ifCond .ne 10, 3), (27, .aload_n 0, 1), (28, .bipush 7, 2), (30, .invokevirtual 139, 3), (33, .ireturn, 1), (34, .aload_n 0, 1), (35, .aload_n 0, 1), (36, .getfield 87, 3), (39, .getfield 212, 3), (42, .getfield 234, 3), (45, .iload_n 1, 1), (46, .iaload, 1), (47, .invokevirtual 178, 3), (50, .ireturn, 1)]
theorem dc_X11_wed : DEC prog_1_method_27_code pc_X11_wed dl_X11_wed := DEC_of (by decide +kernel)
abbrev rm_X11_wed : Room := { frames := 4, cells := 0, slots := 0, locals := 90 }
set_option maxRecDepth 20000 in
theorem sa_X11_wed (l : Launch) : SNDALL l prog_1_method_27_code "GivenUp" 3 (some .int) rm_X11_wed P_X11_wed pc_X11_wed := fun p e s m args below meth c cells slots Q D dA ad A RR hC hR => by
  have hM := RTX_room (R := rm_X11_wed) hR
  exact ⟨st_aload_n hC (n := 0) (k := 0) (dc_X11_wed 0 (0, .aload_n 0, 1) rfl rfl) rfl rfl,
    st_iload_n hC (n := 1) (k := 1) (dc_X11_wed 1 (1, .iload_n 1, 1) rfl rfl) rfl rfl,
    st_iload_n hC (n := 2) (k := 2) (dc_X11_wed 2 (2, .iload_n 2, 1) rfl rfl) rfl rfl,
    st_callV hC (n := 3) (k := 11) (na := 2) (con_X11_isNoPair l) (dc_X11_wed 3 (3, .invokevirtual 288, 3) rfl rfl) rfl wd_1090 wd_143 (by decide) ⟨rfl, rfl, by decide, by decide⟩ hM wd_1087 wd_1089 wd_24 clf_11,
    st_ifeq hC (n := 4) (dc_X11_wed 4 (6, .ifCond .eq 9, 3) rfl rfl) rfl (by decide),
    st_aload_n hC (n := 5) (k := 0) (dc_X11_wed 5 (9, .aload_n 0, 1) rfl rfl) rfl rfl,
    st_iconst hC (n := 6) (x := 1) (dc_X11_wed 6 (10, .iconst 1, 1) rfl rfl) rfl (by decide),
    st_callV hC (n := 7) (k := 11) (na := 1) (con_X11_refuse l) (dc_X11_wed 7 (11, .invokevirtual 139, 3) rfl rfl) rfl wd_824 wd_143 (by decide) ⟨rfl, rfl, by decide, by decide⟩ hM wd_821 wd_823 wd_3 clf_11,
    st_iret hC (n := 8) hR (dc_X11_wed 8 (14, .ireturn, 1) rfl rfl),
    st_aload_n hC (n := 9) (k := 0) (dc_X11_wed 9 (15, .aload_n 0, 1) rfl rfl) rfl rfl,
    st_getD hC (n := 10) (k := 11) (j := 12) (dc_X11_wed 10 (16, .getfield 87, 3) rfl rfl) rfl clf_11 (by decide) rfl (by decide) wd_723,
    st_iload_n hC (n := 11) (k := 1) (dc_X11_wed 11 (19, .iload_n 1, 1) rfl rfl) rfl rfl,
    st_iload_n hC (n := 12) (k := 2) (dc_X11_wed 12 (20, .iload_n 2, 1) rfl rfl) rfl rfl,
    st_callV hC (n := 13) (k := 6) (na := 2) (con_X6_marry l) (dc_X11_wed 13 (21, .invokevirtual 318, 3) rfl rfl) rfl wd_1173 wd_155 (by decide) ⟨rfl, rfl, by decide, by decide⟩ hM wd_1170 wd_1171 wd_1172 clf_6,
    st_ifne hC (n := 14) (dc_X11_wed 14 (24, .ifCond .ne 10, 3) rfl rfl) rfl (by decide),
    st_aload_n hC (n := 15) (k := 0) (dc_X11_wed 15 (27, .aload_n 0, 1) rfl rfl) rfl rfl,
    st_bipush hC (n := 16) (x := 7) (dc_X11_wed 16 (28, .bipush 7, 2) rfl rfl) rfl (by decide),
    st_callV hC (n := 17) (k := 11) (na := 1) (con_X11_refuse l) (dc_X11_wed 17 (30, .invokevirtual 139, 3) rfl rfl) rfl wd_824 wd_143 (by decide) ⟨rfl, rfl, by decide, by decide⟩ hM wd_821 wd_823 wd_3 clf_11,
    st_iret hC (n := 18) hR (dc_X11_wed 18 (33, .ireturn, 1) rfl rfl),
    st_aload_n hC (n := 19) (k := 0) (dc_X11_wed 19 (34, .aload_n 0, 1) rfl rfl) rfl rfl,
    st_aload_n hC (n := 20) (k := 0) (dc_X11_wed 20 (35, .aload_n 0, 1) rfl rfl) rfl rfl,
    st_getD hC (n := 21) (k := 11) (j := 12) (dc_X11_wed 21 (36, .getfield 87, 3) rfl rfl) rfl clf_11 (by decide) rfl (by decide) wd_723,
    st_getR hC (n := 22) (k := 6) (j := 11) (dc_X11_wed 22 (39, .getfield 212, 3) rfl rfl) rfl clf_6 (by decide) rfl (by decide) wd_613,
    st_getR hC (n := 23) (k := 1) (j := 0) (dc_X11_wed 23 (42, .getfield 234, 3) rfl rfl) rfl clf_1 (by decide) rfl (by decide) wd_465,
    st_iload_n hC (n := 24) (k := 1) (dc_X11_wed 24 (45, .iload_n 1, 1) rfl rfl) rfl rfl,
    st_iald hC (n := 25) (dc_X11_wed 25 (46, .iaload, 1) rfl rfl) rfl,
    st_callV hC (n := 26) (k := 11) (na := 1) (con_X11_answer l) (dc_X11_wed 26 (47, .invokevirtual 178, 3) rfl rfl) rfl wd_967 wd_143 (by decide) ⟨rfl, rfl, by decide, by decide⟩ hM wd_964 wd_966 wd_17 clf_11,
    st_iret hC (n := 27) hR (dc_X11_wed 27 (50, .ireturn, 1) rfl rfl), trivial⟩
set_option maxRecDepth 8000 in
theorem vc_X11_wed : VC P_X11_wed 3 Pre_X11_wed Fn_X11_wed := by
  rintro mm as hom hoa ⟨⟨ns, nm, nt, hV⟩, x, y, rfl⟩
  refine ⟨Nat.le_of_ble_eq_true rfl, fun X h => ?_⟩
  have hS : mm.1 6 (mm.2.2 0) 13 = nI ns := hV.1.1.1
  have hn4 : ns ≤ 4 := hV.1.1.2
  have hN : mm.1 6 (mm.2.2 0) 14 = nI nm := hV.1.2.1.1
  have hm4 : nm ≤ 4 := hV.1.2.1.2
  have hT : mm.1 6 (mm.2.2 0) 15 = nI nt := hV.1.2.2.1.1
  have ht12 : nt ≤ 12 := hV.1.2.2.1.2
  have s19 : ∀ M, VN M ns nm nt → (wdP (abV mm (mm.2.2 0)) x.toNatClampNeg y.toNatClampNeg → cl_wed mm x y = cl_wed1 M x y) → wdP (abV mm (mm.2.2 0)) x.toNatClampNeg y.toNatClampNeg → (∃ i, i < ns ∧ x = nI i) → X 19 [some (vR 11 0), some (vI (x)), some (vI (y))] [] (M) := by
    intro M hM hF c ⟨i, hi, ex⟩
    have hF := hF c
    show X 19 [some (vR 11 0), some (vI x), some (vI y)] [] M
    refine h (fun _ => false) 3000 19 _ _ _ ?_
    refine And.intro (show inb x (alen 16) = true from (inb_o 4 rfl rfl ex (by omega))) ?_
    refine And.intro (show Pre_X11_answer M [vR 11 0, vI (M.1 16 (M.2.2 0) x.toNatClampNeg)] from ⟨_, rfl⟩) ?_
    show ((some (vI (M.1 16 (M.2.2 0) x.toNatClampNeg)) : Option MV), stC M 0) = _
    exact hF.symm
  show X 0 [some (vR 11 0), some (vI x), some (vI y)] [] mm
  refine h (fun i => Nat.beq i 19) 3000 0 _ _ _ ?_
  refine And.intro (show Pre_X11_isNoPair mm [vR 11 0, vI x, vI y] from ⟨_, _, rfl⟩) ?_
  refine br_c (fun b4 => ?_) (fun b4 => ?_)
  · -- 4: bI (npC mm x y) = 0 taken
    replace b4 : ¬ (npC mm x y) := bI_0.mp b4
    obtain ⟨i, hi, ex⟩ := ou_in hS (by omega) (fun z => b4 (Or.inl z))
    obtain ⟨j, hj, ey⟩ := ou_in hN (by omega) (fun z => b4 (Or.inr z))
    have exc : x.toNatClampNeg = i := by rw [ex]; exact nI_clamp (by omega)
    have eyc : y.toNatClampNeg = j := by rw [ey]; exact nI_clamp (by omega)
    refine And.intro (show Pre_X6_marry mm [vR 6 (mm.2.2 0), vI x, vI y] from ⟨_, ns, nm, nt, i, j, hV, by omega, by omega, by rw [ex, ey]⟩) ?_
    refine brn_c (fun b14 => ?_) (fun b14 => ?_)
    · -- 14: bI (wdP (abV mm (mm.2.2 0)) x.toNatClampNeg y.toNatClampNeg) = 0 taken
      replace b14 : wdP (abV mm (mm.2.2 0)) x.toNatClampNeg y.toNatClampNeg := bI_n0.mp b14
      show X 19 [some (vR 11 0), some (vI x), some (vI y)] [] (mite (wdP (abV mm (mm.2.2 0)) x.toNatClampNeg y.toNatClampNeg) (mrM mm (mm.2.2 0) x.toNatClampNeg y.toNatClampNeg) mm)
      rw [mite_t b14]
      exact s19 _ (VC2_d hV (SML_mr _ _ _ _) (DDo_mr (DDo_of hV) (by omega) (by omega))) (fun c => (if_neg b4).trans (if_pos c)) b14 ⟨i, hi, ex⟩
    · -- 14: bI (wdP (abV mm (mm.2.2 0)) x.toNatClampNeg y.toNatClampNeg) = 0 on
      replace b14 : ¬ (wdP (abV mm (mm.2.2 0)) x.toNatClampNeg y.toNatClampNeg) := bI_0.mp b14
      refine And.intro (show Pre_X11_refuse (mite (wdP (abV mm (mm.2.2 0)) x.toNatClampNeg y.toNatClampNeg) (mrM mm (mm.2.2 0) x.toNatClampNeg y.toNatClampNeg) mm) [vR 11 0, vI 7] from ⟨_, rfl⟩) ?_
      show ((some (vI (-1)) : Option MV), stC (mite (wdP (abV mm (mm.2.2 0)) x.toNatClampNeg y.toNatClampNeg) (mrM mm (mm.2.2 0) x.toNatClampNeg y.toNatClampNeg) mm) 7) = _
      rw [mite_f b14]
      exact ((if_neg b4).trans (if_neg b14)).symm
  · -- 4: bI (npC mm x y) = 0 on
    replace b4 : npC mm x y := bI_n0.mp b4
    refine And.intro (show Pre_X11_refuse mm [vR 11 0, vI 1] from ⟨_, rfl⟩) ?_
    show ((some (vI (-1)) : Option MV), stC mm 1) = _
    exact (if_pos b4).symm
theorem con_X11_wed (l : Launch) : CON l y_X11_wed prog_1_method_27_code 3 (some .int) rm_X11_wed Pre_X11_wed Fn_X11_wed := CON_of (by decide) rfl rfl (sa_X11_wed l) vc_X11_wed
def cfoM (m : MM) (x : Int32) : MM := mI m 1 (m.2.2 0) 6 (m.1 1 (m.2.2 0) 6 &&& (1 <<< (x &&& 31) ^^^ (-1)))
def cl_found1 (m : MM) (x : Int32) : Option MV × MM := gvC m (nI (pcN (thA (abV m (m.2.2 0)) (m.1 35 (m.2.2 0) x.toNatClampNeg) &&& abV m (m.2.2 0) 9).toNatClampNeg))
def cl_found (m : MM) (x : Int32) : Option MV × MM := if x < 0 ∨ m.1 6 (m.2.2 0) 15 ≤ x then rfC m 1 else if inS (m.1 1 (m.2.2 0) 6) x then cl_found1 (cfoM m x) x else rfC m 7
theorem VC2_fo {m : MM} {x : Int32} {ns nm nt : Nat} (h : VN m ns nm nt) : VN (cfoM m x) ns nm nt := VC2_d h (SML_R (by decide) (SML_r m)) (DDo_c (DDo_of h) rfl rfl (by unfold cfoM; exact mI_ne (by decide)))

def Pre_X11_found : PreT := fun m as => VNx m ∧ ∃ x : Int32, as = [vR 11 0, vI x]
def Fn_X11_found : FnT := fun m as => match as with
  | [_, Sum.inl x] => cl_found m x
  | _ => (none, m)
abbrev y_X11_found : MethodName := ⟨"GivenUp", "found", "(I)I"⟩
def P_X11_found : List StpT := [s_iload 1, s_aload 0, s_getD 11 12 6 0, s_getI 6 15, s_callS 2 Pre_X11_isOut Fn_X11_isOut, s_ifeq 10, s_aload 0, s_ic (1), s_callV 11 1 Pre_X11_refuse Fn_X11_refuse, s_iret, s_aload 0, s_getD 11 12 6 0, s_getR 6 11 1, s_getI 1 6, s_iload 1, s_callS 2 Pre_X11_holds Fn_X11_holds, s_ifne 21, s_aload 0, s_ic (7), s_callV 11 1 Pre_X11_refuse Fn_X11_refuse, s_iret, s_aload 0, s_getD 11 12 6 0, s_getR 6 11 1, s_dup, s_getI 1 6, s_ic (1), s_iload 1, s_ishl, s_ic (-1), s_ixor, s_iand, s_putI 1 6, s_aload 0, s_aload 0, s_getD 11 12 6 0, s_aload 0, s_getD 11 12 6 0, s_getR 6 6 35, s_iload 1, s_iald, s_callV 6 1 Pre_X6_feignedBy Fn_X6_feignedBy, s_callV 11 1 Pre_X11_answer Fn_X11_answer, s_iret]
def pc_X11_found : Nat → Nat := fun i => [0, 1, 2, 5, 8, 11, 14, 15, 16, 19, 20, 21, 24, 27, 30, 31, 34, 37, 38, 40, 43, 44, 45, 48, 51, 52, 55, 56, 57, 58, 59, 60, 61, 64, 65, 66, 69, 70, 73, 76, 77, 78, 81, 84].getD i 0
def dl_X11_found : List (Nat × Instr × Nat) := [(0, .iload_n 1, 1), (1, .aload_n 0, 1), (2, .getfield 87, 3), (5, .getfield 175, 3), (8, .invokestatic 115, 3), (11, .ifCond .eq 9, 3), (14, .aload_n 0, 1), (15, .iconst 1, 1), (16, .invokevirtual 139, 3), (19, .ireturn, 1), (20, .aload_n 0, 1), (21, .getfield 87, 3), (24, .getfield 212, 3), (27, .getfield 228, 3), (30, .iload_n 1, 1), (31, .invokestatic 303, 3), (34, .ifCond .ne 10, 3), (37, .aload_n 0, 1), (38, .bipush 7, 2), (40, .invokevirtual 139, 3), (43, .ireturn, 1), (44, .aload_n 0, 1), (45, .getfield 87, 3), (48, .getfield 212, 3), (51, .dup, 1), (52, .getfield 228, 3), (55, .iconst 1, 1), (56, .iload_n 1, 1), (57, .ishl, 1), (58, .iconst (-1), 1), (59, .ixor, 1), (60, .iand, 1), (61, .putfield 228, 3), (64, .aload_n 0, 1), (65, .aload_n 0, 1), (66, .getfield 87, 3), (69, .aload_n 0, 1), (70, .getfield 87, 3), (73, .getfield 270, 3), (76, .iload_n 1, 1), (77, .iaload, 1), (78, .invokevirtual 300, 3), (81, .invokevirtual 178, 3), (84, .ireturn, 1)]
theorem dc_X11_found : DEC prog_1_method_21_code pc_X11_found dl_X11_found := DEC_of (by decide +kernel)
abbrev rm_X11_found : Room := { frames := 2, cells := 0, slots := 0, locals := 44 }
set_option maxRecDepth 20000 in
theorem sa_X11_found (l : Launch) : SNDALL l prog_1_method_21_code "GivenUp" 2 (some .int) rm_X11_found P_X11_found pc_X11_found := fun p e s m args below meth c cells slots Q D dA ad A RR hC hR => by
  have hM := RTX_room (R := rm_X11_found) hR
  exact ⟨st_iload_n hC (n := 0) (k := 1) (dc_X11_found 0 (0, .iload_n 1, 1) rfl rfl) rfl rfl,
    st_aload_n hC (n := 1) (k := 0) (dc_X11_found 1 (1, .aload_n 0, 1) rfl rfl) rfl rfl,
    st_getD hC (n := 2) (k := 11) (j := 12) (dc_X11_found 2 (2, .getfield 87, 3) rfl rfl) rfl clf_11 (by decide) rfl (by decide) wd_723,
    st_getI hC (n := 3) (k := 6) (j := 15) (dc_X11_found 3 (5, .getfield 175, 3) rfl rfl) rfl clf_6 (by decide) rfl wd_633,
    st_callS hC (n := 4) (na := 2) (con_X11_isOut l) (dc_X11_found 4 (8, .invokestatic 115, 3) rfl rfl) rfl wd_790 wd_143 (by decide) ⟨rfl, rfl, by decide, by decide⟩ hM wd_788 wd_789,
    st_ifeq hC (n := 5) (dc_X11_found 5 (11, .ifCond .eq 9, 3) rfl rfl) rfl (by decide),
    st_aload_n hC (n := 6) (k := 0) (dc_X11_found 6 (14, .aload_n 0, 1) rfl rfl) rfl rfl,
    st_iconst hC (n := 7) (x := 1) (dc_X11_found 7 (15, .iconst 1, 1) rfl rfl) rfl (by decide),
    st_callV hC (n := 8) (k := 11) (na := 1) (con_X11_refuse l) (dc_X11_found 8 (16, .invokevirtual 139, 3) rfl rfl) rfl wd_824 wd_143 (by decide) ⟨rfl, rfl, by decide, by decide⟩ hM wd_821 wd_823 wd_3 clf_11,
    st_iret hC (n := 9) hR (dc_X11_found 9 (19, .ireturn, 1) rfl rfl),
    st_aload_n hC (n := 10) (k := 0) (dc_X11_found 10 (20, .aload_n 0, 1) rfl rfl) rfl rfl,
    st_getD hC (n := 11) (k := 11) (j := 12) (dc_X11_found 11 (21, .getfield 87, 3) rfl rfl) rfl clf_11 (by decide) rfl (by decide) wd_723,
    st_getR hC (n := 12) (k := 6) (j := 11) (dc_X11_found 12 (24, .getfield 212, 3) rfl rfl) rfl clf_6 (by decide) rfl (by decide) wd_613,
    st_getI hC (n := 13) (k := 1) (j := 6) (dc_X11_found 13 (27, .getfield 228, 3) rfl rfl) rfl clf_1 (by decide) rfl wd_487,
    st_iload_n hC (n := 14) (k := 1) (dc_X11_found 14 (30, .iload_n 1, 1) rfl rfl) rfl rfl,
    st_callS hC (n := 15) (na := 2) (con_X11_holds l) (dc_X11_found 15 (31, .invokestatic 303, 3) rfl rfl) rfl wd_955 wd_143 (by decide) ⟨rfl, rfl, by decide, by decide⟩ hM wd_1119 wd_954,
    st_ifne hC (n := 16) (dc_X11_found 16 (34, .ifCond .ne 10, 3) rfl rfl) rfl (by decide),
    st_aload_n hC (n := 17) (k := 0) (dc_X11_found 17 (37, .aload_n 0, 1) rfl rfl) rfl rfl,
    st_bipush hC (n := 18) (x := 7) (dc_X11_found 18 (38, .bipush 7, 2) rfl rfl) rfl (by decide),
    st_callV hC (n := 19) (k := 11) (na := 1) (con_X11_refuse l) (dc_X11_found 19 (40, .invokevirtual 139, 3) rfl rfl) rfl wd_824 wd_143 (by decide) ⟨rfl, rfl, by decide, by decide⟩ hM wd_821 wd_823 wd_3 clf_11,
    st_iret hC (n := 20) hR (dc_X11_found 20 (43, .ireturn, 1) rfl rfl),
    st_aload_n hC (n := 21) (k := 0) (dc_X11_found 21 (44, .aload_n 0, 1) rfl rfl) rfl rfl,
    st_getD hC (n := 22) (k := 11) (j := 12) (dc_X11_found 22 (45, .getfield 87, 3) rfl rfl) rfl clf_11 (by decide) rfl (by decide) wd_723,
    st_getR hC (n := 23) (k := 6) (j := 11) (dc_X11_found 23 (48, .getfield 212, 3) rfl rfl) rfl clf_6 (by decide) rfl (by decide) wd_613,
    st_dup hC (n := 24) (dc_X11_found 24 (51, .dup, 1) rfl rfl) rfl,
    st_getI hC (n := 25) (k := 1) (j := 6) (dc_X11_found 25 (52, .getfield 228, 3) rfl rfl) rfl clf_1 (by decide) rfl wd_487,
    st_iconst hC (n := 26) (x := 1) (dc_X11_found 26 (55, .iconst 1, 1) rfl rfl) rfl (by decide),
    st_iload_n hC (n := 27) (k := 1) (dc_X11_found 27 (56, .iload_n 1, 1) rfl rfl) rfl rfl,
    st_ishl hC (n := 28) (dc_X11_found 28 (57, .ishl, 1) rfl rfl) rfl,
    st_iconst hC (n := 29) (x := (-1)) (dc_X11_found 29 (58, .iconst (-1), 1) rfl rfl) rfl (by decide),
    st_ixor hC (n := 30) (dc_X11_found 30 (59, .ixor, 1) rfl rfl) rfl,
    st_iand hC (n := 31) (dc_X11_found 31 (60, .iand, 1) rfl rfl) rfl,
    st_putI hC (n := 32) (k := 1) (j := 6) (dc_X11_found 32 (61, .putfield 228, 3) rfl rfl) rfl clf_1 (by decide) rfl rfl rfl wd_487,
    st_aload_n hC (n := 33) (k := 0) (dc_X11_found 33 (64, .aload_n 0, 1) rfl rfl) rfl rfl,
    st_aload_n hC (n := 34) (k := 0) (dc_X11_found 34 (65, .aload_n 0, 1) rfl rfl) rfl rfl,
    st_getD hC (n := 35) (k := 11) (j := 12) (dc_X11_found 35 (66, .getfield 87, 3) rfl rfl) rfl clf_11 (by decide) rfl (by decide) wd_723,
    st_aload_n hC (n := 36) (k := 0) (dc_X11_found 36 (69, .aload_n 0, 1) rfl rfl) rfl rfl,
    st_getD hC (n := 37) (k := 11) (j := 12) (dc_X11_found 37 (70, .getfield 87, 3) rfl rfl) rfl clf_11 (by decide) rfl (by decide) wd_723,
    st_getR hC (n := 38) (k := 6) (j := 6) (dc_X11_found 38 (73, .getfield 270, 3) rfl rfl) rfl clf_6 (by decide) rfl (by decide) wd_597,
    st_iload_n hC (n := 39) (k := 1) (dc_X11_found 39 (76, .iload_n 1, 1) rfl rfl) rfl rfl,
    st_iald hC (n := 40) (dc_X11_found 40 (77, .iaload, 1) rfl rfl) rfl,
    st_callV hC (n := 41) (k := 6) (na := 1) (con_X6_feignedBy l) (dc_X11_found 41 (78, .invokevirtual 300, 3) rfl rfl) rfl wd_1114 wd_155 (by decide) ⟨rfl, rfl, by decide, by decide⟩ hM wd_1111 wd_1112 wd_1113 clf_6,
    st_callV hC (n := 42) (k := 11) (na := 1) (con_X11_answer l) (dc_X11_found 42 (81, .invokevirtual 178, 3) rfl rfl) rfl wd_967 wd_143 (by decide) ⟨rfl, rfl, by decide, by decide⟩ hM wd_964 wd_966 wd_17 clf_11,
    st_iret hC (n := 43) hR (dc_X11_found 43 (84, .ireturn, 1) rfl rfl), trivial⟩
set_option maxRecDepth 8000 in
theorem vc_X11_found : VC P_X11_found 2 Pre_X11_found Fn_X11_found := by
  rintro mm as hom hoa ⟨⟨ns, nm, nt, hV⟩, x, rfl⟩
  refine ⟨Nat.le_of_ble_eq_true rfl, fun X h => ?_⟩
  have hS : mm.1 6 (mm.2.2 0) 13 = nI ns := hV.1.1.1
  have hn4 : ns ≤ 4 := hV.1.1.2
  have hN : mm.1 6 (mm.2.2 0) 14 = nI nm := hV.1.2.1.1
  have hm4 : nm ≤ 4 := hV.1.2.1.2
  have hT : mm.1 6 (mm.2.2 0) 15 = nI nt := hV.1.2.2.1.1
  have ht12 : nt ≤ 12 := hV.1.2.2.1.2
  have s33 : ∀ M, VN M ns nm nt → cl_found mm x = cl_found1 M x → (∃ i, i < nt ∧ x = nI i) → X 33 [some (vR 11 0), some (vI (x))] [] (M) := by
    intro M hM hF ⟨i, hi, ex⟩
    show X 33 [some (vR 11 0), some (vI x)] [] M
    refine h (fun _ => false) 3000 33 _ _ _ ?_
    refine And.intro (show inb x (alen 35) = true from (inb_o 12 rfl rfl ex (by omega))) ?_
    refine And.intro (show Pre_X6_feignedBy M [vR 6 (M.2.2 0), vI (M.1 35 (M.2.2 0) x.toNatClampNeg)] from ⟨_, ns, nm, nt, hM, _, rfl⟩) ?_
    refine And.intro (show Pre_X11_answer M [vR 11 0, vI (nI (pcN (thA (abV M (M.2.2 0)) (M.1 35 (M.2.2 0) x.toNatClampNeg) &&& abV M (M.2.2 0) 9).toNatClampNeg))] from ⟨_, rfl⟩) ?_
    show ((some (vI (nI (pcN (thA (abV M (M.2.2 0)) (M.1 35 (M.2.2 0) x.toNatClampNeg) &&& abV M (M.2.2 0) 9).toNatClampNeg))) : Option MV), stC M 0) = _
    exact hF.symm
  show X 0 [some (vR 11 0), some (vI x)] [] mm
  refine h (fun i => Nat.beq i 33) 3000 0 _ _ _ ?_
  refine And.intro (show Pre_X11_isOut mm [vI x, vI (mm.1 6 (mm.2.2 0) 15)] from ⟨_, _, rfl⟩) ?_
  refine br_c (fun b5 => ?_) (fun b5 => ?_)
  · -- 5: bI (x < 0 ∨ (mm.1 6 (mm.2.2 0) 15) ≤ x) = 0 taken
    replace b5 : ¬ (x < 0 ∨ (mm.1 6 (mm.2.2 0) 15) ≤ x) := bI_0.mp b5
    obtain ⟨i, hi, ex⟩ := ou_in hT (by omega) b5
    refine And.intro (show Pre_X11_holds mm [vI (mm.1 1 (mm.2.2 0) 6), vI x] from ⟨_, _, rfl⟩) ?_
    refine brn_c (fun b16 => ?_) (fun b16 => ?_)
    · -- 16: bI (inS (mm.1 1 (mm.2.2 0) 6) x) = 0 taken
      replace b16 : inS (mm.1 1 (mm.2.2 0) 6) x := bI_n0.mp b16
      show X 33 [some (vR 11 0), some (vI x)] [] (mI mm 1 (mm.2.2 0) 6 ((mm.1 1 (mm.2.2 0) 6) &&& ((1 <<< (x &&& 31)) ^^^ (-1))))
      exact s33 _ (VC2_fo hV) ((if_neg b5).trans (if_pos b16)) ⟨i, hi, ex⟩
    · -- 16: bI (inS (mm.1 1 (mm.2.2 0) 6) x) = 0 on
      replace b16 : ¬ (inS (mm.1 1 (mm.2.2 0) 6) x) := bI_0.mp b16
      refine And.intro (show Pre_X11_refuse mm [vR 11 0, vI 7] from ⟨_, rfl⟩) ?_
      show ((some (vI (-1)) : Option MV), stC mm 7) = _
      exact ((if_neg b5).trans (if_neg b16)).symm
  · -- 5: bI (x < 0 ∨ (mm.1 6 (mm.2.2 0) 15) ≤ x) = 0 on
    replace b5 : x < 0 ∨ (mm.1 6 (mm.2.2 0) 15) ≤ x := bI_n0.mp b5
    refine And.intro (show Pre_X11_refuse mm [vR 11 0, vI 1] from ⟨_, rfl⟩) ?_
    show ((some (vI (-1)) : Option MV), stC mm 1) = _
    exact (if_pos b5).symm
theorem con_X11_found (l : Launch) : CON l y_X11_found prog_1_method_21_code 2 (some .int) rm_X11_found Pre_X11_found Fn_X11_found := CON_of (by decide) rfl rfl (sa_X11_found l) vc_X11_found
end
