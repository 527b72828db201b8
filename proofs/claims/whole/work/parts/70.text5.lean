/-! PART 70: the class: the other parts of a valley's text -/

def c7mM (m : MM) (g : Nat) (nm : Int64) (b r o : Int32) : MM := mI (mRow (mRow (mRow (mRowL m 29 g (vp_updL (m.2.1 29 g) (4 + m.1 6 g 14).toNatClampNeg nm)) 32 g (upd (m.1 32 g) (m.1 6 g 14).toNatClampNeg b)) 33 g (upd (m.1 33 g) (m.1 6 g 14).toNatClampNeg r)) 34 g (upd (m.1 34 g) (m.1 6 g 14).toNatClampNeg o)) 6 g 14 (m.1 6 g 14 + 1)
def c7mG (g : Nat) (nm : Int64) (b r o : Int32) (m : MM) : PR := (true, c7mM m g nm b r o)
def c7mF (g : Nat) (nm : Int64) (b r o : Int32) (m : MM) : PR := pBd (skC m 33) (c7mG g nm b r o)
def c7mE (g : Nat) (nm : Int64) (b r : Int32) (m : MM) : PR := pBi (opC m 6 0 9) (c7mF g nm b r)
def c7mD (g : Nat) (nm : Int64) (b : Int32) (m : MM) : PR := pBi (opC m 5 0 20) (c7mE g nm b)
def c7mB (g : Nat) (nm : Int64) (m : MM) : PR := pBi (amC m 0 999) (c7mD g nm)
def c7mA (g : Nat) (nm : Int64) (m : MM) : PR := pBd (skC m 4) (c7mB g nm)
def c7mC (g : Nat) (m : MM) : PR := if m.1 6 g 14 < 4 then pBl (nwC (spM m) g) (c7mA g) else (false, faC m 6)

--tpl ⟨_, _, _, _, _, by assumption, rfl⟩ || bI ((c7mC {g1} {m}).1 = true) || (c7mC {g1} {m}).2
def Pre_X7_readMaid : PreT := fun m as => ∃ g ns nm nt na : Nat, CJ m g ns nm nt na ∧ as = [vR 7 0, vR 6 g]
def Fn_X7_readMaid : FnT := fun m as => match as with
  | [_, Sum.inr (Sum.inr q)] => (some (vI (bI ((c7mC q.2 m).1 = true))), (c7mC q.2 m).2)
  | _ => (none, m)
abbrev y_X7_readMaid : MethodName := ⟨"GivenUp$ValleyReader", "readMaid", "(LGivenUp$Valley;)Z"⟩
def P_X7_readMaid : List StpT := [s_aload 1, s_getI 6 14, s_ic (4), s_iclt 9, s_aload 0, s_getC 7 0 4 0, s_ic (6), s_callV 4 1 Pre_X4_fail Fn_X4_fail, s_zret, s_aload 0, s_getC 7 0 4 0, s_callV 4 0 Pre_X4_step Fn_X4_step, s_aload 0, s_getC 7 0 4 0, s_aload 1, s_getR 6 0 29, s_callV 4 1 Pre_X4_newName Fn_X4_newName, s_lstore 2, s_lload 2, s_lc 0, s_lcmp, s_ifeq 27, s_aload 0, s_getC 7 0 4 0, s_ic (4), s_callV 4 1 Pre_X4_skip Fn_X4_skip, s_ifne 29, s_ic (0), s_zret, s_aload 0, s_getC 7 0 4 0, s_ic (0), s_ic (999), s_callV 4 2 Pre_X4_amount Fn_X4_amount, s_istore 4, s_iload 4, s_ifge 39, s_ic (0), s_zret, s_aload 0, s_getC 7 0 4 0, s_ic (5), s_ic (0), s_ic (20), s_callV 4 3 Pre_X4_option Fn_X4_option, s_istore 5, s_iload 5, s_ifge 50, s_ic (0), s_zret, s_aload 0, s_getC 7 0 4 0, s_ic (6), s_ic (0), s_ic (9), s_callV 4 3 Pre_X4_option Fn_X4_option, s_istore 6, s_iload 6, s_iflt 64, s_aload 0, s_getC 7 0 4 0, s_ic (33), s_callV 4 1 Pre_X4_skip Fn_X4_skip, s_ifne 66, s_ic (0), s_zret, s_aload 1, s_getR 6 0 29, s_ic (4), s_aload 1, s_getI 6 14, s_iadd, s_lload 2, s_last, s_aload 1, s_getR 6 3 32, s_aload 1, s_getI 6 14, s_iload 4, s_iast, s_aload 1, s_getR 6 4 33, s_aload 1, s_getI 6 14, s_iload 5, s_iast, s_aload 1, s_getR 6 5 34, s_aload 1, s_getI 6 14, s_iload 6, s_iast, s_aload 1, s_dup, s_getI 6 14, s_ic (1), s_iadd, s_putI 6 14, s_ic (1), s_zret]
def pc_X7_readMaid : Nat → Nat := fun i => [0, 1, 4, 5, 8, 9, 12, 14, 17, 18, 19, 22, 25, 26, 29, 30, 33, 36, 37, 38, 39, 40, 43, 44, 47, 48, 51, 54, 55, 56, 57, 60, 61, 64, 67, 69, 71, 74, 75, 76, 77, 80, 81, 82, 84, 87, 89, 91, 94, 95, 96, 97, 100, 102, 103, 105, 108, 110, 112, 115, 116, 119, 121, 124, 127, 128, 129, 130, 133, 134, 135, 138, 139, 140, 141, 142, 145, 146, 149, 151, 152, 153, 156, 157, 160, 162, 163, 164, 167, 168, 171, 173, 174, 175, 176, 179, 180, 181, 184, 185].getD i 0
def dl_X7_readMaid : List (Nat × Instr × Nat) := [(0, .aload_n 1, 1), (1, .getfield 107, 3), (4, .iconst 4, 1), (5, .if_icmp .lt 13, 3), (8, .aload_n 0, 1), (9, .getfield 18, 3), (12, .bipush 6, 2), (14, .invokevirtual 72, 3), (17, .ireturn, 1), (18, .aload_n 0, 1), (19, .getfield 18, 3), (22, .invokevirtual 76, 3), (25, .aload_n 0, 1), (26, .getfield 18, 3), (29, .aload_n 1, 1), (30, .getfield 79, 3), (33, .invokevirtual 83, 3), (36, .lstore_n 2, 1), (37, .lload_n 2, 1), (38, .lconst 0, 1), (39, .lcmp, 1), (40, .ifCond .eq 14, 3), (43, .aload_n 0, 1), (44, .getfield 18, 3), (47, .iconst 4, 1), (48, .invokevirtual 91, 3), (51, .ifCond .ne 5, 3), (54, .iconst 0, 1), (55, .ireturn, 1), (56, .aload_n 0, 1), (57, .getfield 18, 3), (60, .iconst 0, 1), (61, .sipush 999, 3), (64, .invokevirtual 110, 3), (67, .istore 4, 2), (69, .iload 4, 2), (71, .ifCond .ge 5, 3), (74, .iconst 0, 1), (75, .ireturn, 1), (76, .aload_n 0, 1), (77, .getfield 18, 3), (80, .iconst 5, 1), (81, .iconst 0, 1), (82, .bipush 20, 2), (84, .invokevirtual 87, 3), (87, .istore 5, 2), (89, .iload 5, 2), (91, .ifCond .ge 5, 3), (94, .iconst 0, 1), (95, .ireturn, 1), (96, .aload_n 0, 1), (97, .getfield 18, 3), (100, .bipush 6, 2), (102, .iconst 0, 1), (103, .bipush 9, 2), (105, .invokevirtual 87, 3), (108, .istore 6, 2), (110, .iload 6, 2), (112, .ifCond .lt 15, 3), (115, .aload_n 0, 1), (116, .getfield 18, 3), (119, .bipush 33, 2), (121, .invokevirtual 91, 3), (124, .ifCond .ne 5, 3), (127, .iconst 0, 1), (128, .ireturn, 1), (129, .aload_n 1, 1), (130, .getfield 79, 3), (133, .iconst 4, 1), (134, .aload_n 1, 1), (135, .getfield 107, 3), (138, .iadd, 1), (139, .lload_n 2, 1), (140, .lastore, 1), (141, .aload_n 1, 1), (142, .getfield 114, 3), (145, .aload_n 1, 1), (146, .getfield 107, 3), (149, .iload 4, 2), (151, .iastore, 1), (152, .aload_n 1, 1), (153, .getfield 117, 3), (156, .aload_n 1, 1), (157, .getfield 107, 3), (160, .iload 5, 2), (162, .iastore, 1), (163, .aload_n 1, 1), (164, .getfield 120, 3), (167, .aload_n 1, 1), (168, .getfield 107, 3), (171, .iload 6, 2), (173, .iastore, 1), (174, .aload_n 1, 1), (175, .dup, 1), (176, .getfield 107, 3), (179, .iconst 1, 1), (180, .iadd, 1), (181, .putfield 107, 3), (184, .iconst 1, 1), (185, .ireturn, 1)]
theorem dc_X7_readMaid : DEC prog_9_method_4_code pc_X7_readMaid dl_X7_readMaid := DEC_of (by decide +kernel)
abbrev rm_X7_readMaid : Room := { frames := 4, cells := 0, slots := 0, locals := 87 }
set_option maxRecDepth 20000 in
theorem sa_X7_readMaid (l : Launch) : SNDALL l prog_9_method_4_code "GivenUp$ValleyReader" 7 (some .boolean) rm_X7_readMaid P_X7_readMaid pc_X7_readMaid := fun p e s m args below meth c cells slots Q D dA ad A RR hC hR => by
  have hM := RTX_room (R := rm_X7_readMaid) hR
  exact ⟨st_aload_n hC (n := 0) (k := 1) (dc_X7_readMaid 0 (0, .aload_n 1, 1) rfl rfl) rfl rfl,
    st_getI hC (n := 1) (k := 6) (j := 14) (dc_X7_readMaid 1 (1, .getfield 107, 3) rfl rfl) rfl clf_6 (by decide) rfl wd_626,
    st_iconst hC (n := 2) (x := 4) (dc_X7_readMaid 2 (4, .iconst 4, 1) rfl rfl) rfl (by decide),
    st_iclt hC (n := 3) (dc_X7_readMaid 3 (5, .if_icmp .lt 13, 3) rfl rfl) rfl (by decide),
    st_aload_n hC (n := 4) (k := 0) (dc_X7_readMaid 4 (8, .aload_n 0, 1) rfl rfl) rfl rfl,
    st_getC hC (n := 5) (k := 7) (j := 0) (dc_X7_readMaid 5 (9, .getfield 18, 3) rfl rfl) rfl clf_7 (by decide) rfl (by decide) wd_277,
    st_bipush hC (n := 6) (x := 6) (dc_X7_readMaid 6 (12, .bipush 6, 2) rfl rfl) rfl (by decide),
    st_callV hC (n := 7) (k := 4) (na := 1) (con_X4_fail l) (dc_X7_readMaid 7 (14, .invokevirtual 72, 3) rfl rfl) rfl wd_878 wd_144 (by decide) ⟨rfl, rfl, by decide, by decide⟩ hM wd_875 wd_876 wd_877 clf_4,
    st_zret hC (n := 8) hR (dc_X7_readMaid 8 (17, .ireturn, 1) rfl rfl),
    st_aload_n hC (n := 9) (k := 0) (dc_X7_readMaid 9 (18, .aload_n 0, 1) rfl rfl) rfl rfl,
    st_getC hC (n := 10) (k := 7) (j := 0) (dc_X7_readMaid 10 (19, .getfield 18, 3) rfl rfl) rfl clf_7 (by decide) rfl (by decide) wd_277,
    st_callV hC (n := 11) (k := 4) (na := 0) (con_X4_step l) (dc_X7_readMaid 11 (22, .invokevirtual 76, 3) rfl rfl) rfl wd_859 wd_144 (by decide) ⟨rfl, rfl, by decide, by decide⟩ hM wd_879 wd_857 wd_858 clf_4,
    st_aload_n hC (n := 12) (k := 0) (dc_X7_readMaid 12 (25, .aload_n 0, 1) rfl rfl) rfl rfl,
    st_getC hC (n := 13) (k := 7) (j := 0) (dc_X7_readMaid 13 (26, .getfield 18, 3) rfl rfl) rfl clf_7 (by decide) rfl (by decide) wd_277,
    st_aload_n hC (n := 14) (k := 1) (dc_X7_readMaid 14 (29, .aload_n 1, 1) rfl rfl) rfl rfl,
    st_getR hC (n := 15) (k := 6) (j := 0) (dc_X7_readMaid 15 (30, .getfield 79, 3) rfl rfl) rfl clf_6 (by decide) rfl (by decide) wd_576,
    st_callV hC (n := 16) (k := 4) (na := 1) (con_X4_newName l) (dc_X7_readMaid 16 (33, .invokevirtual 83, 3) rfl rfl) rfl wd_883 wd_144 (by decide) ⟨rfl, rfl, by decide, by decide⟩ hM wd_880 wd_881 wd_882 clf_4,
    st_lstore_n hC (n := 17) (k := 2) (dc_X7_readMaid 17 (36, .lstore_n 2, 1) rfl rfl) rfl rfl (by decide),
    st_lload_n hC (n := 18) (k := 2) (dc_X7_readMaid 18 (37, .lload_n 2, 1) rfl rfl) rfl rfl,
    st_lconst hC (n := 19) (x := 0) (dc_X7_readMaid 19 (38, .lconst 0, 1) rfl rfl) rfl (by decide),
    st_lcmp hC (n := 20) (dc_X7_readMaid 20 (39, .lcmp, 1) rfl rfl) rfl,
    st_ifeq hC (n := 21) (dc_X7_readMaid 21 (40, .ifCond .eq 14, 3) rfl rfl) rfl (by decide),
    st_aload_n hC (n := 22) (k := 0) (dc_X7_readMaid 22 (43, .aload_n 0, 1) rfl rfl) rfl rfl,
    st_getC hC (n := 23) (k := 7) (j := 0) (dc_X7_readMaid 23 (44, .getfield 18, 3) rfl rfl) rfl clf_7 (by decide) rfl (by decide) wd_277,
    st_iconst hC (n := 24) (x := 4) (dc_X7_readMaid 24 (47, .iconst 4, 1) rfl rfl) rfl (by decide),
    st_callV hC (n := 25) (k := 4) (na := 1) (con_X4_skip l) (dc_X7_readMaid 25 (48, .invokevirtual 91, 3) rfl rfl) rfl wd_900 wd_144 (by decide) ⟨rfl, rfl, by decide, by decide⟩ hM wd_897 wd_898 wd_899 clf_4,
    st_ifne hC (n := 26) (dc_X7_readMaid 26 (51, .ifCond .ne 5, 3) rfl rfl) rfl (by decide),
    st_iconst hC (n := 27) (x := 0) (dc_X7_readMaid 27 (54, .iconst 0, 1) rfl rfl) rfl (by decide),
    st_zret hC (n := 28) hR (dc_X7_readMaid 28 (55, .ireturn, 1) rfl rfl),
    st_aload_n hC (n := 29) (k := 0) (dc_X7_readMaid 29 (56, .aload_n 0, 1) rfl rfl) rfl rfl,
    st_getC hC (n := 30) (k := 7) (j := 0) (dc_X7_readMaid 30 (57, .getfield 18, 3) rfl rfl) rfl clf_7 (by decide) rfl (by decide) wd_277,
    st_iconst hC (n := 31) (x := 0) (dc_X7_readMaid 31 (60, .iconst 0, 1) rfl rfl) rfl (by decide),
    st_sipush hC (n := 32) (x := 999) (dc_X7_readMaid 32 (61, .sipush 999, 3) rfl rfl) rfl (by decide),
    st_callV hC (n := 33) (k := 4) (na := 2) (con_X4_amount l) (dc_X7_readMaid 33 (64, .invokevirtual 110, 3) rfl rfl) rfl wd_896 wd_144 (by decide) ⟨rfl, rfl, by decide, by decide⟩ hM wd_905 wd_894 wd_895 clf_4,
    st_istore hC (n := 34) (dc_X7_readMaid 34 (67, .istore 4, 2) rfl rfl) rfl (by decide),
    st_iload hC (n := 35) (dc_X7_readMaid 35 (69, .iload 4, 2) rfl rfl) rfl,
    st_ifge hC (n := 36) (dc_X7_readMaid 36 (71, .ifCond .ge 5, 3) rfl rfl) rfl (by decide),
    st_iconst hC (n := 37) (x := 0) (dc_X7_readMaid 37 (74, .iconst 0, 1) rfl rfl) rfl (by decide),
    st_zret hC (n := 38) hR (dc_X7_readMaid 38 (75, .ireturn, 1) rfl rfl),
    st_aload_n hC (n := 39) (k := 0) (dc_X7_readMaid 39 (76, .aload_n 0, 1) rfl rfl) rfl rfl,
    st_getC hC (n := 40) (k := 7) (j := 0) (dc_X7_readMaid 40 (77, .getfield 18, 3) rfl rfl) rfl clf_7 (by decide) rfl (by decide) wd_277,
    st_iconst hC (n := 41) (x := 5) (dc_X7_readMaid 41 (80, .iconst 5, 1) rfl rfl) rfl (by decide),
    st_iconst hC (n := 42) (x := 0) (dc_X7_readMaid 42 (81, .iconst 0, 1) rfl rfl) rfl (by decide),
    st_bipush hC (n := 43) (x := 20) (dc_X7_readMaid 43 (82, .bipush 20, 2) rfl rfl) rfl (by decide),
    st_callV hC (n := 44) (k := 4) (na := 3) (con_X4_option l) (dc_X7_readMaid 44 (84, .invokevirtual 87, 3) rfl rfl) rfl wd_892 wd_144 (by decide) ⟨rfl, rfl, by decide, by decide⟩ hM wd_889 wd_890 wd_891 clf_4,
    st_istore hC (n := 45) (dc_X7_readMaid 45 (87, .istore 5, 2) rfl rfl) rfl (by decide),
    st_iload hC (n := 46) (dc_X7_readMaid 46 (89, .iload 5, 2) rfl rfl) rfl,
    st_ifge hC (n := 47) (dc_X7_readMaid 47 (91, .ifCond .ge 5, 3) rfl rfl) rfl (by decide),
    st_iconst hC (n := 48) (x := 0) (dc_X7_readMaid 48 (94, .iconst 0, 1) rfl rfl) rfl (by decide),
    st_zret hC (n := 49) hR (dc_X7_readMaid 49 (95, .ireturn, 1) rfl rfl),
    st_aload_n hC (n := 50) (k := 0) (dc_X7_readMaid 50 (96, .aload_n 0, 1) rfl rfl) rfl rfl,
    st_getC hC (n := 51) (k := 7) (j := 0) (dc_X7_readMaid 51 (97, .getfield 18, 3) rfl rfl) rfl clf_7 (by decide) rfl (by decide) wd_277,
    st_bipush hC (n := 52) (x := 6) (dc_X7_readMaid 52 (100, .bipush 6, 2) rfl rfl) rfl (by decide),
    st_iconst hC (n := 53) (x := 0) (dc_X7_readMaid 53 (102, .iconst 0, 1) rfl rfl) rfl (by decide),
    st_bipush hC (n := 54) (x := 9) (dc_X7_readMaid 54 (103, .bipush 9, 2) rfl rfl) rfl (by decide),
    st_callV hC (n := 55) (k := 4) (na := 3) (con_X4_option l) (dc_X7_readMaid 55 (105, .invokevirtual 87, 3) rfl rfl) rfl wd_892 wd_144 (by decide) ⟨rfl, rfl, by decide, by decide⟩ hM wd_889 wd_890 wd_891 clf_4,
    st_istore hC (n := 56) (dc_X7_readMaid 56 (108, .istore 6, 2) rfl rfl) rfl (by decide),
    st_iload hC (n := 57) (dc_X7_readMaid 57 (110, .iload 6, 2) rfl rfl) rfl,
    st_iflt hC (n := 58) (dc_X7_readMaid 58 (112, .ifCond .lt 15, 3) rfl rfl) rfl (by decide),
    st_aload_n hC (n := 59) (k := 0) (dc_X7_readMaid 59 (115, .aload_n 0, 1) rfl rfl) rfl rfl,
    st_getC hC (n := 60) (k := 7) (j := 0) (dc_X7_readMaid 60 (116, .getfield 18, 3) rfl rfl) rfl clf_7 (by decide) rfl (by decide) wd_277,
    st_bipush hC (n := 61) (x := 33) (dc_X7_readMaid 61 (119, .bipush 33, 2) rfl rfl) rfl (by decide),
    st_callV hC (n := 62) (k := 4) (na := 1) (con_X4_skip l) (dc_X7_readMaid 62 (121, .invokevirtual 91, 3) rfl rfl) rfl wd_900 wd_144 (by decide) ⟨rfl, rfl, by decide, by decide⟩ hM wd_897 wd_898 wd_899 clf_4,
    st_ifne hC (n := 63) (dc_X7_readMaid 63 (124, .ifCond .ne 5, 3) rfl rfl) rfl (by decide),
    st_iconst hC (n := 64) (x := 0) (dc_X7_readMaid 64 (127, .iconst 0, 1) rfl rfl) rfl (by decide),
    st_zret hC (n := 65) hR (dc_X7_readMaid 65 (128, .ireturn, 1) rfl rfl),
    st_aload_n hC (n := 66) (k := 1) (dc_X7_readMaid 66 (129, .aload_n 1, 1) rfl rfl) rfl rfl,
    st_getR hC (n := 67) (k := 6) (j := 0) (dc_X7_readMaid 67 (130, .getfield 79, 3) rfl rfl) rfl clf_6 (by decide) rfl (by decide) wd_576,
    st_iconst hC (n := 68) (x := 4) (dc_X7_readMaid 68 (133, .iconst 4, 1) rfl rfl) rfl (by decide),
    st_aload_n hC (n := 69) (k := 1) (dc_X7_readMaid 69 (134, .aload_n 1, 1) rfl rfl) rfl rfl,
    st_getI hC (n := 70) (k := 6) (j := 14) (dc_X7_readMaid 70 (135, .getfield 107, 3) rfl rfl) rfl clf_6 (by decide) rfl wd_626,
    st_iadd hC (n := 71) (dc_X7_readMaid 71 (138, .iadd, 1) rfl rfl) rfl,
    st_lload_n hC (n := 72) (k := 2) (dc_X7_readMaid 72 (139, .lload_n 2, 1) rfl rfl) rfl rfl,
    st_last hC (n := 73) (dc_X7_readMaid 73 (140, .lastore, 1) rfl rfl) rfl,
    st_aload_n hC (n := 74) (k := 1) (dc_X7_readMaid 74 (141, .aload_n 1, 1) rfl rfl) rfl rfl,
    st_getR hC (n := 75) (k := 6) (j := 3) (dc_X7_readMaid 75 (142, .getfield 114, 3) rfl rfl) rfl clf_6 (by decide) rfl (by decide) wd_586,
    st_aload_n hC (n := 76) (k := 1) (dc_X7_readMaid 76 (145, .aload_n 1, 1) rfl rfl) rfl rfl,
    st_getI hC (n := 77) (k := 6) (j := 14) (dc_X7_readMaid 77 (146, .getfield 107, 3) rfl rfl) rfl clf_6 (by decide) rfl wd_626,
    st_iload hC (n := 78) (dc_X7_readMaid 78 (149, .iload 4, 2) rfl rfl) rfl,
    st_iast hC (n := 79) (dc_X7_readMaid 79 (151, .iastore, 1) rfl rfl) rfl,
    st_aload_n hC (n := 80) (k := 1) (dc_X7_readMaid 80 (152, .aload_n 1, 1) rfl rfl) rfl rfl,
    st_getR hC (n := 81) (k := 6) (j := 4) (dc_X7_readMaid 81 (153, .getfield 117, 3) rfl rfl) rfl clf_6 (by decide) rfl (by decide) wd_590,
    st_aload_n hC (n := 82) (k := 1) (dc_X7_readMaid 82 (156, .aload_n 1, 1) rfl rfl) rfl rfl,
    st_getI hC (n := 83) (k := 6) (j := 14) (dc_X7_readMaid 83 (157, .getfield 107, 3) rfl rfl) rfl clf_6 (by decide) rfl wd_626,
    st_iload hC (n := 84) (dc_X7_readMaid 84 (160, .iload 5, 2) rfl rfl) rfl,
    st_iast hC (n := 85) (dc_X7_readMaid 85 (162, .iastore, 1) rfl rfl) rfl,
    st_aload_n hC (n := 86) (k := 1) (dc_X7_readMaid 86 (163, .aload_n 1, 1) rfl rfl) rfl rfl,
    st_getR hC (n := 87) (k := 6) (j := 5) (dc_X7_readMaid 87 (164, .getfield 120, 3) rfl rfl) rfl clf_6 (by decide) rfl (by decide) wd_593,
    st_aload_n hC (n := 88) (k := 1) (dc_X7_readMaid 88 (167, .aload_n 1, 1) rfl rfl) rfl rfl,
    st_getI hC (n := 89) (k := 6) (j := 14) (dc_X7_readMaid 89 (168, .getfield 107, 3) rfl rfl) rfl clf_6 (by decide) rfl wd_626,
    st_iload hC (n := 90) (dc_X7_readMaid 90 (171, .iload 6, 2) rfl rfl) rfl,
    st_iast hC (n := 91) (dc_X7_readMaid 91 (173, .iastore, 1) rfl rfl) rfl,
    st_aload_n hC (n := 92) (k := 1) (dc_X7_readMaid 92 (174, .aload_n 1, 1) rfl rfl) rfl rfl,
    st_dup hC (n := 93) (dc_X7_readMaid 93 (175, .dup, 1) rfl rfl) rfl,
    st_getI hC (n := 94) (k := 6) (j := 14) (dc_X7_readMaid 94 (176, .getfield 107, 3) rfl rfl) rfl clf_6 (by decide) rfl wd_626,
    st_iconst hC (n := 95) (x := 1) (dc_X7_readMaid 95 (179, .iconst 1, 1) rfl rfl) rfl (by decide),
    st_iadd hC (n := 96) (dc_X7_readMaid 96 (180, .iadd, 1) rfl rfl) rfl,
    st_putI hC (n := 97) (k := 6) (j := 14) (dc_X7_readMaid 97 (181, .putfield 107, 3) rfl rfl) rfl clf_6 (by decide) rfl rfl rfl wd_626,
    st_iconst hC (n := 98) (x := 1) (dc_X7_readMaid 98 (184, .iconst 1, 1) rfl rfl) rfl (by decide),
    st_zret hC (n := 99) hR (dc_X7_readMaid 99 (185, .ireturn, 1) rfl rfl), trivial⟩
set_option maxRecDepth 8000 in
theorem vc_X7_readMaid : VC P_X7_readMaid 7 Pre_X7_readMaid Fn_X7_readMaid := by
  rintro mm as hom hoa ⟨g, ns, nm, nt, na, hJ, rfl⟩
  refine ⟨Nat.le_of_ble_eq_true rfl, fun X h => ?_⟩
  replace h : RUN P_X7_readMaid (RT (c7mC g mm)) X := h
  have fin : ∀ M p x b r o, CJ M g ns nm nt na → nm < 4 → p = c7mG g x b r o M → RUN P_X7_readMaid (RT p) X → X 66 [some (vR 7 0), some (vR 6 g), some (vL (x)), none, some (vI (b)), some (vI (r)), some (vI (o))] [] (M) := by
    intro M p x b r o hM hlt hp h
    have e14 : M.1 6 g 14 = nI nm := hM.2.2.1.1
    show X 66 [some (vR 7 0), some (vR 6 g), some (vL x), none, some (vI b), some (vI r), some (vI o)] [] M
    refine h (fun _ => false) 3000 66 _ _ _ ?_
    refine And.intro (show inb (4 + (M.1 6 g 14)) (alen 29) = true from (by rw [e14]; exact inb_o 20 rfl rfl (j := 4 + nm) (by simp (disch := omega) only [li, pk_mul, nI_add, nI_clamp]) (by omega))) ?_
    refine And.intro (show inb (M.1 6 g 14) (alen 32) = true from (inb_o 4 rfl rfl e14 (by omega))) ?_
    refine And.intro (show inb (M.1 6 g 14) (alen 33) = true from (inb_o 4 rfl rfl e14 (by omega))) ?_
    refine And.intro (show inb (M.1 6 g 14) (alen 34) = true from (inb_o 4 rfl rfl e14 (by omega))) ?_
    refine And.intro (Or.inr rfl) ?_
    show ((some (vI 1) : Option MV), mI (mRow (mRow (mRow (mRowL M 29 g (vp_updL (M.2.1 29 g) (4 + (M.1 6 g 14)).toNatClampNeg x)) 32 g (upd (M.1 32 g) (M.1 6 g 14).toNatClampNeg b)) 33 g (upd (M.1 33 g) (M.1 6 g 14).toNatClampNeg r)) 34 g (upd (M.1 34 g) (M.1 6 g 14).toNatClampNeg o)) 6 g 14 ((M.1 6 g 14) + 1)) = _
    exact PR_t hp
  have s50 : ∀ M p x b r, CJ M g ns nm nt na → nm < 4 → p = c7mE g x b r M → RUN P_X7_readMaid (RT p) X → X 50 [some (vR 7 0), some (vR 6 g), some (vL (x)), none, some (vI (b)), some (vI (r)), none] [] (M) := by
    intro M p x b r hM hlt hp h
    unfold c7mE at hp
    show X 50 [some (vR 7 0), some (vR 6 g), some (vL x), none, some (vI b), some (vI r), none] [] M
    refine h (fun i => Nat.beq i 66) 3000 50 _ _ _ ?_
    refine And.intro (show Pre_X4_option M [vR 4 0, vI 6, vI 0, vI 9] from ⟨hM.1, _, _, _, rfl⟩) ?_
    refine br_c (fun b58 => ?_) (fun b58 => ?_)
    · -- 58: (opC M 6 0 9).1 < 0 taken
      replace b58 : (opC M 6 0 9).1 < 0 := b58
      refine And.intro (Or.inl rfl) ?_
      show ((some (vI 0) : Option MV), (opC M 6 0 9).2) = _
      exact PR_f (by rw [hp, pBi_f b58])
    · -- 58: (opC M 6 0 9).1 < 0 on
      replace b58 : ¬ ((opC M 6 0 9).1 < 0) := b58
      refine And.intro (show Pre_X4_skip ((opC M 6 0 9).2) [vR 4 0, vI 33] from ⟨TXp_op hM.1, _, rfl⟩) ?_
      refine brn_c (fun b63 => ?_) (fun b63 => ?_)
      · -- 63: bI ((skC ((opC M 6 0 9).2) 33).1 = true) = 0 taken
        replace b63 : (skC ((opC M 6 0 9).2) 33).1 = true := bI_n0.mp b63
        show X 66 [some (vR 7 0), some (vR 6 g), some (vL x), none, some (vI b), some (vI r), some (vI ((opC M 6 0 9).1))] [] ((skC ((opC M 6 0 9).2) 33).2)
        exact fin _ _ _ _ _ _ (CJ_sk (CJ_op hM)) hlt (by rw [hp, pBi_t b58]; unfold c7mF; rw [pBd_t b63]) h
      · -- 63: bI ((skC ((opC M 6 0 9).2) 33).1 = true) = 0 on
        replace b63 : ¬ ((skC ((opC M 6 0 9).2) 33).1 = true) := bI_0.mp b63
        refine And.intro (Or.inl rfl) ?_
        show ((some (vI 0) : Option MV), (skC ((opC M 6 0 9).2) 33).2) = _
        exact PR_f (by rw [hp, pBi_t b58]; unfold c7mF; rw [pBd_f b63])
  have s39 : ∀ M p x b, CJ M g ns nm nt na → nm < 4 → p = c7mD g x b M → RUN P_X7_readMaid (RT p) X → X 39 [some (vR 7 0), some (vR 6 g), some (vL (x)), none, some (vI (b)), none, none] [] (M) := by
    intro M p x b hM hlt hp h
    unfold c7mD at hp
    show X 39 [some (vR 7 0), some (vR 6 g), some (vL x), none, some (vI b), none, none] [] M
    refine h (fun i => Nat.beq i 50) 3000 39 _ _ _ ?_
    refine And.intro (show Pre_X4_option M [vR 4 0, vI 5, vI 0, vI 20] from ⟨hM.1, _, _, _, rfl⟩) ?_
    refine br_c (fun b47 => ?_) (fun b47 => ?_)
    · -- 47: 0 ≤ (opC M 5 0 20).1 taken
      replace b47 : 0 ≤ (opC M 5 0 20).1 := b47
      show X 50 [some (vR 7 0), some (vR 6 g), some (vL x), none, some (vI b), some (vI ((opC M 5 0 20).1)), none] [] ((opC M 5 0 20).2)
      exact s50 _ _ _ _ _ (CJ_op hM) hlt (by rw [hp, pBi_t (Int32.not_lt.mpr b47)]) h
    · -- 47: 0 ≤ (opC M 5 0 20).1 on
      replace b47 : ¬ (0 ≤ (opC M 5 0 20).1) := b47
      refine And.intro (Or.inl rfl) ?_
      show ((some (vI 0) : Option MV), (opC M 5 0 20).2) = _
      exact PR_f (by rw [hp, pBi_f (Int32.not_le.mp b47)])
  have s29 : ∀ M p x, CJ M g ns nm nt na → nm < 4 → p = c7mB g x M → RUN P_X7_readMaid (RT p) X → X 29 [some (vR 7 0), some (vR 6 g), some (vL (x)), none, none, none, none] [] (M) := by
    intro M p x hM hlt hp h
    unfold c7mB at hp
    show X 29 [some (vR 7 0), some (vR 6 g), some (vL x), none, none, none, none] [] M
    refine h (fun i => Nat.beq i 39) 3000 29 _ _ _ ?_
    refine And.intro (show Pre_X4_amount M [vR 4 0, vI 0, vI 999] from ⟨hM.1, _, _, rfl⟩) ?_
    refine br_c (fun b36 => ?_) (fun b36 => ?_)
    · -- 36: 0 ≤ (amC M 0 999).1 taken
      replace b36 : 0 ≤ (amC M 0 999).1 := b36
      show X 39 [some (vR 7 0), some (vR 6 g), some (vL x), none, some (vI ((amC M 0 999).1)), none, none] [] ((amC M 0 999).2)
      exact s39 _ _ _ _ (CJ_am hM) hlt (by rw [hp, pBi_t (Int32.not_lt.mpr b36)]) h
    · -- 36: 0 ≤ (amC M 0 999).1 on
      replace b36 : ¬ (0 ≤ (amC M 0 999).1) := b36
      refine And.intro (Or.inl rfl) ?_
      show ((some (vI 0) : Option MV), (amC M 0 999).2) = _
      exact PR_f (by rw [hp, pBi_f (Int32.not_le.mp b36)])
  unfold c7mC at h
  have hns := hJ.2.2.1.2
  show X 0 [some (vR 7 0), some (vR 6 g), none, none, none, none, none] [] mm
  refine h (fun i => Nat.beq i 29) 3000 0 _ _ _ ?_
  refine br_c (fun b3 => ?_) (fun b3 => ?_)
  · -- 3: mm.1 6 g 14 < 4 taken
    replace b3 : mm.1 6 g 14 < 4 := b3
    (try simp only [lg_cmp_eq] at b3)
    refine And.intro (show Pre_X4_step mm [vR 4 0] from ⟨hJ.1, rfl⟩) ?_
    refine And.intro (show Pre_X4_newName (spM mm) [vR 4 0, vR 29 g] from ⟨TXp_sp hJ.1, _, rfl⟩) ?_
    refine br_c (fun b21 => ?_) (fun b21 => ?_)
    · -- 21: lg_cmp ((nwC (spM mm) g).1) 0 = 0 taken
      replace b21 : lg_cmp ((nwC (spM mm) g).1) 0 = 0 := b21
      (try simp only [lg_cmp_eq] at b21)
      refine And.intro (Or.inl rfl) ?_
      show ((some (vI 0) : Option MV), (nwC (spM mm) g).2) = _
      (try simp only [lg_cmp_eq])
      exact PR_f (by rw [if_pos b3, pBl_f b21])
    · -- 21: lg_cmp ((nwC (spM mm) g).1) 0 = 0 on
      replace b21 : ¬ (lg_cmp ((nwC (spM mm) g).1) 0 = 0) := b21
      (try simp only [lg_cmp_eq] at b21)
      refine And.intro (show Pre_X4_skip ((nwC (spM mm) g).2) [vR 4 0, vI 4] from ⟨TXp_nw (TXp_sp hJ.1), _, rfl⟩) ?_
      refine brn_c (fun b26 => ?_) (fun b26 => ?_)
      · -- 26: bI ((skC ((nwC (spM mm) g).2) 4).1 = true) = 0 taken
        replace b26 : (skC ((nwC (spM mm) g).2) 4).1 = true := bI_n0.mp b26
        (try simp only [lg_cmp_eq] at b26)
        show X 29 [some (vR 7 0), some (vR 6 g), some (vL ((nwC (spM mm) g).1)), none, none, none, none] [] ((skC ((nwC (spM mm) g).2) 4).2)
        (try simp only [lg_cmp_eq])
        exact s29 _ _ _ (CJ_sk (CJ_nw (CJ_sp hJ))) (by rw [hJ.2.2.1.1, show (4 : Int32) = nI 4 from rfl, nI_ltI (by omega) (by omega)] at b3; exact b3) (by rw [if_pos b3, pBl_t b21]; unfold c7mA; rw [pBd_t b26]) h
      · -- 26: bI ((skC ((nwC (spM mm) g).2) 4).1 = true) = 0 on
        replace b26 : ¬ ((skC ((nwC (spM mm) g).2) 4).1 = true) := bI_0.mp b26
        (try simp only [lg_cmp_eq] at b26)
        refine And.intro (Or.inl rfl) ?_
        show ((some (vI 0) : Option MV), (skC ((nwC (spM mm) g).2) 4).2) = _
        (try simp only [lg_cmp_eq])
        exact PR_f (by rw [if_pos b3, pBl_t b21]; unfold c7mA; rw [pBd_f b26])
  · -- 3: mm.1 6 g 14 < 4 on
    replace b3 : ¬ (mm.1 6 g 14 < 4) := b3
    (try simp only [lg_cmp_eq] at b3)
    refine And.intro (show Pre_X4_fail mm [vR 4 0, vI 6] from ⟨_, rfl⟩) ?_
    refine And.intro (Or.inl rfl) ?_
    show ((some (vI 0) : Option MV), faC mm 6) = _
    (try simp only [lg_cmp_eq])
    exact PR_f (by rw [if_neg b3])
theorem con_X7_readMaid (l : Launch) : CON l y_X7_readMaid prog_9_method_4_code 7 (some .boolean) rm_X7_readMaid Pre_X7_readMaid Fn_X7_readMaid := CON_of (by decide) rfl rfl (sa_X7_readMaid l) vc_X7_readMaid
theorem fdC_in {m : MM} {g f n : Nat} (h : ¬ (fdC m g f n).1 < 0) : ∃ k, k < n ∧ (fdC m g f n).1 = nI k := by
  unfold fdC at h ⊢
  by_cases c : m.1 4 0 6 = 30
  · rw [if_pos c] at h ⊢
    rcases fsI_in (fun i => m.2.1 29 g (f + i) = m.2.1 4 0 8) n 0 with z | ⟨k, _, hk, e, _⟩
    · exact absurd (show cfI m g f n < 0 by unfold cfI; rw [z.1]; decide) h
    · exact ⟨k, by omega, e⟩
  · rw [if_neg c] at h
    exact absurd (show (-1 : Int32) < 0 by decide) h
theorem meC_1 {m : MM} {g f n : Nat} : (meC m g f n).1 = (fdC m g f n).1 := by
  unfold meC
  split <;> rfl
theorem meC_in {m : MM} {g f n : Nat} (h : ¬ (meC m g f n).1 < 0) : ∃ k, k < n ∧ (meC m g f n).1 = nI k := by
  rw [meC_1] at h ⊢
  exact fdC_in h
def c7tG (g : Nat) (nm : Int64) (o w : Int32) (m : MM) : PR := (true, adM m g nm o w)
def c7tF (g : Nat) (nm : Int64) (o w : Int32) (m : MM) : PR := pBd (skC m 33) (c7tG g nm o w)
def c7tE (g : Nat) (nm : Int64) (o : Int32) (m : MM) : PR := pBi (amC m 0 99) (c7tF g nm o)
def c7tD (g : Nat) (nm : Int64) (o : Int32) (m : MM) : PR := pBd (skC m 9) (c7tE g nm o)
def c7tB (g : Nat) (nm : Int64) (m : MM) : PR := pBi (meC m g 0 (m.1 6 g 13).toNatClampNeg) (c7tD g nm)
def c7tA (g : Nat) (nm : Int64) (m : MM) : PR := pBd (skC m 8) (c7tB g nm)
def c7tC (g : Nat) (m : MM) : PR := if m.1 6 g 15 < 12 then pBl (nwC (spM m) g) (c7tA g) else (false, faC m 6)

--tpl ⟨_, _, _, _, _, by assumption, rfl⟩ || bI ((c7tC {g1} {m}).1 = true) || (c7tC {g1} {m}).2
def Pre_X7_readThing : PreT := fun m as => ∃ g ns nm nt na : Nat, CJ m g ns nm nt na ∧ as = [vR 7 0, vR 6 g]
def Fn_X7_readThing : FnT := fun m as => match as with
  | [_, Sum.inr (Sum.inr q)] => (some (vI (bI ((c7tC q.2 m).1 = true))), (c7tC q.2 m).2)
  | _ => (none, m)
abbrev y_X7_readThing : MethodName := ⟨"GivenUp$ValleyReader", "readThing", "(LGivenUp$Valley;)Z"⟩
def P_X7_readThing : List StpT := [s_aload 1, s_getI 6 15, s_ic (12), s_iclt 9, s_aload 0, s_getC 7 0 4 0, s_ic (6), s_callV 4 1 Pre_X4_fail Fn_X4_fail, s_zret, s_aload 0, s_getC 7 0 4 0, s_callV 4 0 Pre_X4_step Fn_X4_step, s_aload 0, s_getC 7 0 4 0, s_aload 1, s_getR 6 0 29, s_callV 4 1 Pre_X4_newName Fn_X4_newName, s_lstore 2, s_lload 2, s_lc 0, s_lcmp, s_ifeq 27, s_aload 0, s_getC 7 0 4 0, s_ic (8), s_callV 4 1 Pre_X4_skip Fn_X4_skip, s_ifne 29, s_ic (0), s_zret, s_aload 0, s_getC 7 0 4 0, s_aload 1, s_getR 6 0 29, s_ic (0), s_aload 1, s_getI 6 13, s_callV 4 3 Pre_X4_member Fn_X4_member, s_istore 4, s_iload 4, s_iflt 45, s_aload 0, s_getC 7 0 4 0, s_ic (9), s_callV 4 1 Pre_X4_skip Fn_X4_skip, s_ifne 47, s_ic (0), s_zret, s_aload 0, s_getC 7 0 4 0, s_ic (0), s_ic (99), s_callV 4 2 Pre_X4_amount Fn_X4_amount, s_istore 5, s_iload 5, s_iflt 60, s_aload 0, s_getC 7 0 4 0, s_ic (33), s_callV 4 1 Pre_X4_skip Fn_X4_skip, s_ifne 62, s_ic (0), s_zret, s_aload 1, s_lload 2, s_iload 4, s_iload 5, s_callV 6 3 Pre_X6_addThing Fn_X6_addThing, s_ic (1), s_zret]
def pc_X7_readThing : Nat → Nat := fun i => [0, 1, 4, 6, 9, 10, 13, 15, 18, 19, 20, 23, 26, 27, 30, 31, 34, 37, 38, 39, 40, 41, 44, 45, 48, 50, 53, 56, 57, 58, 59, 62, 63, 66, 67, 68, 71, 74, 76, 78, 81, 82, 85, 87, 90, 93, 94, 95, 96, 99, 100, 102, 105, 107, 109, 112, 113, 116, 118, 121, 124, 125, 126, 127, 128, 130, 132, 135, 136].getD i 0
def dl_X7_readThing : List (Nat × Instr × Nat) := [(0, .aload_n 1, 1), (1, .getfield 123, 3), (4, .bipush 12, 2), (6, .if_icmp .lt 13, 3), (9, .aload_n 0, 1), (10, .getfield 18, 3), (13, .bipush 6, 2), (15, .invokevirtual 72, 3), (18, .ireturn, 1), (19, .aload_n 0, 1), (20, .getfield 18, 3), (23, .invokevirtual 76, 3), (26, .aload_n 0, 1), (27, .getfield 18, 3), (30, .aload_n 1, 1), (31, .getfield 79, 3), (34, .invokevirtual 83, 3), (37, .lstore_n 2, 1), (38, .lload_n 2, 1), (39, .lconst 0, 1), (40, .lcmp, 1), (41, .ifCond .eq 15, 3), (44, .aload_n 0, 1), (45, .getfield 18, 3), (48, .bipush 8, 2), (50, .invokevirtual 91, 3), (53, .ifCond .ne 5, 3), (56, .iconst 0, 1), (57, .ireturn, 1), (58, .aload_n 0, 1), (59, .getfield 18, 3), (62, .aload_n 1, 1), (63, .getfield 79, 3), (66, .iconst 0, 1), (67, .aload_n 1, 1), (68, .getfield 69, 3), (71, .invokevirtual 126, 3), (74, .istore 4, 2), (76, .iload 4, 2), (78, .ifCond .lt 15, 3), (81, .aload_n 0, 1), (82, .getfield 18, 3), (85, .bipush 9, 2), (87, .invokevirtual 91, 3), (90, .ifCond .ne 5, 3), (93, .iconst 0, 1), (94, .ireturn, 1), (95, .aload_n 0, 1), (96, .getfield 18, 3), (99, .iconst 0, 1), (100, .bipush 99, 2), (102, .invokevirtual 110, 3), (105, .istore 5, 2), (107, .iload 5, 2), (109, .ifCond .lt 15, 3), (112, .aload_n 0, 1), (113, .getfield 18, 3), (116, .bipush 33, 2), (118, .invokevirtual 91, 3), (121, .ifCond .ne 5, 3), (124, .iconst 0, 1), (125, .ireturn, 1), (126, .aload_n 1, 1), (127, .lload_n 2, 1), (128, .iload 4, 2), (130, .iload 5, 2), (132, .invokevirtual 130, 3), (135, .iconst 1, 1), (136, .ireturn, 1)]
theorem dc_X7_readThing : DEC prog_9_method_5_code pc_X7_readThing dl_X7_readThing := DEC_of (by decide +kernel)
abbrev rm_X7_readThing : Room := { frames := 4, cells := 0, slots := 0, locals := 89 }
set_option maxRecDepth 20000 in
theorem sa_X7_readThing (l : Launch) : SNDALL l prog_9_method_5_code "GivenUp$ValleyReader" 6 (some .boolean) rm_X7_readThing P_X7_readThing pc_X7_readThing := fun p e s m args below meth c cells slots Q D dA ad A RR hC hR => by
  have hM := RTX_room (R := rm_X7_readThing) hR
  exact ⟨st_aload_n hC (n := 0) (k := 1) (dc_X7_readThing 0 (0, .aload_n 1, 1) rfl rfl) rfl rfl,
    st_getI hC (n := 1) (k := 6) (j := 15) (dc_X7_readThing 1 (1, .getfield 123, 3) rfl rfl) rfl clf_6 (by decide) rfl wd_631,
    st_bipush hC (n := 2) (x := 12) (dc_X7_readThing 2 (4, .bipush 12, 2) rfl rfl) rfl (by decide),
    st_iclt hC (n := 3) (dc_X7_readThing 3 (6, .if_icmp .lt 13, 3) rfl rfl) rfl (by decide),
    st_aload_n hC (n := 4) (k := 0) (dc_X7_readThing 4 (9, .aload_n 0, 1) rfl rfl) rfl rfl,
    st_getC hC (n := 5) (k := 7) (j := 0) (dc_X7_readThing 5 (10, .getfield 18, 3) rfl rfl) rfl clf_7 (by decide) rfl (by decide) wd_277,
    st_bipush hC (n := 6) (x := 6) (dc_X7_readThing 6 (13, .bipush 6, 2) rfl rfl) rfl (by decide),
    st_callV hC (n := 7) (k := 4) (na := 1) (con_X4_fail l) (dc_X7_readThing 7 (15, .invokevirtual 72, 3) rfl rfl) rfl wd_878 wd_144 (by decide) ⟨rfl, rfl, by decide, by decide⟩ hM wd_875 wd_876 wd_877 clf_4,
    st_zret hC (n := 8) hR (dc_X7_readThing 8 (18, .ireturn, 1) rfl rfl),
    st_aload_n hC (n := 9) (k := 0) (dc_X7_readThing 9 (19, .aload_n 0, 1) rfl rfl) rfl rfl,
    st_getC hC (n := 10) (k := 7) (j := 0) (dc_X7_readThing 10 (20, .getfield 18, 3) rfl rfl) rfl clf_7 (by decide) rfl (by decide) wd_277,
    st_callV hC (n := 11) (k := 4) (na := 0) (con_X4_step l) (dc_X7_readThing 11 (23, .invokevirtual 76, 3) rfl rfl) rfl wd_859 wd_144 (by decide) ⟨rfl, rfl, by decide, by decide⟩ hM wd_879 wd_857 wd_858 clf_4,
    st_aload_n hC (n := 12) (k := 0) (dc_X7_readThing 12 (26, .aload_n 0, 1) rfl rfl) rfl rfl,
    st_getC hC (n := 13) (k := 7) (j := 0) (dc_X7_readThing 13 (27, .getfield 18, 3) rfl rfl) rfl clf_7 (by decide) rfl (by decide) wd_277,
    st_aload_n hC (n := 14) (k := 1) (dc_X7_readThing 14 (30, .aload_n 1, 1) rfl rfl) rfl rfl,
    st_getR hC (n := 15) (k := 6) (j := 0) (dc_X7_readThing 15 (31, .getfield 79, 3) rfl rfl) rfl clf_6 (by decide) rfl (by decide) wd_576,
    st_callV hC (n := 16) (k := 4) (na := 1) (con_X4_newName l) (dc_X7_readThing 16 (34, .invokevirtual 83, 3) rfl rfl) rfl wd_883 wd_144 (by decide) ⟨rfl, rfl, by decide, by decide⟩ hM wd_880 wd_881 wd_882 clf_4,
    st_lstore_n hC (n := 17) (k := 2) (dc_X7_readThing 17 (37, .lstore_n 2, 1) rfl rfl) rfl rfl (by decide),
    st_lload_n hC (n := 18) (k := 2) (dc_X7_readThing 18 (38, .lload_n 2, 1) rfl rfl) rfl rfl,
    st_lconst hC (n := 19) (x := 0) (dc_X7_readThing 19 (39, .lconst 0, 1) rfl rfl) rfl (by decide),
    st_lcmp hC (n := 20) (dc_X7_readThing 20 (40, .lcmp, 1) rfl rfl) rfl,
    st_ifeq hC (n := 21) (dc_X7_readThing 21 (41, .ifCond .eq 15, 3) rfl rfl) rfl (by decide),
    st_aload_n hC (n := 22) (k := 0) (dc_X7_readThing 22 (44, .aload_n 0, 1) rfl rfl) rfl rfl,
    st_getC hC (n := 23) (k := 7) (j := 0) (dc_X7_readThing 23 (45, .getfield 18, 3) rfl rfl) rfl clf_7 (by decide) rfl (by decide) wd_277,
    st_bipush hC (n := 24) (x := 8) (dc_X7_readThing 24 (48, .bipush 8, 2) rfl rfl) rfl (by decide),
    st_callV hC (n := 25) (k := 4) (na := 1) (con_X4_skip l) (dc_X7_readThing 25 (50, .invokevirtual 91, 3) rfl rfl) rfl wd_900 wd_144 (by decide) ⟨rfl, rfl, by decide, by decide⟩ hM wd_897 wd_898 wd_899 clf_4,
    st_ifne hC (n := 26) (dc_X7_readThing 26 (53, .ifCond .ne 5, 3) rfl rfl) rfl (by decide),
    st_iconst hC (n := 27) (x := 0) (dc_X7_readThing 27 (56, .iconst 0, 1) rfl rfl) rfl (by decide),
    st_zret hC (n := 28) hR (dc_X7_readThing 28 (57, .ireturn, 1) rfl rfl),
    st_aload_n hC (n := 29) (k := 0) (dc_X7_readThing 29 (58, .aload_n 0, 1) rfl rfl) rfl rfl,
    st_getC hC (n := 30) (k := 7) (j := 0) (dc_X7_readThing 30 (59, .getfield 18, 3) rfl rfl) rfl clf_7 (by decide) rfl (by decide) wd_277,
    st_aload_n hC (n := 31) (k := 1) (dc_X7_readThing 31 (62, .aload_n 1, 1) rfl rfl) rfl rfl,
    st_getR hC (n := 32) (k := 6) (j := 0) (dc_X7_readThing 32 (63, .getfield 79, 3) rfl rfl) rfl clf_6 (by decide) rfl (by decide) wd_576,
    st_iconst hC (n := 33) (x := 0) (dc_X7_readThing 33 (66, .iconst 0, 1) rfl rfl) rfl (by decide),
    st_aload_n hC (n := 34) (k := 1) (dc_X7_readThing 34 (67, .aload_n 1, 1) rfl rfl) rfl rfl,
    st_getI hC (n := 35) (k := 6) (j := 13) (dc_X7_readThing 35 (68, .getfield 69, 3) rfl rfl) rfl clf_6 (by decide) rfl wd_620,
    st_callV hC (n := 36) (k := 4) (na := 3) (con_X4_member l) (dc_X7_readThing 36 (71, .invokevirtual 126, 3) rfl rfl) rfl wd_913 wd_144 (by decide) ⟨rfl, rfl, by decide, by decide⟩ hM wd_910 wd_911 wd_912 clf_4,
    st_istore hC (n := 37) (dc_X7_readThing 37 (74, .istore 4, 2) rfl rfl) rfl (by decide),
    st_iload hC (n := 38) (dc_X7_readThing 38 (76, .iload 4, 2) rfl rfl) rfl,
    st_iflt hC (n := 39) (dc_X7_readThing 39 (78, .ifCond .lt 15, 3) rfl rfl) rfl (by decide),
    st_aload_n hC (n := 40) (k := 0) (dc_X7_readThing 40 (81, .aload_n 0, 1) rfl rfl) rfl rfl,
    st_getC hC (n := 41) (k := 7) (j := 0) (dc_X7_readThing 41 (82, .getfield 18, 3) rfl rfl) rfl clf_7 (by decide) rfl (by decide) wd_277,
    st_bipush hC (n := 42) (x := 9) (dc_X7_readThing 42 (85, .bipush 9, 2) rfl rfl) rfl (by decide),
    st_callV hC (n := 43) (k := 4) (na := 1) (con_X4_skip l) (dc_X7_readThing 43 (87, .invokevirtual 91, 3) rfl rfl) rfl wd_900 wd_144 (by decide) ⟨rfl, rfl, by decide, by decide⟩ hM wd_897 wd_898 wd_899 clf_4,
    st_ifne hC (n := 44) (dc_X7_readThing 44 (90, .ifCond .ne 5, 3) rfl rfl) rfl (by decide),
    st_iconst hC (n := 45) (x := 0) (dc_X7_readThing 45 (93, .iconst 0, 1) rfl rfl) rfl (by decide),
    st_zret hC (n := 46) hR (dc_X7_readThing 46 (94, .ireturn, 1) rfl rfl),
    st_aload_n hC (n := 47) (k := 0) (dc_X7_readThing 47 (95, .aload_n 0, 1) rfl rfl) rfl rfl,
    st_getC hC (n := 48) (k := 7) (j := 0) (dc_X7_readThing 48 (96, .getfield 18, 3) rfl rfl) rfl clf_7 (by decide) rfl (by decide) wd_277,
    st_iconst hC (n := 49) (x := 0) (dc_X7_readThing 49 (99, .iconst 0, 1) rfl rfl) rfl (by decide),
    st_bipush hC (n := 50) (x := 99) (dc_X7_readThing 50 (100, .bipush 99, 2) rfl rfl) rfl (by decide),
    st_callV hC (n := 51) (k := 4) (na := 2) (con_X4_amount l) (dc_X7_readThing 51 (102, .invokevirtual 110, 3) rfl rfl) rfl wd_896 wd_144 (by decide) ⟨rfl, rfl, by decide, by decide⟩ hM wd_905 wd_894 wd_895 clf_4,
    st_istore hC (n := 52) (dc_X7_readThing 52 (105, .istore 5, 2) rfl rfl) rfl (by decide),
    st_iload hC (n := 53) (dc_X7_readThing 53 (107, .iload 5, 2) rfl rfl) rfl,
    st_iflt hC (n := 54) (dc_X7_readThing 54 (109, .ifCond .lt 15, 3) rfl rfl) rfl (by decide),
    st_aload_n hC (n := 55) (k := 0) (dc_X7_readThing 55 (112, .aload_n 0, 1) rfl rfl) rfl rfl,
    st_getC hC (n := 56) (k := 7) (j := 0) (dc_X7_readThing 56 (113, .getfield 18, 3) rfl rfl) rfl clf_7 (by decide) rfl (by decide) wd_277,
    st_bipush hC (n := 57) (x := 33) (dc_X7_readThing 57 (116, .bipush 33, 2) rfl rfl) rfl (by decide),
    st_callV hC (n := 58) (k := 4) (na := 1) (con_X4_skip l) (dc_X7_readThing 58 (118, .invokevirtual 91, 3) rfl rfl) rfl wd_900 wd_144 (by decide) ⟨rfl, rfl, by decide, by decide⟩ hM wd_897 wd_898 wd_899 clf_4,
    st_ifne hC (n := 59) (dc_X7_readThing 59 (121, .ifCond .ne 5, 3) rfl rfl) rfl (by decide),
    st_iconst hC (n := 60) (x := 0) (dc_X7_readThing 60 (124, .iconst 0, 1) rfl rfl) rfl (by decide),
    st_zret hC (n := 61) hR (dc_X7_readThing 61 (125, .ireturn, 1) rfl rfl),
    st_aload_n hC (n := 62) (k := 1) (dc_X7_readThing 62 (126, .aload_n 1, 1) rfl rfl) rfl rfl,
    st_lload_n hC (n := 63) (k := 2) (dc_X7_readThing 63 (127, .lload_n 2, 1) rfl rfl) rfl rfl,
    st_iload hC (n := 64) (dc_X7_readThing 64 (128, .iload 4, 2) rfl rfl) rfl,
    st_iload hC (n := 65) (dc_X7_readThing 65 (130, .iload 5, 2) rfl rfl) rfl,
    st_callV hC (n := 66) (k := 6) (na := 3) (con_X6_addThing l) (dc_X7_readThing 66 (132, .invokevirtual 130, 3) rfl rfl) rfl wd_921 wd_155 (by decide) ⟨rfl, rfl, by decide, by decide⟩ hM wd_918 wd_919 wd_920 clf_6,
    st_iconst hC (n := 67) (x := 1) (dc_X7_readThing 67 (135, .iconst 1, 1) rfl rfl) rfl (by decide),
    st_zret hC (n := 68) hR (dc_X7_readThing 68 (136, .ireturn, 1) rfl rfl), trivial⟩
set_option maxRecDepth 8000 in
theorem vc_X7_readThing : VC P_X7_readThing 6 Pre_X7_readThing Fn_X7_readThing := by
  rintro mm as hom hoa ⟨g, ns, nm, nt, na, hJ, rfl⟩
  refine ⟨Nat.le_of_ble_eq_true rfl, fun X h => ?_⟩
  replace h : RUN P_X7_readThing (RT (c7tC g mm)) X := h
  have hns4 := hJ.2.1.2
  have hnt12 := hJ.2.2.2.1.2
  have s47 : ∀ M p x o, CJ M g ns nm nt na → nt < 12 → p = c7tE g x o M → RUN P_X7_readThing (RT p) X → X 47 [some (vR 7 0), some (vR 6 g), some (vL (x)), none, some (vI (o)), none] [] (M) := by
    intro M p x o hM hlt hp h
    unfold c7tE at hp
    show X 47 [some (vR 7 0), some (vR 6 g), some (vL x), none, some (vI o), none] [] M
    refine h (fun _ => false) 3000 47 _ _ _ ?_
    refine And.intro (show Pre_X4_amount M [vR 4 0, vI 0, vI 99] from ⟨hM.1, _, _, rfl⟩) ?_
    refine br_c (fun b54 => ?_) (fun b54 => ?_)
    · -- 54: (amC M 0 99).1 < 0 taken
      replace b54 : (amC M 0 99).1 < 0 := b54
      refine And.intro (Or.inl rfl) ?_
      show ((some (vI 0) : Option MV), (amC M 0 99).2) = _
      exact PR_f (by rw [hp, pBi_f b54])
    · -- 54: (amC M 0 99).1 < 0 on
      replace b54 : ¬ ((amC M 0 99).1 < 0) := b54
      refine And.intro (show Pre_X4_skip ((amC M 0 99).2) [vR 4 0, vI 33] from ⟨TXp_am hM.1, _, rfl⟩) ?_
      refine brn_c (fun b59 => ?_) (fun b59 => ?_)
      · -- 59: bI ((skC ((amC M 0 99).2) 33).1 = true) = 0 taken
        replace b59 : (skC ((amC M 0 99).2) 33).1 = true := bI_n0.mp b59
        refine And.intro (show Pre_X6_addThing ((skC ((amC M 0 99).2) 33).2) [vR 6 g, vL x, vI o, vI ((amC M 0 99).1)] from ⟨g, nt, (CJ_sk (CJ_am hM)).2.2.2.1.1, hlt, _, _, _, rfl⟩) ?_
        refine And.intro (Or.inr rfl) ?_
        show ((some (vI 1) : Option MV), adM ((skC ((amC M 0 99).2) 33).2) g x o ((amC M 0 99).1)) = _
        exact PR_t (by rw [hp, pBi_t b54]; unfold c7tF; rw [pBd_t b59]; rfl)
      · -- 59: bI ((skC ((amC M 0 99).2) 33).1 = true) = 0 on
        replace b59 : ¬ ((skC ((amC M 0 99).2) 33).1 = true) := bI_0.mp b59
        refine And.intro (Or.inl rfl) ?_
        show ((some (vI 0) : Option MV), (skC ((amC M 0 99).2) 33).2) = _
        exact PR_f (by rw [hp, pBi_t b54]; unfold c7tF; rw [pBd_f b59])
  have s29 : ∀ M p x, CJ M g ns nm nt na → nt < 12 → p = c7tB g x M → RUN P_X7_readThing (RT p) X → X 29 [some (vR 7 0), some (vR 6 g), some (vL (x)), none, none, none] [] (M) := by
    intro M p x hM hlt hp h
    unfold c7tB at hp
    show X 29 [some (vR 7 0), some (vR 6 g), some (vL x), none, none, none] [] M
    refine h (fun i => Nat.beq i 47) 3000 29 _ _ _ ?_
    refine And.intro (show Pre_X4_member M [vR 4 0, vR 29 g, vI 0, vI (M.1 6 g 13)] from ⟨hM.1, g, 0, ns, by omega, congrArg (fun z => [vR 4 0, vR 29 g, vI 0, vI z]) hM.2.1.1⟩) ?_
    refine br_c (fun b39 => ?_) (fun b39 => ?_)
    · -- 39: (meC M g 0 (M.1 6 g 13).toNatClampNeg).1 < 0 taken
      replace b39 : (meC M g 0 (M.1 6 g 13).toNatClampNeg).1 < 0 := b39
      refine And.intro (Or.inl rfl) ?_
      show ((some (vI 0) : Option MV), (meC M g 0 (M.1 6 g 13).toNatClampNeg).2) = _
      exact PR_f (by rw [hp, pBi_f b39])
    · -- 39: (meC M g 0 (M.1 6 g 13).toNatClampNeg).1 < 0 on
      replace b39 : ¬ ((meC M g 0 (M.1 6 g 13).toNatClampNeg).1 < 0) := b39
      refine And.intro (show Pre_X4_skip ((meC M g 0 (M.1 6 g 13).toNatClampNeg).2) [vR 4 0, vI 9] from ⟨TXp_me hM.1, _, rfl⟩) ?_
      refine brn_c (fun b44 => ?_) (fun b44 => ?_)
      · -- 44: bI ((skC ((meC M g 0 (M.1 6 g 13).toNatClampNeg).2) 9).1 = true) = 0 taken
        replace b44 : (skC ((meC M g 0 (M.1 6 g 13).toNatClampNeg).2) 9).1 = true := bI_n0.mp b44
        show X 47 [some (vR 7 0), some (vR 6 g), some (vL x), none, some (vI ((meC M g 0 (M.1 6 g 13).toNatClampNeg).1)), none] [] ((skC ((meC M g 0 (M.1 6 g 13).toNatClampNeg).2) 9).2)
        exact s47 _ _ _ _ (CJ_sk (CJ_me hM)) hlt (by rw [hp, pBi_t b39]; unfold c7tD; rw [pBd_t b44]) h
      · -- 44: bI ((skC ((meC M g 0 (M.1 6 g 13).toNatClampNeg).2) 9).1 = true) = 0 on
        replace b44 : ¬ ((skC ((meC M g 0 (M.1 6 g 13).toNatClampNeg).2) 9).1 = true) := bI_0.mp b44
        refine And.intro (Or.inl rfl) ?_
        show ((some (vI 0) : Option MV), (skC ((meC M g 0 (M.1 6 g 13).toNatClampNeg).2) 9).2) = _
        exact PR_f (by rw [hp, pBi_t b39]; unfold c7tD; rw [pBd_f b44])
  unfold c7tC at h
  show X 0 [some (vR 7 0), some (vR 6 g), none, none, none, none] [] mm
  refine h (fun i => Nat.beq i 29) 3000 0 _ _ _ ?_
  refine br_c (fun b3 => ?_) (fun b3 => ?_)
  · -- 3: mm.1 6 g 15 < 12 taken
    replace b3 : mm.1 6 g 15 < 12 := b3
    (try simp only [lg_cmp_eq] at b3)
    refine And.intro (show Pre_X4_step mm [vR 4 0] from ⟨hJ.1, rfl⟩) ?_
    refine And.intro (show Pre_X4_newName (spM mm) [vR 4 0, vR 29 g] from ⟨TXp_sp hJ.1, _, rfl⟩) ?_
    refine br_c (fun b21 => ?_) (fun b21 => ?_)
    · -- 21: lg_cmp ((nwC (spM mm) g).1) 0 = 0 taken
      replace b21 : lg_cmp ((nwC (spM mm) g).1) 0 = 0 := b21
      (try simp only [lg_cmp_eq] at b21)
      refine And.intro (Or.inl rfl) ?_
      show ((some (vI 0) : Option MV), (nwC (spM mm) g).2) = _
      (try simp only [lg_cmp_eq])
      exact PR_f (by rw [if_pos b3, pBl_f b21])
    · -- 21: lg_cmp ((nwC (spM mm) g).1) 0 = 0 on
      replace b21 : ¬ (lg_cmp ((nwC (spM mm) g).1) 0 = 0) := b21
      (try simp only [lg_cmp_eq] at b21)
      refine And.intro (show Pre_X4_skip ((nwC (spM mm) g).2) [vR 4 0, vI 8] from ⟨TXp_nw (TXp_sp hJ.1), _, rfl⟩) ?_
      refine brn_c (fun b26 => ?_) (fun b26 => ?_)
      · -- 26: bI ((skC ((nwC (spM mm) g).2) 8).1 = true) = 0 taken
        replace b26 : (skC ((nwC (spM mm) g).2) 8).1 = true := bI_n0.mp b26
        (try simp only [lg_cmp_eq] at b26)
        show X 29 [some (vR 7 0), some (vR 6 g), some (vL ((nwC (spM mm) g).1)), none, none, none] [] ((skC ((nwC (spM mm) g).2) 8).2)
        (try simp only [lg_cmp_eq])
        exact s29 _ _ _ (CJ_sk (CJ_nw (CJ_sp hJ))) (by rw [hJ.2.2.2.1.1, show (12 : Int32) = nI 12 from rfl, nI_ltI (by omega) (by omega)] at b3; exact b3) (by rw [if_pos b3, pBl_t b21]; unfold c7tA; rw [pBd_t b26]) h
      · -- 26: bI ((skC ((nwC (spM mm) g).2) 8).1 = true) = 0 on
        replace b26 : ¬ ((skC ((nwC (spM mm) g).2) 8).1 = true) := bI_0.mp b26
        (try simp only [lg_cmp_eq] at b26)
        refine And.intro (Or.inl rfl) ?_
        show ((some (vI 0) : Option MV), (skC ((nwC (spM mm) g).2) 8).2) = _
        (try simp only [lg_cmp_eq])
        exact PR_f (by rw [if_pos b3, pBl_t b21]; unfold c7tA; rw [pBd_f b26])
  · -- 3: mm.1 6 g 15 < 12 on
    replace b3 : ¬ (mm.1 6 g 15 < 12) := b3
    (try simp only [lg_cmp_eq] at b3)
    refine And.intro (show Pre_X4_fail mm [vR 4 0, vI 6] from ⟨_, rfl⟩) ?_
    refine And.intro (Or.inl rfl) ?_
    show ((some (vI 0) : Option MV), faC mm 6) = _
    (try simp only [lg_cmp_eq])
    exact PR_f (by rw [if_neg b3])
theorem con_X7_readThing (l : Launch) : CON l y_X7_readThing prog_9_method_5_code 6 (some .boolean) rm_X7_readThing Pre_X7_readThing Fn_X7_readThing := CON_of (by decide) rfl rfl (sa_X7_readThing l) vc_X7_readThing
def c7yF (g : Nat) (t d w : Int32) (m : MM) : PR := (true, mRow m 39 g (upd (m.1 39 g) (t * 4 + d).toNatClampNeg w))
def c7yE (g : Nat) (t d w : Int32) (m : MM) : PR := pBd (skC m 33) (c7yF g t d w)
def c7yD (g : Nat) (t d : Int32) (m : MM) : PR := pBi (amC m 0 99) (c7yE g t d)
def c7yB (g : Nat) (t : Int32) (m : MM) : PR := pBi (meC m g 4 (m.1 6 g 14).toNatClampNeg) (c7yD g t)
def c7yA (g : Nat) (t : Int32) (m : MM) : PR := pBd (skC m 11) (c7yB g t)
def c7yC (g : Nat) (m : MM) : PR := pBi (meC (spM m) g 8 ((spM m).1 6 g 15).toNatClampNeg) (c7yA g)

--tpl ⟨_, _, _, _, _, by assumption, rfl⟩ || bI ((c7yC {g1} {m}).1 = true) || (c7yC {g1} {m}).2
def Pre_X7_readSays : PreT := fun m as => ∃ g ns nm nt na : Nat, CJ m g ns nm nt na ∧ as = [vR 7 0, vR 6 g]
def Fn_X7_readSays : FnT := fun m as => match as with
  | [_, Sum.inr (Sum.inr q)] => (some (vI (bI ((c7yC q.2 m).1 = true))), (c7yC q.2 m).2)
  | _ => (none, m)
abbrev y_X7_readSays : MethodName := ⟨"GivenUp$ValleyReader", "readSays", "(LGivenUp$Valley;)Z"⟩
def P_X7_readSays : List StpT := [s_aload 0, s_getC 7 0 4 0, s_callV 4 0 Pre_X4_step Fn_X4_step, s_aload 0, s_getC 7 0 4 0, s_aload 1, s_getR 6 0 29, s_ic (8), s_aload 1, s_getI 6 15, s_callV 4 3 Pre_X4_member Fn_X4_member, s_istore 2, s_iload 2, s_iflt 19, s_aload 0, s_getC 7 0 4 0, s_ic (11), s_callV 4 1 Pre_X4_skip Fn_X4_skip, s_ifne 21, s_ic (0), s_zret, s_aload 0, s_getC 7 0 4 0, s_aload 1, s_getR 6 0 29, s_ic (4), s_aload 1, s_getI 6 14, s_callV 4 3 Pre_X4_member Fn_X4_member, s_istore 3, s_iload 3, s_ifge 34, s_ic (0), s_zret, s_aload 0, s_getC 7 0 4 0, s_ic (0), s_ic (99), s_callV 4 2 Pre_X4_amount Fn_X4_amount, s_istore 4, s_iload 4, s_iflt 47, s_aload 0, s_getC 7 0 4 0, s_ic (33), s_callV 4 1 Pre_X4_skip Fn_X4_skip, s_ifne 49, s_ic (0), s_zret, s_aload 1, s_getR 6 10 39, s_iload 2, s_ic (4), s_imul, s_iload 3, s_iadd, s_iload 4, s_iast, s_ic (1), s_zret]
def pc_X7_readSays : Nat → Nat := fun i => [0, 1, 4, 7, 8, 11, 12, 15, 17, 18, 21, 24, 25, 26, 29, 30, 33, 35, 38, 41, 42, 43, 44, 47, 48, 51, 52, 53, 56, 59, 60, 61, 64, 65, 66, 67, 70, 71, 73, 76, 78, 80, 83, 84, 87, 89, 92, 95, 96, 97, 98, 101, 102, 103, 104, 105, 106, 108, 109, 110].getD i 0
def dl_X7_readSays : List (Nat × Instr × Nat) := [(0, .aload_n 0, 1), (1, .getfield 18, 3), (4, .invokevirtual 76, 3), (7, .aload_n 0, 1), (8, .getfield 18, 3), (11, .aload_n 1, 1), (12, .getfield 79, 3), (15, .bipush 8, 2), (17, .aload_n 1, 1), (18, .getfield 123, 3), (21, .invokevirtual 126, 3), (24, .istore_n 2, 1), (25, .iload_n 2, 1), (26, .ifCond .lt 15, 3), (29, .aload_n 0, 1), (30, .getfield 18, 3), (33, .bipush 11, 2), (35, .invokevirtual 91, 3), (38, .ifCond .ne 5, 3), (41, .iconst 0, 1), (42, .ireturn, 1), (43, .aload_n 0, 1), (44, .getfield 18, 3), (47, .aload_n 1, 1), (48, .getfield 79, 3), (51, .iconst 4, 1), (52, .aload_n 1, 1), (53, .getfield 107, 3), (56, .invokevirtual 126, 3), (59, .istore_n 3, 1), (60, .iload_n 3, 1), (61, .ifCond .ge 5, 3), (64, .iconst 0, 1), (65, .ireturn, 1), (66, .aload_n 0, 1), (67, .getfield 18, 3), (70, .iconst 0, 1), (71, .bipush 99, 2), (73, .invokevirtual 110, 3), (76, .istore 4, 2), (78, .iload 4, 2), (80, .ifCond .lt 15, 3), (83, .aload_n 0, 1), (84, .getfield 18, 3), (87, .bipush 33, 2), (89, .invokevirtual 91, 3), (92, .ifCond .ne 5, 3), (95, .iconst 0, 1), (96, .ireturn, 1), (97, .aload_n 1, 1), (98, .getfield 134, 3), (101, .iload_n 2, 1), (102, .iconst 4, 1), (103, .imul, 1), (104, .iload_n 3, 1), (105, .iadd, 1), (106, .iload 4, 2), (108, .iastore, 1), (109, .iconst 1, 1), (110, .ireturn, 1)]
theorem dc_X7_readSays : DEC prog_9_method_6_code pc_X7_readSays dl_X7_readSays := DEC_of (by decide +kernel)
abbrev rm_X7_readSays : Room := { frames := 4, cells := 0, slots := 0, locals := 89 }
set_option maxRecDepth 20000 in
theorem sa_X7_readSays (l : Launch) : SNDALL l prog_9_method_6_code "GivenUp$ValleyReader" 5 (some .boolean) rm_X7_readSays P_X7_readSays pc_X7_readSays := fun p e s m args below meth c cells slots Q D dA ad A RR hC hR => by
  have hM := RTX_room (R := rm_X7_readSays) hR
  exact ⟨st_aload_n hC (n := 0) (k := 0) (dc_X7_readSays 0 (0, .aload_n 0, 1) rfl rfl) rfl rfl,
    st_getC hC (n := 1) (k := 7) (j := 0) (dc_X7_readSays 1 (1, .getfield 18, 3) rfl rfl) rfl clf_7 (by decide) rfl (by decide) wd_277,
    st_callV hC (n := 2) (k := 4) (na := 0) (con_X4_step l) (dc_X7_readSays 2 (4, .invokevirtual 76, 3) rfl rfl) rfl wd_859 wd_144 (by decide) ⟨rfl, rfl, by decide, by decide⟩ hM wd_879 wd_857 wd_858 clf_4,
    st_aload_n hC (n := 3) (k := 0) (dc_X7_readSays 3 (7, .aload_n 0, 1) rfl rfl) rfl rfl,
    st_getC hC (n := 4) (k := 7) (j := 0) (dc_X7_readSays 4 (8, .getfield 18, 3) rfl rfl) rfl clf_7 (by decide) rfl (by decide) wd_277,
    st_aload_n hC (n := 5) (k := 1) (dc_X7_readSays 5 (11, .aload_n 1, 1) rfl rfl) rfl rfl,
    st_getR hC (n := 6) (k := 6) (j := 0) (dc_X7_readSays 6 (12, .getfield 79, 3) rfl rfl) rfl clf_6 (by decide) rfl (by decide) wd_576,
    st_bipush hC (n := 7) (x := 8) (dc_X7_readSays 7 (15, .bipush 8, 2) rfl rfl) rfl (by decide),
    st_aload_n hC (n := 8) (k := 1) (dc_X7_readSays 8 (17, .aload_n 1, 1) rfl rfl) rfl rfl,
    st_getI hC (n := 9) (k := 6) (j := 15) (dc_X7_readSays 9 (18, .getfield 123, 3) rfl rfl) rfl clf_6 (by decide) rfl wd_631,
    st_callV hC (n := 10) (k := 4) (na := 3) (con_X4_member l) (dc_X7_readSays 10 (21, .invokevirtual 126, 3) rfl rfl) rfl wd_913 wd_144 (by decide) ⟨rfl, rfl, by decide, by decide⟩ hM wd_910 wd_911 wd_912 clf_4,
    st_istore_n hC (n := 11) (k := 2) (dc_X7_readSays 11 (24, .istore_n 2, 1) rfl rfl) rfl rfl (by decide),
    st_iload_n hC (n := 12) (k := 2) (dc_X7_readSays 12 (25, .iload_n 2, 1) rfl rfl) rfl rfl,
    st_iflt hC (n := 13) (dc_X7_readSays 13 (26, .ifCond .lt 15, 3) rfl rfl) rfl (by decide),
    st_aload_n hC (n := 14) (k := 0) (dc_X7_readSays 14 (29, .aload_n 0, 1) rfl rfl) rfl rfl,
    st_getC hC (n := 15) (k := 7) (j := 0) (dc_X7_readSays 15 (30, .getfield 18, 3) rfl rfl) rfl clf_7 (by decide) rfl (by decide) wd_277,
    st_bipush hC (n := 16) (x := 11) (dc_X7_readSays 16 (33, .bipush 11, 2) rfl rfl) rfl (by decide),
    st_callV hC (n := 17) (k := 4) (na := 1) (con_X4_skip l) (dc_X7_readSays 17 (35, .invokevirtual 91, 3) rfl rfl) rfl wd_900 wd_144 (by decide) ⟨rfl, rfl, by decide, by decide⟩ hM wd_897 wd_898 wd_899 clf_4,
    st_ifne hC (n := 18) (dc_X7_readSays 18 (38, .ifCond .ne 5, 3) rfl rfl) rfl (by decide),
    st_iconst hC (n := 19) (x := 0) (dc_X7_readSays 19 (41, .iconst 0, 1) rfl rfl) rfl (by decide),
    st_zret hC (n := 20) hR (dc_X7_readSays 20 (42, .ireturn, 1) rfl rfl),
    st_aload_n hC (n := 21) (k := 0) (dc_X7_readSays 21 (43, .aload_n 0, 1) rfl rfl) rfl rfl,
    st_getC hC (n := 22) (k := 7) (j := 0) (dc_X7_readSays 22 (44, .getfield 18, 3) rfl rfl) rfl clf_7 (by decide) rfl (by decide) wd_277,
    st_aload_n hC (n := 23) (k := 1) (dc_X7_readSays 23 (47, .aload_n 1, 1) rfl rfl) rfl rfl,
    st_getR hC (n := 24) (k := 6) (j := 0) (dc_X7_readSays 24 (48, .getfield 79, 3) rfl rfl) rfl clf_6 (by decide) rfl (by decide) wd_576,
    st_iconst hC (n := 25) (x := 4) (dc_X7_readSays 25 (51, .iconst 4, 1) rfl rfl) rfl (by decide),
    st_aload_n hC (n := 26) (k := 1) (dc_X7_readSays 26 (52, .aload_n 1, 1) rfl rfl) rfl rfl,
    st_getI hC (n := 27) (k := 6) (j := 14) (dc_X7_readSays 27 (53, .getfield 107, 3) rfl rfl) rfl clf_6 (by decide) rfl wd_626,
    st_callV hC (n := 28) (k := 4) (na := 3) (con_X4_member l) (dc_X7_readSays 28 (56, .invokevirtual 126, 3) rfl rfl) rfl wd_913 wd_144 (by decide) ⟨rfl, rfl, by decide, by decide⟩ hM wd_910 wd_911 wd_912 clf_4,
    st_istore_n hC (n := 29) (k := 3) (dc_X7_readSays 29 (59, .istore_n 3, 1) rfl rfl) rfl rfl (by decide),
    st_iload_n hC (n := 30) (k := 3) (dc_X7_readSays 30 (60, .iload_n 3, 1) rfl rfl) rfl rfl,
    st_ifge hC (n := 31) (dc_X7_readSays 31 (61, .ifCond .ge 5, 3) rfl rfl) rfl (by decide),
    st_iconst hC (n := 32) (x := 0) (dc_X7_readSays 32 (64, .iconst 0, 1) rfl rfl) rfl (by decide),
    st_zret hC (n := 33) hR (dc_X7_readSays 33 (65, .ireturn, 1) rfl rfl),
    st_aload_n hC (n := 34) (k := 0) (dc_X7_readSays 34 (66, .aload_n 0, 1) rfl rfl) rfl rfl,
    st_getC hC (n := 35) (k := 7) (j := 0) (dc_X7_readSays 35 (67, .getfield 18, 3) rfl rfl) rfl clf_7 (by decide) rfl (by decide) wd_277,
    st_iconst hC (n := 36) (x := 0) (dc_X7_readSays 36 (70, .iconst 0, 1) rfl rfl) rfl (by decide),
    st_bipush hC (n := 37) (x := 99) (dc_X7_readSays 37 (71, .bipush 99, 2) rfl rfl) rfl (by decide),
    st_callV hC (n := 38) (k := 4) (na := 2) (con_X4_amount l) (dc_X7_readSays 38 (73, .invokevirtual 110, 3) rfl rfl) rfl wd_896 wd_144 (by decide) ⟨rfl, rfl, by decide, by decide⟩ hM wd_905 wd_894 wd_895 clf_4,
    st_istore hC (n := 39) (dc_X7_readSays 39 (76, .istore 4, 2) rfl rfl) rfl (by decide),
    st_iload hC (n := 40) (dc_X7_readSays 40 (78, .iload 4, 2) rfl rfl) rfl,
    st_iflt hC (n := 41) (dc_X7_readSays 41 (80, .ifCond .lt 15, 3) rfl rfl) rfl (by decide),
    st_aload_n hC (n := 42) (k := 0) (dc_X7_readSays 42 (83, .aload_n 0, 1) rfl rfl) rfl rfl,
    st_getC hC (n := 43) (k := 7) (j := 0) (dc_X7_readSays 43 (84, .getfield 18, 3) rfl rfl) rfl clf_7 (by decide) rfl (by decide) wd_277,
    st_bipush hC (n := 44) (x := 33) (dc_X7_readSays 44 (87, .bipush 33, 2) rfl rfl) rfl (by decide),
    st_callV hC (n := 45) (k := 4) (na := 1) (con_X4_skip l) (dc_X7_readSays 45 (89, .invokevirtual 91, 3) rfl rfl) rfl wd_900 wd_144 (by decide) ⟨rfl, rfl, by decide, by decide⟩ hM wd_897 wd_898 wd_899 clf_4,
    st_ifne hC (n := 46) (dc_X7_readSays 46 (92, .ifCond .ne 5, 3) rfl rfl) rfl (by decide),
    st_iconst hC (n := 47) (x := 0) (dc_X7_readSays 47 (95, .iconst 0, 1) rfl rfl) rfl (by decide),
    st_zret hC (n := 48) hR (dc_X7_readSays 48 (96, .ireturn, 1) rfl rfl),
    st_aload_n hC (n := 49) (k := 1) (dc_X7_readSays 49 (97, .aload_n 1, 1) rfl rfl) rfl rfl,
    st_getR hC (n := 50) (k := 6) (j := 10) (dc_X7_readSays 50 (98, .getfield 134, 3) rfl rfl) rfl clf_6 (by decide) rfl (by decide) wd_609,
    st_iload_n hC (n := 51) (k := 2) (dc_X7_readSays 51 (101, .iload_n 2, 1) rfl rfl) rfl rfl,
    st_iconst hC (n := 52) (x := 4) (dc_X7_readSays 52 (102, .iconst 4, 1) rfl rfl) rfl (by decide),
    st_imul hC (n := 53) (dc_X7_readSays 53 (103, .imul, 1) rfl rfl) rfl,
    st_iload_n hC (n := 54) (k := 3) (dc_X7_readSays 54 (104, .iload_n 3, 1) rfl rfl) rfl rfl,
    st_iadd hC (n := 55) (dc_X7_readSays 55 (105, .iadd, 1) rfl rfl) rfl,
    st_iload hC (n := 56) (dc_X7_readSays 56 (106, .iload 4, 2) rfl rfl) rfl,
    st_iast hC (n := 57) (dc_X7_readSays 57 (108, .iastore, 1) rfl rfl) rfl,
    st_iconst hC (n := 58) (x := 1) (dc_X7_readSays 58 (109, .iconst 1, 1) rfl rfl) rfl (by decide),
    st_zret hC (n := 59) hR (dc_X7_readSays 59 (110, .ireturn, 1) rfl rfl), trivial⟩
set_option maxRecDepth 8000 in
theorem vc_X7_readSays : VC P_X7_readSays 5 Pre_X7_readSays Fn_X7_readSays := by
  rintro mm as hom hoa ⟨g, ns, nm, nt, na, hJ, rfl⟩
  refine ⟨Nat.le_of_ble_eq_true rfl, fun X h => ?_⟩
  replace h : RUN P_X7_readSays (RT (c7yC g mm)) X := h
  have hnm4 := hJ.2.2.1.2
  have hnt12 := hJ.2.2.2.1.2
  have s34 : ∀ M p t d a b, t = nI a → a < nt → d = nI b → b < nm → CJ M g ns nm nt na → p = c7yD g t d M → RUN P_X7_readSays (RT p) X → X 34 [some (vR 7 0), some (vR 6 g), some (vI (t)), some (vI (d)), none] [] (M) := by
    intro M p t d a b ha hat hb hbm hM hp h
    unfold c7yD at hp
    show X 34 [some (vR 7 0), some (vR 6 g), some (vI t), some (vI d), none] [] M
    refine h (fun _ => false) 3000 34 _ _ _ ?_
    refine And.intro (show Pre_X4_amount M [vR 4 0, vI 0, vI 99] from ⟨hM.1, _, _, rfl⟩) ?_
    refine br_c (fun b41 => ?_) (fun b41 => ?_)
    · -- 41: (amC M 0 99).1 < 0 taken
      replace b41 : (amC M 0 99).1 < 0 := b41
      refine And.intro (Or.inl rfl) ?_
      show ((some (vI 0) : Option MV), (amC M 0 99).2) = _
      exact PR_f (by rw [hp, pBi_f b41])
    · -- 41: (amC M 0 99).1 < 0 on
      replace b41 : ¬ ((amC M 0 99).1 < 0) := b41
      refine And.intro (show Pre_X4_skip ((amC M 0 99).2) [vR 4 0, vI 33] from ⟨TXp_am hM.1, _, rfl⟩) ?_
      refine brn_c (fun b46 => ?_) (fun b46 => ?_)
      · -- 46: bI ((skC ((amC M 0 99).2) 33).1 = true) = 0 taken
        replace b46 : (skC ((amC M 0 99).2) 33).1 = true := bI_n0.mp b46
        refine And.intro (show inb ((t * 4) + d) (alen 39) = true from (by rw [ha, hb]; exact inb_o 48 rfl rfl (j := a * 4 + b) (by simp (disch := omega) only [li, pk_mul, nI_add, nI_clamp]) (by omega))) ?_
        refine And.intro (Or.inr rfl) ?_
        show ((some (vI 1) : Option MV), mRow ((skC ((amC M 0 99).2) 33).2) 39 g (upd (((skC ((amC M 0 99).2) 33).2).1 39 g) ((t * 4) + d).toNatClampNeg ((amC M 0 99).1))) = _
        exact PR_t (by rw [hp, pBi_t b41]; unfold c7yE; rw [pBd_t b46]; rfl)
      · -- 46: bI ((skC ((amC M 0 99).2) 33).1 = true) = 0 on
        replace b46 : ¬ ((skC ((amC M 0 99).2) 33).1 = true) := bI_0.mp b46
        refine And.intro (Or.inl rfl) ?_
        show ((some (vI 0) : Option MV), (skC ((amC M 0 99).2) 33).2) = _
        exact PR_f (by rw [hp, pBi_t b41]; unfold c7yE; rw [pBd_f b46])
  have s21 : ∀ M p t a, t = nI a → a < nt → CJ M g ns nm nt na → p = c7yB g t M → RUN P_X7_readSays (RT p) X → X 21 [some (vR 7 0), some (vR 6 g), some (vI (t)), none, none] [] (M) := by
    intro M p t a ha hat hM hp h
    unfold c7yB at hp
    show X 21 [some (vR 7 0), some (vR 6 g), some (vI t), none, none] [] M
    refine h (fun i => Nat.beq i 34) 3000 21 _ _ _ ?_
    refine And.intro (show Pre_X4_member M [vR 4 0, vR 29 g, vI 4, vI (M.1 6 g 14)] from ⟨hM.1, g, 4, nm, by omega, congrArg (fun z => [vR 4 0, vR 29 g, vI 4, vI z]) hM.2.2.1.1⟩) ?_
    refine br_c (fun b31 => ?_) (fun b31 => ?_)
    · -- 31: 0 ≤ (meC M g 4 (M.1 6 g 14).toNatClampNeg).1 taken
      replace b31 : 0 ≤ (meC M g 4 (M.1 6 g 14).toNatClampNeg).1 := b31
      show X 34 [some (vR 7 0), some (vR 6 g), some (vI t), some (vI ((meC M g 4 (M.1 6 g 14).toNatClampNeg).1)), none] [] ((meC M g 4 (M.1 6 g 14).toNatClampNeg).2)
      obtain ⟨b, hb, eb⟩ := meC_in (Int32.not_lt.mpr b31)
      rw [hM.2.2.1.1, nI_clamp (show nm < 2 ^ 31 by omega)] at hb 
      exact s34 _ _ _ _ a b ha hat eb hb (CJ_me hM) (by rw [hp, pBi_t (Int32.not_lt.mpr b31)]) h
    · -- 31: 0 ≤ (meC M g 4 (M.1 6 g 14).toNatClampNeg).1 on
      replace b31 : ¬ (0 ≤ (meC M g 4 (M.1 6 g 14).toNatClampNeg).1) := b31
      refine And.intro (Or.inl rfl) ?_
      show ((some (vI 0) : Option MV), (meC M g 4 (M.1 6 g 14).toNatClampNeg).2) = _
      exact PR_f (by rw [hp, pBi_f (Int32.not_le.mp b31)])
  have s14 : ∀ M p t a, t = nI a → a < nt → CJ M g ns nm nt na → p = c7yA g t M → RUN P_X7_readSays (RT p) X → X 14 [some (vR 7 0), some (vR 6 g), some (vI (t)), none, none] [] (M) := by
    intro M p t a ha hat hM hp h
    unfold c7yA at hp
    show X 14 [some (vR 7 0), some (vR 6 g), some (vI t), none, none] [] M
    refine h (fun i => Nat.beq i 21) 3000 14 _ _ _ ?_
    refine And.intro (show Pre_X4_skip M [vR 4 0, vI 11] from ⟨hM.1, _, rfl⟩) ?_
    refine brn_c (fun b18 => ?_) (fun b18 => ?_)
    · -- 18: bI ((skC M 11).1 = true) = 0 taken
      replace b18 : (skC M 11).1 = true := bI_n0.mp b18
      show X 21 [some (vR 7 0), some (vR 6 g), some (vI t), none, none] [] ((skC M 11).2)
      exact s21 _ _ _ a ha hat (CJ_sk hM) (by rw [hp, pBd_t b18]) h
    · -- 18: bI ((skC M 11).1 = true) = 0 on
      replace b18 : ¬ ((skC M 11).1 = true) := bI_0.mp b18
      refine And.intro (Or.inl rfl) ?_
      show ((some (vI 0) : Option MV), (skC M 11).2) = _
      exact PR_f (by rw [hp, pBd_f b18])
  unfold c7yC at h
  obtain ⟨p, hp⟩ : ∃ p, p = pBi (meC (spM mm) g 8 ((spM mm).1 6 g 15).toNatClampNeg) (c7yA g) := ⟨_, rfl⟩
  rw [← hp] at h
  show X 0 [some (vR 7 0), some (vR 6 g), none, none, none] [] mm
  refine h (fun i => Nat.beq i 14) 3000 0 _ _ _ ?_
  refine And.intro (show Pre_X4_step mm [vR 4 0] from ⟨hJ.1, rfl⟩) ?_
  refine And.intro (show Pre_X4_member (spM mm) [vR 4 0, vR 29 g, vI 8, vI ((spM mm).1 6 g 15)] from ⟨TXp_sp hJ.1, g, 8, nt, by omega, congrArg (fun z => [vR 4 0, vR 29 g, vI 8, vI z]) (CJ_sp hJ).2.2.2.1.1⟩) ?_
  refine br_c (fun b13 => ?_) (fun b13 => ?_)
  · -- 13: (meC (spM mm) g 8 ((spM mm).1 6 g 15).toNatClampNeg).1 < 0 taken
    replace b13 : (meC (spM mm) g 8 ((spM mm).1 6 g 15).toNatClampNeg).1 < 0 := b13
    refine And.intro (Or.inl rfl) ?_
    show ((some (vI 0) : Option MV), (meC (spM mm) g 8 ((spM mm).1 6 g 15).toNatClampNeg).2) = _
    exact PR_f (by rw [hp, pBi_f b13])
  · -- 13: (meC (spM mm) g 8 ((spM mm).1 6 g 15).toNatClampNeg).1 < 0 on
    replace b13 : ¬ ((meC (spM mm) g 8 ((spM mm).1 6 g 15).toNatClampNeg).1 < 0) := b13
    show X 14 [some (vR 7 0), some (vR 6 g), some (vI ((meC (spM mm) g 8 ((spM mm).1 6 g 15).toNatClampNeg).1)), none, none] [] ((meC (spM mm) g 8 ((spM mm).1 6 g 15).toNatClampNeg).2)
    obtain ⟨a, ha, ea⟩ := meC_in b13
    rw [(CJ_sp hJ).2.2.2.1.1, nI_clamp (show nt < 2 ^ 31 by omega)] at ha 
    exact s14 _ _ _ a ea ha (CJ_me (CJ_sp hJ)) (by rw [hp, pBi_t b13]) h
theorem con_X7_readSays (l : Launch) : CON l y_X7_readSays prog_9_method_6_code 5 (some .boolean) rm_X7_readSays Pre_X7_readSays Fn_X7_readSays := CON_of (by decide) rfl rfl (sa_X7_readSays l) vc_X7_readSays
