/-! PART 77: the class: tests of years -/

def c10tE (g L : Nat) (m : MM) : PR := if m.1 4 0 6 = 34 ∨ m.1 4 0 6 = 35 ∨ m.1 4 0 6 = 36 then c10P 47 g L (amC (spM (mRow m 46 g (upd (m.1 46 g) L (m.1 4 0 6)))) 0 9999) else (false, miC m)
def c10tD (g v L : Nat) (t : Int32) (m : MM) : PR := if t = 25 then c10P 45 g L (meC m v 4 (m.1 6 v 14).toNatClampNeg) else pBd (c10P 45 g L (meC m v 4 (m.1 6 v 14).toNatClampNeg)) (c10tE g L)
def c10tB (g v L : Nat) (t : Int32) (m : MM) : PR := pBd (skC m 11) (c10tD g v L t)
def c10tA (g v L : Nat) (t : Int32) (m : MM) : PR := if t = 26 then c10P 44 g L (meC m v 0 (m.1 6 v 13).toNatClampNeg) else pBd (c10P 44 g L (meC m v 0 (m.1 6 v 13).toNatClampNeg)) (c10tB g v L t)
def c10t1 (g v L : Nat) (t : Int32) (m : MM) : PR := if t = 24 ∨ t = 25 ∨ t = 26 then c10tA g v L t (spM (mRow m 43 g (upd (m.1 43 g) L t))) else (false, miC m)
def c10t (g v : Nat) (m : MM) : PR := c10t1 g v (m.1 9 g 8).toNatClampNeg (m.1 4 0 6) m

--tpl ⟨_, _, _, _, _, _, _, by assumption, by assumption, by omega, rfl⟩ || bI ((c10t {g1} {g2} {m}).1 = true) || (c10t {g1} {g2} {m}).2
def Pre_X10_readTest : PreT := fun m as => ∃ g v ns nm nt na L : Nat, CJ m v ns nm nt na ∧ m.1 9 g 8 = nI L ∧ L < 60 ∧ as = [vR 10 0, vR 9 g, vR 6 v]
def Fn_X10_readTest : FnT := fun m as => match as with
  | [_, Sum.inr (Sum.inr q), Sum.inr (Sum.inr r)] => (some (vI (bI ((c10t q.2 r.2 m).1 = true))), (c10t q.2 r.2 m).2)
  | _ => (none, m)
abbrev y_X10_readTest : MethodName := ⟨"GivenUp$YearsReader", "readTest", "(LGivenUp$Years;LGivenUp$Valley;)Z"⟩
def P_X10_readTest : List StpT := [s_aload 1, s_getI 9 8, s_istore 3, s_aload 0, s_getC 10 0 4 0, s_getI 4 6, s_istore 4, s_iload 4, s_ic (24), s_iceq 20, s_iload 4, s_ic (25), s_iceq 20, s_iload 4, s_ic (26), s_iceq 20, s_aload 0, s_getC 10 0 4 0, s_callV 4 0 Pre_X4_misplaced Fn_X4_misplaced, s_zret, s_aload 1, s_getR 9 0 43, s_iload 3, s_iload 4, s_iast, s_aload 0, s_getC 10 0 4 0, s_callV 4 0 Pre_X4_step Fn_X4_step, s_aload 1, s_getR 9 1 44, s_iload 3, s_aload 0, s_getC 10 0 4 0, s_aload 2, s_getR 6 0 29, s_ic (0), s_aload 2, s_getI 6 13, s_callV 4 3 Pre_X4_member Fn_X4_member, s_iast, s_aload 1, s_getR 9 1 44, s_iload 3, s_iald, s_iflt 48, s_iload 4, s_ic (26), s_icne 57, s_aload 1, s_getR 9 1 44, s_iload 3, s_iald, s_iflt 55, s_ic (1), s_goto 56, s_ic (0), s_zret, s_aload 0, s_getC 10 0 4 0, s_ic (11), s_callV 4 1 Pre_X4_skip Fn_X4_skip, s_ifne 64, s_ic (0), s_zret, s_aload 1, s_getR 9 2 45, s_iload 3, s_aload 0, s_getC 10 0 4 0, s_aload 2, s_getR 6 0 29, s_ic (4), s_aload 2, s_getI 6 14, s_callV 4 3 Pre_X4_member Fn_X4_member, s_iast, s_aload 1, s_getR 9 2 45, s_iload 3, s_iald, s_iflt 84, s_iload 4, s_ic (25), s_icne 93, s_aload 1, s_getR 9 2 45, s_iload 3, s_iald, s_iflt 91, s_ic (1), s_goto 92, s_ic (0), s_zret, s_aload 0, s_getC 10 0 4 0, s_getI 4 6, s_ic (34), s_iceq 112, s_aload 0, s_getC 10 0 4 0, s_getI 4 6, s_ic (35), s_iceq 112, s_aload 0, s_getC 10 0 4 0, s_getI 4 6, s_ic (36), s_iceq 112, s_aload 0, s_getC 10 0 4 0, s_callV 4 0 Pre_X4_misplaced Fn_X4_misplaced, s_zret, s_aload 1, s_getR 9 3 46, s_iload 3, s_aload 0, s_getC 10 0 4 0, s_getI 4 6, s_iast, s_aload 0, s_getC 10 0 4 0, s_callV 4 0 Pre_X4_step Fn_X4_step, s_aload 1, s_getR 9 4 47, s_iload 3, s_aload 0, s_getC 10 0 4 0, s_ic (0), s_ic (9999), s_callV 4 2 Pre_X4_amount Fn_X4_amount, s_iast, s_aload 1, s_getR 9 4 47, s_iload 3, s_iald, s_iflt 138, s_ic (1), s_goto 139, s_ic (0), s_zret]
def pc_X10_readTest : Nat → Nat := fun i => [0, 1, 4, 5, 6, 9, 12, 14, 16, 18, 21, 23, 25, 28, 30, 32, 35, 36, 39, 42, 43, 44, 47, 48, 50, 51, 52, 55, 58, 59, 62, 63, 64, 67, 68, 71, 72, 73, 76, 79, 80, 81, 84, 85, 86, 89, 91, 93, 96, 97, 100, 101, 102, 105, 106, 109, 110, 111, 112, 115, 117, 120, 123, 124, 125, 126, 129, 130, 131, 134, 135, 138, 139, 140, 143, 146, 147, 148, 151, 152, 153, 156, 158, 160, 163, 164, 167, 168, 169, 172, 173, 176, 177, 178, 179, 182, 185, 187, 190, 191, 194, 197, 199, 202, 203, 206, 209, 211, 214, 215, 218, 221, 222, 223, 226, 227, 228, 231, 234, 235, 236, 239, 242, 243, 246, 247, 248, 251, 252, 255, 258, 259, 260, 263, 264, 265, 268, 269, 272, 273].getD i 0
def dl_X10_readTest : List (Nat × Instr × Nat) := [(0, .aload_n 1, 1), (1, .getfield 53, 3), (4, .istore_n 3, 1), (5, .aload_n 0, 1), (6, .getfield 19, 3), (9, .getfield 34, 3), (12, .istore 4, 2), (14, .iload 4, 2), (16, .bipush 24, 2), (18, .if_icmp .eq 25, 3), (21, .iload 4, 2), (23, .bipush 25, 2), (25, .if_icmp .eq 18, 3), (28, .iload 4, 2), (30, .bipush 26, 2), (32, .if_icmp .eq 11, 3), (35, .aload_n 0, 1), (36, .getfield 19, 3), (39, .invokevirtual 45, 3), (42, .ireturn, 1), (43, .aload_n 1, 1), (44, .getfield 63, 3), (47, .iload_n 3, 1), (48, .iload 4, 2), (50, .iastore, 1), (51, .aload_n 0, 1), (52, .getfield 19, 3), (55, .invokevirtual 56, 3), (58, .aload_n 1, 1), (59, .getfield 84, 3), (62, .iload_n 3, 1), (63, .aload_n 0, 1), (64, .getfield 19, 3), (67, .aload_n 2, 1), (68, .getfield 87, 3), (71, .iconst 0, 1), (72, .aload_n 2, 1), (73, .getfield 100, 3), (76, .invokevirtual 96, 3), (79, .iastore, 1), (80, .aload_n 1, 1), (81, .getfield 84, 3), (84, .iload_n 3, 1), (85, .iaload, 1), (86, .ifCond .lt 10, 3), (89, .iload 4, 2), (91, .bipush 26, 2), (93, .if_icmp .ne 18, 3), (96, .aload_n 1, 1), (97, .getfield 84, 3), (100, .iload_n 3, 1), (101, .iaload, 1), (102, .ifCond .lt 7, 3), (105, .iconst 1, 1), (106, .goto 4, 3), (109, .iconst 0, 1), (110, .ireturn, 1), (111, .aload_n 0, 1), (112, .getfield 19, 3), (115, .bipush 11, 2), (117, .invokevirtual 59, 3), (120, .ifCond .ne 5, 3), (123, .iconst 0, 1), (124, .ireturn, 1), (125, .aload_n 1, 1), (126, .getfield 103, 3), (129, .iload_n 3, 1), (130, .aload_n 0, 1), (131, .getfield 19, 3), (134, .aload_n 2, 1), (135, .getfield 87, 3), (138, .iconst 4, 1), (139, .aload_n 2, 1), (140, .getfield 106, 3), (143, .invokevirtual 96, 3), (146, .iastore, 1), (147, .aload_n 1, 1), (148, .getfield 103, 3), (151, .iload_n 3, 1), (152, .iaload, 1), (153, .ifCond .lt 10, 3), (156, .iload 4, 2), (158, .bipush 25, 2), (160, .if_icmp .ne 18, 3), (163, .aload_n 1, 1), (164, .getfield 103, 3), (167, .iload_n 3, 1), (168, .iaload, 1), (169, .ifCond .lt 7, 3), (172, .iconst 1, 1), (173, .goto 4, 3), (176, .iconst 0, 1), (177, .ireturn, 1), (178, .aload_n 0, 1), (179, .getfield 19, 3), (182, .getfield 34, 3), (185, .bipush 34, 2), (187, .if_icmp .eq 35, 3), (190, .aload_n 0, 1), (191, .getfield 19, 3), (194, .getfield 34, 3), (197, .bipush 35, 2), (199, .if_icmp .eq 23, 3), (202, .aload_n 0, 1), (203, .getfield 19, 3), (206, .getfield 34, 3), (209, .bipush 36, 2), (211, .if_icmp .eq 11, 3), (214, .aload_n 0, 1), (215, .getfield 19, 3), (218, .invokevirtual 45, 3), (221, .ireturn, 1), (222, .aload_n 1, 1), (223, .getfield 116, 3), (226, .iload_n 3, 1), (227, .aload_n 0, 1), (228, .getfield 19, 3), (231, .getfield 34, 3), (234, .iastore, 1), (235, .aload_n 0, 1), (236, .getfield 19, 3), (239, .invokevirtual 56, 3), (242, .aload_n 1, 1), (243, .getfield 109, 3), (246, .iload_n 3, 1), (247, .aload_n 0, 1), (248, .getfield 19, 3), (251, .iconst 0, 1), (252, .sipush 9999, 3), (255, .invokevirtual 112, 3), (258, .iastore, 1), (259, .aload_n 1, 1), (260, .getfield 109, 3), (263, .iload_n 3, 1), (264, .iaload, 1), (265, .ifCond .lt 7, 3), (268, .iconst 1, 1), (269, .goto 4, 3), (272, .iconst 0, 1), (273, .ireturn, 1)]
theorem dc_X10_readTest : DEC prog_12_method_7_code pc_X10_readTest dl_X10_readTest := DEC_of (by decide +kernel)
abbrev rm_X10_readTest : Room := { frames := 4, cells := 0, slots := 0, locals := 89 }
set_option maxRecDepth 20000 in
theorem sa_X10_readTest (l : Launch) : SNDALL l prog_12_method_7_code "GivenUp$YearsReader" 5 (some .boolean) rm_X10_readTest P_X10_readTest pc_X10_readTest := fun p e s m args below meth c cells slots Q D dA ad A RR hC hR => by
  have hM := RTX_room (R := rm_X10_readTest) hR
  exact ⟨st_aload_n hC (n := 0) (k := 1) (dc_X10_readTest 0 (0, .aload_n 1, 1) rfl rfl) rfl rfl,
    st_getI hC (n := 1) (k := 9) (j := 8) (dc_X10_readTest 1 (1, .getfield 53, 3) rfl rfl) rfl clf_9 (by decide) rfl wd_536,
    st_istore_n hC (n := 2) (k := 3) (dc_X10_readTest 2 (4, .istore_n 3, 1) rfl rfl) rfl rfl (by decide),
    st_aload_n hC (n := 3) (k := 0) (dc_X10_readTest 3 (5, .aload_n 0, 1) rfl rfl) rfl rfl,
    st_getC hC (n := 4) (k := 10) (j := 0) (dc_X10_readTest 4 (6, .getfield 19, 3) rfl rfl) rfl clf_10 (by decide) rfl (by decide) wd_293,
    st_getI hC (n := 5) (k := 4) (j := 6) (dc_X10_readTest 5 (9, .getfield 34, 3) rfl rfl) rfl clf_4 (by decide) rfl wd_238,
    st_istore hC (n := 6) (dc_X10_readTest 6 (12, .istore 4, 2) rfl rfl) rfl (by decide),
    st_iload hC (n := 7) (dc_X10_readTest 7 (14, .iload 4, 2) rfl rfl) rfl,
    st_bipush hC (n := 8) (x := 24) (dc_X10_readTest 8 (16, .bipush 24, 2) rfl rfl) rfl (by decide),
    st_iceq hC (n := 9) (dc_X10_readTest 9 (18, .if_icmp .eq 25, 3) rfl rfl) rfl (by decide),
    st_iload hC (n := 10) (dc_X10_readTest 10 (21, .iload 4, 2) rfl rfl) rfl,
    st_bipush hC (n := 11) (x := 25) (dc_X10_readTest 11 (23, .bipush 25, 2) rfl rfl) rfl (by decide),
    st_iceq hC (n := 12) (dc_X10_readTest 12 (25, .if_icmp .eq 18, 3) rfl rfl) rfl (by decide),
    st_iload hC (n := 13) (dc_X10_readTest 13 (28, .iload 4, 2) rfl rfl) rfl,
    st_bipush hC (n := 14) (x := 26) (dc_X10_readTest 14 (30, .bipush 26, 2) rfl rfl) rfl (by decide),
    st_iceq hC (n := 15) (dc_X10_readTest 15 (32, .if_icmp .eq 11, 3) rfl rfl) rfl (by decide),
    st_aload_n hC (n := 16) (k := 0) (dc_X10_readTest 16 (35, .aload_n 0, 1) rfl rfl) rfl rfl,
    st_getC hC (n := 17) (k := 10) (j := 0) (dc_X10_readTest 17 (36, .getfield 19, 3) rfl rfl) rfl clf_10 (by decide) rfl (by decide) wd_293,
    st_callV hC (n := 18) (k := 4) (na := 0) (con_X4_misplaced l) (dc_X10_readTest 18 (39, .invokevirtual 45, 3) rfl rfl) rfl wd_887 wd_144 (by decide) ⟨rfl, rfl, by decide, by decide⟩ hM wd_982 wd_885 wd_886 clf_4,
    st_zret hC (n := 19) hR (dc_X10_readTest 19 (42, .ireturn, 1) rfl rfl),
    st_aload_n hC (n := 20) (k := 1) (dc_X10_readTest 20 (43, .aload_n 1, 1) rfl rfl) rfl rfl,
    st_getR hC (n := 21) (k := 9) (j := 0) (dc_X10_readTest 21 (44, .getfield 63, 3) rfl rfl) rfl clf_9 (by decide) rfl (by decide) wd_512,
    st_iload_n hC (n := 22) (k := 3) (dc_X10_readTest 22 (47, .iload_n 3, 1) rfl rfl) rfl rfl,
    st_iload hC (n := 23) (dc_X10_readTest 23 (48, .iload 4, 2) rfl rfl) rfl,
    st_iast hC (n := 24) (dc_X10_readTest 24 (50, .iastore, 1) rfl rfl) rfl,
    st_aload_n hC (n := 25) (k := 0) (dc_X10_readTest 25 (51, .aload_n 0, 1) rfl rfl) rfl rfl,
    st_getC hC (n := 26) (k := 10) (j := 0) (dc_X10_readTest 26 (52, .getfield 19, 3) rfl rfl) rfl clf_10 (by decide) rfl (by decide) wd_293,
    st_callV hC (n := 27) (k := 4) (na := 0) (con_X4_step l) (dc_X10_readTest 27 (55, .invokevirtual 56, 3) rfl rfl) rfl wd_859 wd_144 (by decide) ⟨rfl, rfl, by decide, by decide⟩ hM wd_983 wd_857 wd_858 clf_4,
    st_aload_n hC (n := 28) (k := 1) (dc_X10_readTest 28 (58, .aload_n 1, 1) rfl rfl) rfl rfl,
    st_getR hC (n := 29) (k := 9) (j := 1) (dc_X10_readTest 29 (59, .getfield 84, 3) rfl rfl) rfl clf_9 (by decide) rfl (by decide) wd_515,
    st_iload_n hC (n := 30) (k := 3) (dc_X10_readTest 30 (62, .iload_n 3, 1) rfl rfl) rfl rfl,
    st_aload_n hC (n := 31) (k := 0) (dc_X10_readTest 31 (63, .aload_n 0, 1) rfl rfl) rfl rfl,
    st_getC hC (n := 32) (k := 10) (j := 0) (dc_X10_readTest 32 (64, .getfield 19, 3) rfl rfl) rfl clf_10 (by decide) rfl (by decide) wd_293,
    st_aload_n hC (n := 33) (k := 2) (dc_X10_readTest 33 (67, .aload_n 2, 1) rfl rfl) rfl rfl,
    st_getR hC (n := 34) (k := 6) (j := 0) (dc_X10_readTest 34 (68, .getfield 87, 3) rfl rfl) rfl clf_6 (by decide) rfl (by decide) wd_577,
    st_iconst hC (n := 35) (x := 0) (dc_X10_readTest 35 (71, .iconst 0, 1) rfl rfl) rfl (by decide),
    st_aload_n hC (n := 36) (k := 2) (dc_X10_readTest 36 (72, .aload_n 2, 1) rfl rfl) rfl rfl,
    st_getI hC (n := 37) (k := 6) (j := 13) (dc_X10_readTest 37 (73, .getfield 100, 3) rfl rfl) rfl clf_6 (by decide) rfl wd_621,
    st_callV hC (n := 38) (k := 4) (na := 3) (con_X4_member l) (dc_X10_readTest 38 (76, .invokevirtual 96, 3) rfl rfl) rfl wd_913 wd_144 (by decide) ⟨rfl, rfl, by decide, by decide⟩ hM wd_997 wd_911 wd_912 clf_4,
    st_iast hC (n := 39) (dc_X10_readTest 39 (79, .iastore, 1) rfl rfl) rfl,
    st_aload_n hC (n := 40) (k := 1) (dc_X10_readTest 40 (80, .aload_n 1, 1) rfl rfl) rfl rfl,
    st_getR hC (n := 41) (k := 9) (j := 1) (dc_X10_readTest 41 (81, .getfield 84, 3) rfl rfl) rfl clf_9 (by decide) rfl (by decide) wd_515,
    st_iload_n hC (n := 42) (k := 3) (dc_X10_readTest 42 (84, .iload_n 3, 1) rfl rfl) rfl rfl,
    st_iald hC (n := 43) (dc_X10_readTest 43 (85, .iaload, 1) rfl rfl) rfl,
    st_iflt hC (n := 44) (dc_X10_readTest 44 (86, .ifCond .lt 10, 3) rfl rfl) rfl (by decide),
    st_iload hC (n := 45) (dc_X10_readTest 45 (89, .iload 4, 2) rfl rfl) rfl,
    st_bipush hC (n := 46) (x := 26) (dc_X10_readTest 46 (91, .bipush 26, 2) rfl rfl) rfl (by decide),
    st_icne hC (n := 47) (dc_X10_readTest 47 (93, .if_icmp .ne 18, 3) rfl rfl) rfl (by decide),
    st_aload_n hC (n := 48) (k := 1) (dc_X10_readTest 48 (96, .aload_n 1, 1) rfl rfl) rfl rfl,
    st_getR hC (n := 49) (k := 9) (j := 1) (dc_X10_readTest 49 (97, .getfield 84, 3) rfl rfl) rfl clf_9 (by decide) rfl (by decide) wd_515,
    st_iload_n hC (n := 50) (k := 3) (dc_X10_readTest 50 (100, .iload_n 3, 1) rfl rfl) rfl rfl,
    st_iald hC (n := 51) (dc_X10_readTest 51 (101, .iaload, 1) rfl rfl) rfl,
    st_iflt hC (n := 52) (dc_X10_readTest 52 (102, .ifCond .lt 7, 3) rfl rfl) rfl (by decide),
    st_iconst hC (n := 53) (x := 1) (dc_X10_readTest 53 (105, .iconst 1, 1) rfl rfl) rfl (by decide),
    st_goto hC (n := 54) (dc_X10_readTest 54 (106, .goto 4, 3) rfl rfl) (by decide),
    st_iconst hC (n := 55) (x := 0) (dc_X10_readTest 55 (109, .iconst 0, 1) rfl rfl) rfl (by decide),
    st_zret hC (n := 56) hR (dc_X10_readTest 56 (110, .ireturn, 1) rfl rfl),
    st_aload_n hC (n := 57) (k := 0) (dc_X10_readTest 57 (111, .aload_n 0, 1) rfl rfl) rfl rfl,
    st_getC hC (n := 58) (k := 10) (j := 0) (dc_X10_readTest 58 (112, .getfield 19, 3) rfl rfl) rfl clf_10 (by decide) rfl (by decide) wd_293,
    st_bipush hC (n := 59) (x := 11) (dc_X10_readTest 59 (115, .bipush 11, 2) rfl rfl) rfl (by decide),
    st_callV hC (n := 60) (k := 4) (na := 1) (con_X4_skip l) (dc_X10_readTest 60 (117, .invokevirtual 59, 3) rfl rfl) rfl wd_900 wd_144 (by decide) ⟨rfl, rfl, by decide, by decide⟩ hM wd_984 wd_898 wd_899 clf_4,
    st_ifne hC (n := 61) (dc_X10_readTest 61 (120, .ifCond .ne 5, 3) rfl rfl) rfl (by decide),
    st_iconst hC (n := 62) (x := 0) (dc_X10_readTest 62 (123, .iconst 0, 1) rfl rfl) rfl (by decide),
    st_zret hC (n := 63) hR (dc_X10_readTest 63 (124, .ireturn, 1) rfl rfl),
    st_aload_n hC (n := 64) (k := 1) (dc_X10_readTest 64 (125, .aload_n 1, 1) rfl rfl) rfl rfl,
    st_getR hC (n := 65) (k := 9) (j := 2) (dc_X10_readTest 65 (126, .getfield 103, 3) rfl rfl) rfl clf_9 (by decide) rfl (by decide) wd_518,
    st_iload_n hC (n := 66) (k := 3) (dc_X10_readTest 66 (129, .iload_n 3, 1) rfl rfl) rfl rfl,
    st_aload_n hC (n := 67) (k := 0) (dc_X10_readTest 67 (130, .aload_n 0, 1) rfl rfl) rfl rfl,
    st_getC hC (n := 68) (k := 10) (j := 0) (dc_X10_readTest 68 (131, .getfield 19, 3) rfl rfl) rfl clf_10 (by decide) rfl (by decide) wd_293,
    st_aload_n hC (n := 69) (k := 2) (dc_X10_readTest 69 (134, .aload_n 2, 1) rfl rfl) rfl rfl,
    st_getR hC (n := 70) (k := 6) (j := 0) (dc_X10_readTest 70 (135, .getfield 87, 3) rfl rfl) rfl clf_6 (by decide) rfl (by decide) wd_577,
    st_iconst hC (n := 71) (x := 4) (dc_X10_readTest 71 (138, .iconst 4, 1) rfl rfl) rfl (by decide),
    st_aload_n hC (n := 72) (k := 2) (dc_X10_readTest 72 (139, .aload_n 2, 1) rfl rfl) rfl rfl,
    st_getI hC (n := 73) (k := 6) (j := 14) (dc_X10_readTest 73 (140, .getfield 106, 3) rfl rfl) rfl clf_6 (by decide) rfl wd_627,
    st_callV hC (n := 74) (k := 4) (na := 3) (con_X4_member l) (dc_X10_readTest 74 (143, .invokevirtual 96, 3) rfl rfl) rfl wd_913 wd_144 (by decide) ⟨rfl, rfl, by decide, by decide⟩ hM wd_997 wd_911 wd_912 clf_4,
    st_iast hC (n := 75) (dc_X10_readTest 75 (146, .iastore, 1) rfl rfl) rfl,
    st_aload_n hC (n := 76) (k := 1) (dc_X10_readTest 76 (147, .aload_n 1, 1) rfl rfl) rfl rfl,
    st_getR hC (n := 77) (k := 9) (j := 2) (dc_X10_readTest 77 (148, .getfield 103, 3) rfl rfl) rfl clf_9 (by decide) rfl (by decide) wd_518,
    st_iload_n hC (n := 78) (k := 3) (dc_X10_readTest 78 (151, .iload_n 3, 1) rfl rfl) rfl rfl,
    st_iald hC (n := 79) (dc_X10_readTest 79 (152, .iaload, 1) rfl rfl) rfl,
    st_iflt hC (n := 80) (dc_X10_readTest 80 (153, .ifCond .lt 10, 3) rfl rfl) rfl (by decide),
    st_iload hC (n := 81) (dc_X10_readTest 81 (156, .iload 4, 2) rfl rfl) rfl,
    st_bipush hC (n := 82) (x := 25) (dc_X10_readTest 82 (158, .bipush 25, 2) rfl rfl) rfl (by decide),
    st_icne hC (n := 83) (dc_X10_readTest 83 (160, .if_icmp .ne 18, 3) rfl rfl) rfl (by decide),
    st_aload_n hC (n := 84) (k := 1) (dc_X10_readTest 84 (163, .aload_n 1, 1) rfl rfl) rfl rfl,
    st_getR hC (n := 85) (k := 9) (j := 2) (dc_X10_readTest 85 (164, .getfield 103, 3) rfl rfl) rfl clf_9 (by decide) rfl (by decide) wd_518,
    st_iload_n hC (n := 86) (k := 3) (dc_X10_readTest 86 (167, .iload_n 3, 1) rfl rfl) rfl rfl,
    st_iald hC (n := 87) (dc_X10_readTest 87 (168, .iaload, 1) rfl rfl) rfl,
    st_iflt hC (n := 88) (dc_X10_readTest 88 (169, .ifCond .lt 7, 3) rfl rfl) rfl (by decide),
    st_iconst hC (n := 89) (x := 1) (dc_X10_readTest 89 (172, .iconst 1, 1) rfl rfl) rfl (by decide),
    st_goto hC (n := 90) (dc_X10_readTest 90 (173, .goto 4, 3) rfl rfl) (by decide),
    st_iconst hC (n := 91) (x := 0) (dc_X10_readTest 91 (176, .iconst 0, 1) rfl rfl) rfl (by decide),
    st_zret hC (n := 92) hR (dc_X10_readTest 92 (177, .ireturn, 1) rfl rfl),
    st_aload_n hC (n := 93) (k := 0) (dc_X10_readTest 93 (178, .aload_n 0, 1) rfl rfl) rfl rfl,
    st_getC hC (n := 94) (k := 10) (j := 0) (dc_X10_readTest 94 (179, .getfield 19, 3) rfl rfl) rfl clf_10 (by decide) rfl (by decide) wd_293,
    st_getI hC (n := 95) (k := 4) (j := 6) (dc_X10_readTest 95 (182, .getfield 34, 3) rfl rfl) rfl clf_4 (by decide) rfl wd_238,
    st_bipush hC (n := 96) (x := 34) (dc_X10_readTest 96 (185, .bipush 34, 2) rfl rfl) rfl (by decide),
    st_iceq hC (n := 97) (dc_X10_readTest 97 (187, .if_icmp .eq 35, 3) rfl rfl) rfl (by decide),
    st_aload_n hC (n := 98) (k := 0) (dc_X10_readTest 98 (190, .aload_n 0, 1) rfl rfl) rfl rfl,
    st_getC hC (n := 99) (k := 10) (j := 0) (dc_X10_readTest 99 (191, .getfield 19, 3) rfl rfl) rfl clf_10 (by decide) rfl (by decide) wd_293,
    st_getI hC (n := 100) (k := 4) (j := 6) (dc_X10_readTest 100 (194, .getfield 34, 3) rfl rfl) rfl clf_4 (by decide) rfl wd_238,
    st_bipush hC (n := 101) (x := 35) (dc_X10_readTest 101 (197, .bipush 35, 2) rfl rfl) rfl (by decide),
    st_iceq hC (n := 102) (dc_X10_readTest 102 (199, .if_icmp .eq 23, 3) rfl rfl) rfl (by decide),
    st_aload_n hC (n := 103) (k := 0) (dc_X10_readTest 103 (202, .aload_n 0, 1) rfl rfl) rfl rfl,
    st_getC hC (n := 104) (k := 10) (j := 0) (dc_X10_readTest 104 (203, .getfield 19, 3) rfl rfl) rfl clf_10 (by decide) rfl (by decide) wd_293,
    st_getI hC (n := 105) (k := 4) (j := 6) (dc_X10_readTest 105 (206, .getfield 34, 3) rfl rfl) rfl clf_4 (by decide) rfl wd_238,
    st_bipush hC (n := 106) (x := 36) (dc_X10_readTest 106 (209, .bipush 36, 2) rfl rfl) rfl (by decide),
    st_iceq hC (n := 107) (dc_X10_readTest 107 (211, .if_icmp .eq 11, 3) rfl rfl) rfl (by decide),
    st_aload_n hC (n := 108) (k := 0) (dc_X10_readTest 108 (214, .aload_n 0, 1) rfl rfl) rfl rfl,
    st_getC hC (n := 109) (k := 10) (j := 0) (dc_X10_readTest 109 (215, .getfield 19, 3) rfl rfl) rfl clf_10 (by decide) rfl (by decide) wd_293,
    st_callV hC (n := 110) (k := 4) (na := 0) (con_X4_misplaced l) (dc_X10_readTest 110 (218, .invokevirtual 45, 3) rfl rfl) rfl wd_887 wd_144 (by decide) ⟨rfl, rfl, by decide, by decide⟩ hM wd_982 wd_885 wd_886 clf_4,
    st_zret hC (n := 111) hR (dc_X10_readTest 111 (221, .ireturn, 1) rfl rfl),
    st_aload_n hC (n := 112) (k := 1) (dc_X10_readTest 112 (222, .aload_n 1, 1) rfl rfl) rfl rfl,
    st_getR hC (n := 113) (k := 9) (j := 3) (dc_X10_readTest 113 (223, .getfield 116, 3) rfl rfl) rfl clf_9 (by decide) rfl (by decide) wd_521,
    st_iload_n hC (n := 114) (k := 3) (dc_X10_readTest 114 (226, .iload_n 3, 1) rfl rfl) rfl rfl,
    st_aload_n hC (n := 115) (k := 0) (dc_X10_readTest 115 (227, .aload_n 0, 1) rfl rfl) rfl rfl,
    st_getC hC (n := 116) (k := 10) (j := 0) (dc_X10_readTest 116 (228, .getfield 19, 3) rfl rfl) rfl clf_10 (by decide) rfl (by decide) wd_293,
    st_getI hC (n := 117) (k := 4) (j := 6) (dc_X10_readTest 117 (231, .getfield 34, 3) rfl rfl) rfl clf_4 (by decide) rfl wd_238,
    st_iast hC (n := 118) (dc_X10_readTest 118 (234, .iastore, 1) rfl rfl) rfl,
    st_aload_n hC (n := 119) (k := 0) (dc_X10_readTest 119 (235, .aload_n 0, 1) rfl rfl) rfl rfl,
    st_getC hC (n := 120) (k := 10) (j := 0) (dc_X10_readTest 120 (236, .getfield 19, 3) rfl rfl) rfl clf_10 (by decide) rfl (by decide) wd_293,
    st_callV hC (n := 121) (k := 4) (na := 0) (con_X4_step l) (dc_X10_readTest 121 (239, .invokevirtual 56, 3) rfl rfl) rfl wd_859 wd_144 (by decide) ⟨rfl, rfl, by decide, by decide⟩ hM wd_983 wd_857 wd_858 clf_4,
    st_aload_n hC (n := 122) (k := 1) (dc_X10_readTest 122 (242, .aload_n 1, 1) rfl rfl) rfl rfl,
    st_getR hC (n := 123) (k := 9) (j := 4) (dc_X10_readTest 123 (243, .getfield 109, 3) rfl rfl) rfl clf_9 (by decide) rfl (by decide) wd_524,
    st_iload_n hC (n := 124) (k := 3) (dc_X10_readTest 124 (246, .iload_n 3, 1) rfl rfl) rfl rfl,
    st_aload_n hC (n := 125) (k := 0) (dc_X10_readTest 125 (247, .aload_n 0, 1) rfl rfl) rfl rfl,
    st_getC hC (n := 126) (k := 10) (j := 0) (dc_X10_readTest 126 (248, .getfield 19, 3) rfl rfl) rfl clf_10 (by decide) rfl (by decide) wd_293,
    st_iconst hC (n := 127) (x := 0) (dc_X10_readTest 127 (251, .iconst 0, 1) rfl rfl) rfl (by decide),
    st_sipush hC (n := 128) (x := 9999) (dc_X10_readTest 128 (252, .sipush 9999, 3) rfl rfl) rfl (by decide),
    st_callV hC (n := 129) (k := 4) (na := 2) (con_X4_amount l) (dc_X10_readTest 129 (255, .invokevirtual 112, 3) rfl rfl) rfl wd_896 wd_144 (by decide) ⟨rfl, rfl, by decide, by decide⟩ hM wd_998 wd_894 wd_895 clf_4,
    st_iast hC (n := 130) (dc_X10_readTest 130 (258, .iastore, 1) rfl rfl) rfl,
    st_aload_n hC (n := 131) (k := 1) (dc_X10_readTest 131 (259, .aload_n 1, 1) rfl rfl) rfl rfl,
    st_getR hC (n := 132) (k := 9) (j := 4) (dc_X10_readTest 132 (260, .getfield 109, 3) rfl rfl) rfl clf_9 (by decide) rfl (by decide) wd_524,
    st_iload_n hC (n := 133) (k := 3) (dc_X10_readTest 133 (263, .iload_n 3, 1) rfl rfl) rfl rfl,
    st_iald hC (n := 134) (dc_X10_readTest 134 (264, .iaload, 1) rfl rfl) rfl,
    st_iflt hC (n := 135) (dc_X10_readTest 135 (265, .ifCond .lt 7, 3) rfl rfl) rfl (by decide),
    st_iconst hC (n := 136) (x := 1) (dc_X10_readTest 136 (268, .iconst 1, 1) rfl rfl) rfl (by decide),
    st_goto hC (n := 137) (dc_X10_readTest 137 (269, .goto 4, 3) rfl rfl) (by decide),
    st_iconst hC (n := 138) (x := 0) (dc_X10_readTest 138 (272, .iconst 0, 1) rfl rfl) rfl (by decide),
    st_zret hC (n := 139) hR (dc_X10_readTest 139 (273, .ireturn, 1) rfl rfl), trivial⟩
set_option maxRecDepth 8000 in
theorem vc_X10_readTest : VC P_X10_readTest 5 Pre_X10_readTest Fn_X10_readTest := by
  rintro mm as hom hoa ⟨g, v, ns, nm, nt, na, L, hJ, e8, hL, rfl⟩
  refine ⟨Nat.le_of_ble_eq_true rfl, fun X h => ?_⟩
  replace h : RUN P_X10_readTest (RT (c10t g v mm)) X := h
  have ns4 := hJ.2.1.2
  have nm4 := hJ.2.2.1.2
  have eL : (nI L).toNatClampNeg = L := nI_clamp (by omega)
  unfold c10t at h
  rw [e8, eL] at h
  have s122 : ∀ M p t, TXp M → p = c10P 47 g L (amC M 0 9999) → RUN P_X10_readTest (RT p) X → X 122 [some (vR 10 0), some (vR 9 g), some (vR 6 v), some (vI (nI L)), some (vI (t))] [] (M) := by
    intro M p t hM hp h
    show X 122 [some (vR 10 0), some (vR 9 g), some (vR 6 v), some (vI (nI L)), some (vI t)] [] M
    refine h (fun _ => false) 3000 122 _ _ _ ?_
    refine And.intro (show Pre_X4_amount M [vR 4 0, vI 0, vI 9999] from ⟨hM, _, _, rfl⟩) ?_
    refine And.intro (show inb (nI L) (alen 47) = true from (inb_o 60 rfl rfl rfl (by omega))) ?_
    refine And.intro (show inb (nI L) (alen 47) = true from (inb_o 60 rfl rfl rfl (by omega))) ?_
    refine br_c (fun b135 => ?_) (fun b135 => ?_)
    · -- 135: (mRow ((amC M 0 9999).2) 47 g (upd (((amC M 0 9999).2).1 47 g) (nI L).toNatClampNeg ((amC M 0 9999).1))).1 47 g ((nI L).toNatClampNeg) < 0 taken
      replace b135 : (mRow ((amC M 0 9999).2) 47 g (upd (((amC M 0 9999).2).1 47 g) (nI L).toNatClampNeg ((amC M 0 9999).1))).1 47 g ((nI L).toNatClampNeg) < 0 := b135
      (try simp only [mRow_row, eL, upd_eq] at b135)
      refine And.intro (Or.inl rfl) ?_
      show ((some (vI 0) : Option MV), mRow ((amC M 0 9999).2) 47 g (upd (((amC M 0 9999).2).1 47 g) (nI L).toNatClampNeg ((amC M 0 9999).1))) = _
      (try simp only [mRow_row, eL, upd_eq])
      exact PR_f (by rw [hp, c10P_f b135])
    · -- 135: (mRow ((amC M 0 9999).2) 47 g (upd (((amC M 0 9999).2).1 47 g) (nI L).toNatClampNeg ((amC M 0 9999).1))).1 47 g ((nI L).toNatClampNeg) < 0 on
      replace b135 : ¬ ((mRow ((amC M 0 9999).2) 47 g (upd (((amC M 0 9999).2).1 47 g) (nI L).toNatClampNeg ((amC M 0 9999).1))).1 47 g ((nI L).toNatClampNeg) < 0) := b135
      (try simp only [mRow_row, eL, upd_eq] at b135)
      refine And.intro (Or.inr rfl) ?_
      show ((some (vI 1) : Option MV), mRow ((amC M 0 9999).2) 47 g (upd (((amC M 0 9999).2).1 47 g) (nI L).toNatClampNeg ((amC M 0 9999).1))) = _
      (try simp only [mRow_row, eL, upd_eq])
      exact PR_t (by rw [hp, c10P_t b135])
  have s112 : ∀ M p t, CJ M v ns nm nt na → p = c10P 47 g L (amC (spM (mRow M 46 g (upd (M.1 46 g) L (M.1 4 0 6)))) 0 9999) → RUN P_X10_readTest (RT p) X → X 112 [some (vR 10 0), some (vR 9 g), some (vR 6 v), some (vI (nI L)), some (vI (t))] [] (M) := by
    intro M p t hM hp h
    show X 112 [some (vR 10 0), some (vR 9 g), some (vR 6 v), some (vI (nI L)), some (vI t)] [] M
    refine h (fun i => Nat.beq i 122) 3000 112 _ _ _ ?_
    refine And.intro (show inb (nI L) (alen 46) = true from (inb_o 60 rfl rfl rfl (by omega))) ?_
    refine And.intro (show Pre_X4_step (mRow M 46 g (upd (M.1 46 g) (nI L).toNatClampNeg (M.1 4 0 6))) [vR 4 0] from ⟨(CJ_row (by decide) hM).1, rfl⟩) ?_
    show X 122 [some (vR 10 0), some (vR 9 g), some (vR 6 v), some (vI (nI L)), some (vI t)] [] (spM (mRow M 46 g (upd (M.1 46 g) (nI L).toNatClampNeg (M.1 4 0 6))))
    rw [eL]
    exact s122 _ _ _ (TXp_sp (CJ_row (by decide) hM).1) hp h
  have s93 : ∀ M p t, CJ M v ns nm nt na → p = c10tE g L M → RUN P_X10_readTest (RT p) X → X 93 [some (vR 10 0), some (vR 9 g), some (vR 6 v), some (vI (nI L)), some (vI (t))] [] (M) := by
    intro M p t hM hp h
    unfold c10tE at hp
    show X 93 [some (vR 10 0), some (vR 9 g), some (vR 6 v), some (vI (nI L)), some (vI t)] [] M
    refine h (fun i => Nat.beq i 112) 3000 93 _ _ _ ?_
    refine br_c (fun b97 => ?_) (fun b97 => ?_)
    · -- 97: M.1 4 0 6 = 34 taken
      replace b97 : M.1 4 0 6 = 34 := b97
      show X 112 [some (vR 10 0), some (vR 9 g), some (vR 6 v), some (vI (nI L)), some (vI t)] [] M
      rw [if_pos (Or.inl b97)] at hp
      exact s112 _ _ _ hM hp h
    · -- 97: M.1 4 0 6 = 34 on
      replace b97 : ¬ (M.1 4 0 6 = 34) := b97
      refine br_c (fun b102 => ?_) (fun b102 => ?_)
      · -- 102: M.1 4 0 6 = 35 taken
        replace b102 : M.1 4 0 6 = 35 := b102
        show X 112 [some (vR 10 0), some (vR 9 g), some (vR 6 v), some (vI (nI L)), some (vI t)] [] M
        rw [if_pos (Or.inr (Or.inl b102))] at hp
        exact s112 _ _ _ hM hp h
      · -- 102: M.1 4 0 6 = 35 on
        replace b102 : ¬ (M.1 4 0 6 = 35) := b102
        refine br_c (fun b107 => ?_) (fun b107 => ?_)
        · -- 107: M.1 4 0 6 = 36 taken
          replace b107 : M.1 4 0 6 = 36 := b107
          show X 112 [some (vR 10 0), some (vR 9 g), some (vR 6 v), some (vI (nI L)), some (vI t)] [] M
          rw [if_pos (Or.inr (Or.inr b107))] at hp
          exact s112 _ _ _ hM hp h
        · -- 107: M.1 4 0 6 = 36 on
          replace b107 : ¬ (M.1 4 0 6 = 36) := b107
          refine And.intro (show Pre_X4_misplaced M [vR 4 0] from rfl) ?_
          refine And.intro (Or.inl rfl) ?_
          show ((some (vI 0) : Option MV), miC M) = _
          exact PR_f (by rw [hp, if_neg (fun z => z.elim b97 (fun z => z.elim b102 b107))])
  have s64 : ∀ M p t, CJ M v ns nm nt na → p = c10tD g v L t M → RUN P_X10_readTest (RT p) X → X 64 [some (vR 10 0), some (vR 9 g), some (vR 6 v), some (vI (nI L)), some (vI (t))] [] (M) := by
    intro M p t hM hp h
    unfold c10tD at hp
    obtain ⟨q, hq⟩ : ∃ q, q = meC M v 4 (M.1 6 v 14).toNatClampNeg := ⟨_, rfl⟩
    have hQ : CJ q.2 v ns nm nt na := by rw [hq]; exact CJ_me hM
    rw [← hq] at hp
    obtain ⟨N, hN⟩ : ∃ N, N = mRow q.2 45 g (upd (q.2.1 45 g) L q.1) := ⟨_, rfl⟩
    have er : N.1 45 g L = q.1 := by rw [hN, mRow_row, upd_eq]
    have s84 : p = c10P 45 g L q → X 84 [some (vR 10 0), some (vR 9 g), some (vR 6 v), some (vI (nI L)), some (vI (t))] [] (N) := by
      intro hq
      show X 84 [some (vR 10 0), some (vR 9 g), some (vR 6 v), some (vI (nI L)), some (vI t)] [] N
      refine h (fun _ => false) 3000 84 _ _ _ ?_
      refine And.intro (show inb (nI L) (alen 45) = true from (inb_o 60 rfl rfl rfl (by omega))) ?_
      refine br_c (fun b88 => ?_) (fun b88 => ?_)
      · -- 88: N.1 45 g ((nI L).toNatClampNeg) < 0 taken
        replace b88 : N.1 45 g ((nI L).toNatClampNeg) < 0 := b88
        (try simp only [eL, er] at b88)
        refine And.intro (Or.inl rfl) ?_
        show ((some (vI 0) : Option MV), N) = _
        (try simp only [eL, er])
        exact PR_f (by rw [hq, c10P_f b88, hN])
      · -- 88: N.1 45 g ((nI L).toNatClampNeg) < 0 on
        replace b88 : ¬ (N.1 45 g ((nI L).toNatClampNeg) < 0) := b88
        (try simp only [eL, er] at b88)
        refine And.intro (Or.inr rfl) ?_
        show ((some (vI 1) : Option MV), N) = _
        (try simp only [eL, er])
        exact PR_t (by rw [hq, c10P_t b88, hN])
    have s76 : X 76 [some (vR 10 0), some (vR 9 g), some (vR 6 v), some (vI (nI L)), some (vI (t))] [] (N) := by
      show X 76 [some (vR 10 0), some (vR 9 g), some (vR 6 v), some (vI (nI L)), some (vI t)] [] N
      refine h (fun i => Nat.beq i 84 || Nat.beq i 93) 3000 76 _ _ _ ?_
      refine And.intro (show inb (nI L) (alen 45) = true from (inb_o 60 rfl rfl rfl (by omega))) ?_
      refine br_c (fun b80 => ?_) (fun b80 => ?_)
      · -- 80: N.1 45 g ((nI L).toNatClampNeg) < 0 taken
        replace b80 : N.1 45 g ((nI L).toNatClampNeg) < 0 := b80
        (try simp only [eL, er] at b80)
        show X 84 [some (vR 10 0), some (vR 9 g), some (vR 6 v), some (vI (nI L)), some (vI t)] [] N
        (try simp only [eL, er])
        refine s84 ?_
        by_cases c : t = 25 
        · rw [hp, if_pos c] 
        · rw [hp, if_neg c, c10P_f b80]; rfl
      · -- 80: N.1 45 g ((nI L).toNatClampNeg) < 0 on
        replace b80 : ¬ (N.1 45 g ((nI L).toNatClampNeg) < 0) := b80
        (try simp only [eL, er] at b80)
        refine brn_c (fun b83 => ?_) (fun b83 => ?_)
        · -- 83: t = 25 taken
          replace b83 : ¬ (t = 25) := b83
          (try simp only [eL, er] at b83)
          show X 93 [some (vR 10 0), some (vR 9 g), some (vR 6 v), some (vI (nI L)), some (vI t)] [] N
          (try simp only [eL, er])
          rw [if_neg b83, c10P_t b80] at hp
          rw [hN] 
          exact s93 _ _ _ (CJ_row (by decide) hQ) hp h
        · -- 83: t = 25 on
          replace b83 : t = 25 := b83
          (try simp only [eL, er] at b83)
          show X 84 [some (vR 10 0), some (vR 9 g), some (vR 6 v), some (vI (nI L)), some (vI t)] [] N
          (try simp only [eL, er])
          refine s84 ?_
          rw [hp, if_pos b83]
    show X 64 [some (vR 10 0), some (vR 9 g), some (vR 6 v), some (vI (nI L)), some (vI t)] [] M
    refine h (fun i => Nat.beq i 76) 3000 64 _ _ _ ?_
    refine And.intro (show Pre_X4_member M [vR 4 0, vR 29 v, vI 4, vI (M.1 6 v 14)] from ⟨hM.1, v, 4, nm, by omega, congrArg (fun z => [vR 4 0, vR 29 v, vI 4, vI z]) hM.2.2.1.1⟩) ?_
    refine And.intro (show inb (nI L) (alen 45) = true from (inb_o 60 rfl rfl rfl (by omega))) ?_
    show X 76 [some (vR 10 0), some (vR 9 g), some (vR 6 v), some (vI (nI L)), some (vI t)] [] (mRow ((meC M v 4 (M.1 6 v 14).toNatClampNeg).2) 45 g (upd (((meC M v 4 (M.1 6 v 14).toNatClampNeg).2).1 45 g) (nI L).toNatClampNeg ((meC M v 4 (M.1 6 v 14).toNatClampNeg).1)))
    rw [eL, ← hq, ← hN]
    exact s76
  have s57 : ∀ M p t, CJ M v ns nm nt na → p = c10tB g v L t M → RUN P_X10_readTest (RT p) X → X 57 [some (vR 10 0), some (vR 9 g), some (vR 6 v), some (vI (nI L)), some (vI (t))] [] (M) := by
    intro M p t hM hp h
    unfold c10tB at hp
    show X 57 [some (vR 10 0), some (vR 9 g), some (vR 6 v), some (vI (nI L)), some (vI t)] [] M
    refine h (fun i => Nat.beq i 64) 3000 57 _ _ _ ?_
    refine And.intro (show Pre_X4_skip M [vR 4 0, vI 11] from ⟨hM.1, _, rfl⟩) ?_
    refine brn_c (fun b61 => ?_) (fun b61 => ?_)
    · -- 61: bI ((skC M 11).1 = true) = 0 taken
      replace b61 : (skC M 11).1 = true := bI_n0.mp b61
      show X 64 [some (vR 10 0), some (vR 9 g), some (vR 6 v), some (vI (nI L)), some (vI t)] [] ((skC M 11).2)
      exact s64 _ _ _ (CJ_sk hM) (by rw [hp, pBd_t b61]) h
    · -- 61: bI ((skC M 11).1 = true) = 0 on
      replace b61 : ¬ ((skC M 11).1 = true) := bI_0.mp b61
      refine And.intro (Or.inl rfl) ?_
      show ((some (vI 0) : Option MV), (skC M 11).2) = _
      exact PR_f (by rw [hp, pBd_f b61])
  have s28 : ∀ M p t, CJ M v ns nm nt na → p = c10tA g v L t M → RUN P_X10_readTest (RT p) X → X 28 [some (vR 10 0), some (vR 9 g), some (vR 6 v), some (vI (nI L)), some (vI (t))] [] (M) := by
    intro M p t hM hp h
    unfold c10tA at hp
    obtain ⟨q, hq⟩ : ∃ q, q = meC M v 0 (M.1 6 v 13).toNatClampNeg := ⟨_, rfl⟩
    have hQ : CJ q.2 v ns nm nt na := by rw [hq]; exact CJ_me hM
    rw [← hq] at hp
    obtain ⟨N, hN⟩ : ∃ N, N = mRow q.2 44 g (upd (q.2.1 44 g) L q.1) := ⟨_, rfl⟩
    have er : N.1 44 g L = q.1 := by rw [hN, mRow_row, upd_eq]
    have s48 : p = c10P 44 g L q → X 48 [some (vR 10 0), some (vR 9 g), some (vR 6 v), some (vI (nI L)), some (vI (t))] [] (N) := by
      intro hq
      show X 48 [some (vR 10 0), some (vR 9 g), some (vR 6 v), some (vI (nI L)), some (vI t)] [] N
      refine h (fun _ => false) 3000 48 _ _ _ ?_
      refine And.intro (show inb (nI L) (alen 44) = true from (inb_o 60 rfl rfl rfl (by omega))) ?_
      refine br_c (fun b52 => ?_) (fun b52 => ?_)
      · -- 52: N.1 44 g ((nI L).toNatClampNeg) < 0 taken
        replace b52 : N.1 44 g ((nI L).toNatClampNeg) < 0 := b52
        (try simp only [eL, er] at b52)
        refine And.intro (Or.inl rfl) ?_
        show ((some (vI 0) : Option MV), N) = _
        (try simp only [eL, er])
        exact PR_f (by rw [hq, c10P_f b52, hN])
      · -- 52: N.1 44 g ((nI L).toNatClampNeg) < 0 on
        replace b52 : ¬ (N.1 44 g ((nI L).toNatClampNeg) < 0) := b52
        (try simp only [eL, er] at b52)
        refine And.intro (Or.inr rfl) ?_
        show ((some (vI 1) : Option MV), N) = _
        (try simp only [eL, er])
        exact PR_t (by rw [hq, c10P_t b52, hN])
    have s40 : X 40 [some (vR 10 0), some (vR 9 g), some (vR 6 v), some (vI (nI L)), some (vI (t))] [] (N) := by
      show X 40 [some (vR 10 0), some (vR 9 g), some (vR 6 v), some (vI (nI L)), some (vI t)] [] N
      refine h (fun i => Nat.beq i 48 || Nat.beq i 57) 3000 40 _ _ _ ?_
      refine And.intro (show inb (nI L) (alen 44) = true from (inb_o 60 rfl rfl rfl (by omega))) ?_
      refine br_c (fun b44 => ?_) (fun b44 => ?_)
      · -- 44: N.1 44 g ((nI L).toNatClampNeg) < 0 taken
        replace b44 : N.1 44 g ((nI L).toNatClampNeg) < 0 := b44
        (try simp only [eL, er] at b44)
        show X 48 [some (vR 10 0), some (vR 9 g), some (vR 6 v), some (vI (nI L)), some (vI t)] [] N
        (try simp only [eL, er])
        refine s48 ?_
        by_cases c : t = 26 
        · rw [hp, if_pos c] 
        · rw [hp, if_neg c, c10P_f b44]; rfl
      · -- 44: N.1 44 g ((nI L).toNatClampNeg) < 0 on
        replace b44 : ¬ (N.1 44 g ((nI L).toNatClampNeg) < 0) := b44
        (try simp only [eL, er] at b44)
        refine brn_c (fun b47 => ?_) (fun b47 => ?_)
        · -- 47: t = 26 taken
          replace b47 : ¬ (t = 26) := b47
          (try simp only [eL, er] at b47)
          show X 57 [some (vR 10 0), some (vR 9 g), some (vR 6 v), some (vI (nI L)), some (vI t)] [] N
          (try simp only [eL, er])
          rw [if_neg b47, c10P_t b44] at hp
          rw [hN] 
          exact s57 _ _ _ (CJ_row (by decide) hQ) hp h
        · -- 47: t = 26 on
          replace b47 : t = 26 := b47
          (try simp only [eL, er] at b47)
          show X 48 [some (vR 10 0), some (vR 9 g), some (vR 6 v), some (vI (nI L)), some (vI t)] [] N
          (try simp only [eL, er])
          refine s48 ?_
          rw [hp, if_pos b47]
    show X 28 [some (vR 10 0), some (vR 9 g), some (vR 6 v), some (vI (nI L)), some (vI t)] [] M
    refine h (fun i => Nat.beq i 40) 3000 28 _ _ _ ?_
    refine And.intro (show Pre_X4_member M [vR 4 0, vR 29 v, vI 0, vI (M.1 6 v 13)] from ⟨hM.1, v, 0, ns, by omega, congrArg (fun z => [vR 4 0, vR 29 v, vI 0, vI z]) hM.2.1.1⟩) ?_
    refine And.intro (show inb (nI L) (alen 44) = true from (inb_o 60 rfl rfl rfl (by omega))) ?_
    show X 40 [some (vR 10 0), some (vR 9 g), some (vR 6 v), some (vI (nI L)), some (vI t)] [] (mRow ((meC M v 0 (M.1 6 v 13).toNatClampNeg).2) 44 g (upd (((meC M v 0 (M.1 6 v 13).toNatClampNeg).2).1 44 g) (nI L).toNatClampNeg ((meC M v 0 (M.1 6 v 13).toNatClampNeg).1)))
    rw [eL, ← hq, ← hN]
    exact s40
  obtain ⟨t, ht⟩ : ∃ t, t = mm.1 4 0 6 := ⟨_, rfl⟩
  rw [← ht] at h
  have s20 : t = 24 ∨ t = 25 ∨ t = 26 → X 20 [some (vR 10 0), some (vR 9 g), some (vR 6 v), some (vI (nI L)), some (vI (t))] [] mm := by
    intro c
    unfold c10t1 at h
    rw [if_pos c] at h
    show X 20 [some (vR 10 0), some (vR 9 g), some (vR 6 v), some (vI (nI L)), some (vI t)] [] mm
    refine h (fun i => Nat.beq i 28) 3000 20 _ _ _ ?_
    refine And.intro (show inb (nI L) (alen 43) = true from (inb_o 60 rfl rfl rfl (by omega))) ?_
    refine And.intro (show Pre_X4_step (mRow mm 43 g (upd (mm.1 43 g) (nI L).toNatClampNeg t)) [vR 4 0] from ⟨(CJ_row (by decide) hJ).1, rfl⟩) ?_
    show X 28 [some (vR 10 0), some (vR 9 g), some (vR 6 v), some (vI (nI L)), some (vI t)] [] (spM (mRow mm 43 g (upd (mm.1 43 g) (nI L).toNatClampNeg t)))
    rw [eL]
    exact s28 _ _ _ (CJ_sp (CJ_row (by decide) hJ)) rfl h
  obtain ⟨p, hp⟩ : ∃ p, p = c10t1 g v L t mm := ⟨_, rfl⟩
  rw [← hp] at h
  unfold c10t1 at hp
  show X 0 [some (vR 10 0), some (vR 9 g), some (vR 6 v), none, none] [] mm
  refine h (fun i => Nat.beq i 20) 3000 0 _ _ _ ?_
  refine br_c (fun b9 => ?_) (fun b9 => ?_)
  · -- 9: mm.1 4 0 6 = 24 taken
    replace b9 : mm.1 4 0 6 = 24 := b9
    (try simp only [e8, ← ht] at b9)
    show X 20 [some (vR 10 0), some (vR 9 g), some (vR 6 v), some (vI (mm.1 9 g 8)), some (vI (mm.1 4 0 6))] [] mm
    (try simp only [e8, ← ht])
    exact s20 (Or.inl b9)
  · -- 9: mm.1 4 0 6 = 24 on
    replace b9 : ¬ (mm.1 4 0 6 = 24) := b9
    (try simp only [e8, ← ht] at b9)
    refine br_c (fun b12 => ?_) (fun b12 => ?_)
    · -- 12: mm.1 4 0 6 = 25 taken
      replace b12 : mm.1 4 0 6 = 25 := b12
      (try simp only [e8, ← ht] at b12)
      show X 20 [some (vR 10 0), some (vR 9 g), some (vR 6 v), some (vI (mm.1 9 g 8)), some (vI (mm.1 4 0 6))] [] mm
      (try simp only [e8, ← ht])
      exact s20 (Or.inr (Or.inl b12))
    · -- 12: mm.1 4 0 6 = 25 on
      replace b12 : ¬ (mm.1 4 0 6 = 25) := b12
      (try simp only [e8, ← ht] at b12)
      refine br_c (fun b15 => ?_) (fun b15 => ?_)
      · -- 15: mm.1 4 0 6 = 26 taken
        replace b15 : mm.1 4 0 6 = 26 := b15
        (try simp only [e8, ← ht] at b15)
        show X 20 [some (vR 10 0), some (vR 9 g), some (vR 6 v), some (vI (mm.1 9 g 8)), some (vI (mm.1 4 0 6))] [] mm
        (try simp only [e8, ← ht])
        exact s20 (Or.inr (Or.inr b15))
      · -- 15: mm.1 4 0 6 = 26 on
        replace b15 : ¬ (mm.1 4 0 6 = 26) := b15
        (try simp only [e8, ← ht] at b15)
        refine And.intro (show Pre_X4_misplaced mm [vR 4 0] from rfl) ?_
        refine And.intro (Or.inl rfl) ?_
        show ((some (vI 0) : Option MV), miC mm) = _
        (try simp only [e8, ← ht])
        exact PR_f (by rw [hp, if_neg (fun z => z.elim b9 (fun z => z.elim b12 b15))])
theorem con_X10_readTest (l : Launch) : CON l y_X10_readTest prog_12_method_7_code 5 (some .boolean) rm_X10_readTest Pre_X10_readTest Fn_X10_readTest := CON_of (by decide) rfl rfl (sa_X10_readTest l) vc_X10_readTest
