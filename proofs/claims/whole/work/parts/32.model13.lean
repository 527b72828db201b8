/-! PART 32: the model: rivals, cheapest, within -/

noncomputable def rvR (m : MM) (i j d : Nat) : Option MV × MM := if snA (m.1 54 0) i d = 1000000 ∧ snA (m.1 54 0) j d = 1000000 then rfM (laM (laM m (nI i)) (nI j)) 6 else gvM (laM (laM m (nI i)) (nI j)) (if snA (m.1 54 0) i d < snA (m.1 54 0) j d ∨ (snA (m.1 54 0) i d = snA (m.1 54 0) j d ∧ (0 < m.1 54 0 (12 + 4 * i) - m.1 54 0 (12 + 4 * j) ∨ (m.1 54 0 (12 + 4 * i) - m.1 54 0 (12 + 4 * j) = 0 ∧ ¬ nI j ≤ nI i))) then nI i else nI j)

def Pre_X12_rivals : PreT := fun m as => VM m ∧ HSo (m.1 54 0) ∧ ∃ x y z : Int32, as = [vR 12 0, vI x, vI y, vI z]
noncomputable def Fn_X12_rivals : FnT := fun m as => match as with
  | [_, Sum.inl x, Sum.inl y, Sum.inl z] => if (suP (m.1 54 0) x ∧ maP (m.1 54 0) z) ∧ suP (m.1 54 0) y ∧ ¬ x = y then (if m.1 54 0 (15 + 4 * x.toNatClampNeg) = -1 ∧ m.1 54 0 (15 + 4 * y.toNatClampNeg) = -1 ∧ m.1 54 0 (31 + 4 * z.toNatClampNeg) = -1 then rvR m x.toNatClampNeg y.toNatClampNeg z.toNatClampNeg else rfM m 7) else rfM m 1
  | _ => (none, m)
abbrev y_X12_rivals : MethodName := ⟨"GivenUpModel", "rivals", "(III)I"⟩
def P_X12_rivals : List StpT := [s_aload 0, s_iload 1, s_iload 3, s_callV 12 2 Pre_X12_areBoth Fn_X12_areBoth, s_ifeq 12, s_aload 0, s_iload 2, s_callV 12 1 Pre_X12_isSuitor Fn_X12_isSuitor, s_ifeq 12, s_iload 1, s_iload 2, s_icne 16, s_aload 0, s_ic (1), s_callV 12 1 Pre_X12_refuse Fn_X12_refuse, s_iret, s_aload 0, s_iload 1, s_callV 12 1 Pre_X12_hasWed Fn_X12_hasWed, s_ifne 28, s_aload 0, s_iload 2, s_callV 12 1 Pre_X12_hasWed Fn_X12_hasWed, s_ifne 28, s_aload 0, s_iload 3, s_callV 12 1 Pre_X12_isWed Fn_X12_isWed, s_ifeq 32, s_aload 0, s_ic (7), s_callV 12 1 Pre_X12_refuse Fn_X12_refuse, s_iret, s_aload 0, s_iload 1, s_iload 3, s_callV 12 2 Pre_X12_soonestOf Fn_X12_soonestOf, s_istore 4, s_aload 0, s_iload 2, s_iload 3, s_callV 12 2 Pre_X12_soonestOf Fn_X12_soonestOf, s_istore 5, s_iload 4, s_ic (1000000), s_icne 52, s_iload 5, s_ic (1000000), s_icne 52, s_aload 0, s_ic (6), s_callV 12 1 Pre_X12_refuse Fn_X12_refuse, s_iret, s_aload 0, s_getR 12 0 54, s_iload 1, s_callS 1 Pre_X12_suitorRow Fn_X12_suitorRow, s_iald, s_aload 0, s_getR 12 0 54, s_iload 2, s_callS 1 Pre_X12_suitorRow Fn_X12_suitorRow, s_iald, s_isub, s_istore 6, s_aload 0, s_iload 4, s_iload 5, s_iclt 78, s_iload 4, s_iload 5, s_icne 80, s_iload 6, s_ifgt 78, s_iload 6, s_ifne 80, s_iload 1, s_iload 2, s_icge 80, s_iload 1, s_goto 81, s_iload 2, s_callV 12 1 Pre_X12_gives Fn_X12_gives, s_iret]
def pc_X12_rivals : Nat → Nat := fun i => [0, 1, 2, 3, 6, 9, 10, 11, 14, 17, 18, 19, 22, 23, 24, 27, 28, 29, 30, 33, 36, 37, 38, 41, 44, 45, 46, 49, 52, 53, 55, 58, 59, 60, 61, 62, 65, 67, 68, 69, 70, 73, 75, 77, 80, 83, 85, 88, 91, 92, 94, 97, 98, 99, 102, 103, 106, 107, 108, 111, 112, 115, 116, 117, 119, 120, 122, 124, 127, 129, 131, 134, 136, 139, 141, 144, 145, 146, 149, 150, 153, 154, 157].getD i 0
def dl_X12_rivals : List (Nat × Instr × Nat) := [(0, .aload_n 0, 1), (1, .iload_n 1, 1), (2, .iload_n 3, 1), (3, .invokevirtual 322, 3), (6, .ifCond .eq 16, 3), (9, .aload_n 0, 1), (10, .iload_n 2, 1), (11, .invokevirtual 265, 3), (14, .ifCond .eq 8, 3), (17, .iload_n 1, 1), (18, .iload_n 2, 1), (19, .if_icmp .ne 9, 3), (22, .aload_n 0, 1), (23, .iconst 1, 1), (24, .invokevirtual 87, 3), (27, .ireturn, 1), (28, .aload_n 0, 1), (29, .iload_n 1, 1), (30, .invokevirtual 292, 3), (33, .ifCond .ne 19, 3), (36, .aload_n 0, 1), (37, .iload_n 2, 1), (38, .invokevirtual 292, 3), (41, .ifCond .ne 11, 3), (44, .aload_n 0, 1), (45, .iload_n 3, 1), (46, .invokevirtual 295, 3), (49, .ifCond .eq 10, 3), (52, .aload_n 0, 1), (53, .bipush 7, 2), (55, .invokevirtual 87, 3), (58, .ireturn, 1), (59, .aload_n 0, 1), (60, .iload_n 1, 1), (61, .iload_n 3, 1), (62, .invokevirtual 401, 3), (65, .istore 4, 2), (67, .aload_n 0, 1), (68, .iload_n 2, 1), (69, .iload_n 3, 1), (70, .invokevirtual 401, 3), (73, .istore 5, 2), (75, .iload 4, 2), (77, .ldc_w 400, 3), (80, .if_icmp .ne 18, 3), (83, .iload 5, 2), (85, .ldc_w 400, 3), (88, .if_icmp .ne 10, 3), (91, .aload_n 0, 1), (92, .bipush 6, 2), (94, .invokevirtual 87, 3), (97, .ireturn, 1), (98, .aload_n 0, 1), (99, .getfield 7, 3), (102, .iload_n 1, 1), (103, .invokestatic 289, 3), (106, .iaload, 1), (107, .aload_n 0, 1), (108, .getfield 7, 3), (111, .iload_n 2, 1), (112, .invokestatic 289, 3), (115, .iaload, 1), (116, .isub, 1), (117, .istore 6, 2), (119, .aload_n 0, 1), (120, .iload 4, 2), (122, .iload 5, 2), (124, .if_icmp .lt 25, 3), (127, .iload 4, 2), (129, .iload 5, 2), (131, .if_icmp .ne 22, 3), (134, .iload 6, 2), (136, .ifCond .gt 13, 3), (139, .iload 6, 2), (141, .ifCond .ne 12, 3), (144, .iload_n 1, 1), (145, .iload_n 2, 1), (146, .if_icmp .ge 7, 3), (149, .iload_n 1, 1), (150, .goto 4, 3), (153, .iload_n 2, 1), (154, .invokevirtual 91, 3), (157, .ireturn, 1)]
theorem dc_X12_rivals : DEC prog_14_method_123_code pc_X12_rivals dl_X12_rivals := DEC_of (by decide +kernel)
abbrev rm_X12_rivals : Room := { frames := 6, cells := 0, slots := 0, locals := 139 }
set_option maxRecDepth 20000 in
theorem sa_X12_rivals (l : Launch) : SNDALL l prog_14_method_123_code "GivenUpModel" 7 (some .int) rm_X12_rivals P_X12_rivals pc_X12_rivals := fun p e s m args below meth c cells slots Q D dA ad A RR hC hR => by
  have hM := RTX_room (R := rm_X12_rivals) hR
  exact ⟨st_aload_n hC (n := 0) (k := 0) (dc_X12_rivals 0 (0, .aload_n 0, 1) rfl rfl) rfl rfl,
    st_iload_n hC (n := 1) (k := 1) (dc_X12_rivals 1 (1, .iload_n 1, 1) rfl rfl) rfl rfl,
    st_iload_n hC (n := 2) (k := 3) (dc_X12_rivals 2 (2, .iload_n 3, 1) rfl rfl) rfl rfl,
    st_callV hC (n := 3) (k := 12) (na := 2) (con_X12_areBoth l) (dc_X12_rivals 3 (3, .invokevirtual 322, 3) rfl rfl) rfl wd_1969 wd_160 (by decide) ⟨rfl, rfl, by decide, by decide⟩ hM wd_1966 wd_1968 wd_99 clf_12,
    st_ifeq hC (n := 4) (dc_X12_rivals 4 (6, .ifCond .eq 16, 3) rfl rfl) rfl (by decide),
    st_aload_n hC (n := 5) (k := 0) (dc_X12_rivals 5 (9, .aload_n 0, 1) rfl rfl) rfl rfl,
    st_iload_n hC (n := 6) (k := 2) (dc_X12_rivals 6 (10, .iload_n 2, 1) rfl rfl) rfl rfl,
    st_callV hC (n := 7) (k := 12) (na := 1) (con_X12_isSuitor l) (dc_X12_rivals 7 (11, .invokevirtual 265, 3) rfl rfl) rfl wd_1885 wd_160 (by decide) ⟨rfl, rfl, by decide, by decide⟩ hM wd_1882 wd_1884 wd_85 clf_12,
    st_ifeq hC (n := 8) (dc_X12_rivals 8 (14, .ifCond .eq 8, 3) rfl rfl) rfl (by decide),
    st_iload_n hC (n := 9) (k := 1) (dc_X12_rivals 9 (17, .iload_n 1, 1) rfl rfl) rfl rfl,
    st_iload_n hC (n := 10) (k := 2) (dc_X12_rivals 10 (18, .iload_n 2, 1) rfl rfl) rfl rfl,
    st_icne hC (n := 11) (dc_X12_rivals 11 (19, .if_icmp .ne 9, 3) rfl rfl) rfl (by decide),
    st_aload_n hC (n := 12) (k := 0) (dc_X12_rivals 12 (22, .aload_n 0, 1) rfl rfl) rfl rfl,
    st_iconst hC (n := 13) (x := 1) (dc_X12_rivals 13 (23, .iconst 1, 1) rfl rfl) rfl (by decide),
    st_callV hC (n := 14) (k := 12) (na := 1) (con_X12_refuse l) (dc_X12_rivals 14 (24, .invokevirtual 87, 3) rfl rfl) rfl wd_1758 wd_160 (by decide) ⟨rfl, rfl, by decide, by decide⟩ hM wd_1755 wd_1757 wd_57 clf_12,
    st_iret hC (n := 15) hR (dc_X12_rivals 15 (27, .ireturn, 1) rfl rfl),
    st_aload_n hC (n := 16) (k := 0) (dc_X12_rivals 16 (28, .aload_n 0, 1) rfl rfl) rfl rfl,
    st_iload_n hC (n := 17) (k := 1) (dc_X12_rivals 17 (29, .iload_n 1, 1) rfl rfl) rfl rfl,
    st_callV hC (n := 18) (k := 12) (na := 1) (con_X12_hasWed l) (dc_X12_rivals 18 (30, .invokevirtual 292, 3) rfl rfl) rfl wd_1985 wd_160 (by decide) ⟨rfl, rfl, by decide, by decide⟩ hM wd_1982 wd_1984 wd_102 clf_12,
    st_ifne hC (n := 19) (dc_X12_rivals 19 (33, .ifCond .ne 19, 3) rfl rfl) rfl (by decide),
    st_aload_n hC (n := 20) (k := 0) (dc_X12_rivals 20 (36, .aload_n 0, 1) rfl rfl) rfl rfl,
    st_iload_n hC (n := 21) (k := 2) (dc_X12_rivals 21 (37, .iload_n 2, 1) rfl rfl) rfl rfl,
    st_callV hC (n := 22) (k := 12) (na := 1) (con_X12_hasWed l) (dc_X12_rivals 22 (38, .invokevirtual 292, 3) rfl rfl) rfl wd_1985 wd_160 (by decide) ⟨rfl, rfl, by decide, by decide⟩ hM wd_1982 wd_1984 wd_102 clf_12,
    st_ifne hC (n := 23) (dc_X12_rivals 23 (41, .ifCond .ne 11, 3) rfl rfl) rfl (by decide),
    st_aload_n hC (n := 24) (k := 0) (dc_X12_rivals 24 (44, .aload_n 0, 1) rfl rfl) rfl rfl,
    st_iload_n hC (n := 25) (k := 3) (dc_X12_rivals 25 (45, .iload_n 3, 1) rfl rfl) rfl rfl,
    st_callV hC (n := 26) (k := 12) (na := 1) (con_X12_isWed l) (dc_X12_rivals 26 (46, .invokevirtual 295, 3) rfl rfl) rfl wd_2037 wd_160 (by decide) ⟨rfl, rfl, by decide, by decide⟩ hM wd_2034 wd_2036 wd_109 clf_12,
    st_ifeq hC (n := 27) (dc_X12_rivals 27 (49, .ifCond .eq 10, 3) rfl rfl) rfl (by decide),
    st_aload_n hC (n := 28) (k := 0) (dc_X12_rivals 28 (52, .aload_n 0, 1) rfl rfl) rfl rfl,
    st_bipush hC (n := 29) (x := 7) (dc_X12_rivals 29 (53, .bipush 7, 2) rfl rfl) rfl (by decide),
    st_callV hC (n := 30) (k := 12) (na := 1) (con_X12_refuse l) (dc_X12_rivals 30 (55, .invokevirtual 87, 3) rfl rfl) rfl wd_1758 wd_160 (by decide) ⟨rfl, rfl, by decide, by decide⟩ hM wd_1755 wd_1757 wd_57 clf_12,
    st_iret hC (n := 31) hR (dc_X12_rivals 31 (58, .ireturn, 1) rfl rfl),
    st_aload_n hC (n := 32) (k := 0) (dc_X12_rivals 32 (59, .aload_n 0, 1) rfl rfl) rfl rfl,
    st_iload_n hC (n := 33) (k := 1) (dc_X12_rivals 33 (60, .iload_n 1, 1) rfl rfl) rfl rfl,
    st_iload_n hC (n := 34) (k := 3) (dc_X12_rivals 34 (61, .iload_n 3, 1) rfl rfl) rfl rfl,
    st_callV hC (n := 35) (k := 12) (na := 2) (con_X12_soonestOf l) (dc_X12_rivals 35 (62, .invokevirtual 401, 3) rfl rfl) rfl wd_2158 wd_160 (by decide) ⟨rfl, rfl, by decide, by decide⟩ hM wd_2155 wd_2157 wd_122 clf_12,
    st_istore hC (n := 36) (dc_X12_rivals 36 (65, .istore 4, 2) rfl rfl) rfl (by decide),
    st_aload_n hC (n := 37) (k := 0) (dc_X12_rivals 37 (67, .aload_n 0, 1) rfl rfl) rfl rfl,
    st_iload_n hC (n := 38) (k := 2) (dc_X12_rivals 38 (68, .iload_n 2, 1) rfl rfl) rfl rfl,
    st_iload_n hC (n := 39) (k := 3) (dc_X12_rivals 39 (69, .iload_n 3, 1) rfl rfl) rfl rfl,
    st_callV hC (n := 40) (k := 12) (na := 2) (con_X12_soonestOf l) (dc_X12_rivals 40 (70, .invokevirtual 401, 3) rfl rfl) rfl wd_2158 wd_160 (by decide) ⟨rfl, rfl, by decide, by decide⟩ hM wd_2155 wd_2157 wd_122 clf_12,
    st_istore hC (n := 41) (dc_X12_rivals 41 (73, .istore 5, 2) rfl rfl) rfl (by decide),
    st_iload hC (n := 42) (dc_X12_rivals 42 (75, .iload 4, 2) rfl rfl) rfl,
    st_ldcw hC (n := 43) (x := 1000000) (dc_X12_rivals 43 (77, .ldc_w 400, 3) rfl rfl) rfl wd_2159,
    st_icne hC (n := 44) (dc_X12_rivals 44 (80, .if_icmp .ne 18, 3) rfl rfl) rfl (by decide),
    st_iload hC (n := 45) (dc_X12_rivals 45 (83, .iload 5, 2) rfl rfl) rfl,
    st_ldcw hC (n := 46) (x := 1000000) (dc_X12_rivals 46 (85, .ldc_w 400, 3) rfl rfl) rfl wd_2159,
    st_icne hC (n := 47) (dc_X12_rivals 47 (88, .if_icmp .ne 10, 3) rfl rfl) rfl (by decide),
    st_aload_n hC (n := 48) (k := 0) (dc_X12_rivals 48 (91, .aload_n 0, 1) rfl rfl) rfl rfl,
    st_bipush hC (n := 49) (x := 6) (dc_X12_rivals 49 (92, .bipush 6, 2) rfl rfl) rfl (by decide),
    st_callV hC (n := 50) (k := 12) (na := 1) (con_X12_refuse l) (dc_X12_rivals 50 (94, .invokevirtual 87, 3) rfl rfl) rfl wd_1758 wd_160 (by decide) ⟨rfl, rfl, by decide, by decide⟩ hM wd_1755 wd_1757 wd_57 clf_12,
    st_iret hC (n := 51) hR (dc_X12_rivals 51 (97, .ireturn, 1) rfl rfl),
    st_aload_n hC (n := 52) (k := 0) (dc_X12_rivals 52 (98, .aload_n 0, 1) rfl rfl) rfl rfl,
    st_getR hC (n := 53) (k := 12) (j := 0) (dc_X12_rivals 53 (99, .getfield 7, 3) rfl rfl) rfl clf_12 (by decide) rfl (by decide) wd_1552,
    st_iload_n hC (n := 54) (k := 1) (dc_X12_rivals 54 (102, .iload_n 1, 1) rfl rfl) rfl rfl,
    st_callS hC (n := 55) (na := 1) (con_X12_suitorRow l) (dc_X12_rivals 55 (103, .invokestatic 289, 3) rfl rfl) rfl wd_1888 wd_160 (by decide) ⟨rfl, rfl, by decide, by decide⟩ hM wd_1886 wd_1887,
    st_iald hC (n := 56) (dc_X12_rivals 56 (106, .iaload, 1) rfl rfl) rfl,
    st_aload_n hC (n := 57) (k := 0) (dc_X12_rivals 57 (107, .aload_n 0, 1) rfl rfl) rfl rfl,
    st_getR hC (n := 58) (k := 12) (j := 0) (dc_X12_rivals 58 (108, .getfield 7, 3) rfl rfl) rfl clf_12 (by decide) rfl (by decide) wd_1552,
    st_iload_n hC (n := 59) (k := 2) (dc_X12_rivals 59 (111, .iload_n 2, 1) rfl rfl) rfl rfl,
    st_callS hC (n := 60) (na := 1) (con_X12_suitorRow l) (dc_X12_rivals 60 (112, .invokestatic 289, 3) rfl rfl) rfl wd_1888 wd_160 (by decide) ⟨rfl, rfl, by decide, by decide⟩ hM wd_1886 wd_1887,
    st_iald hC (n := 61) (dc_X12_rivals 61 (115, .iaload, 1) rfl rfl) rfl,
    st_isub hC (n := 62) (dc_X12_rivals 62 (116, .isub, 1) rfl rfl) rfl,
    st_istore hC (n := 63) (dc_X12_rivals 63 (117, .istore 6, 2) rfl rfl) rfl (by decide),
    st_aload_n hC (n := 64) (k := 0) (dc_X12_rivals 64 (119, .aload_n 0, 1) rfl rfl) rfl rfl,
    st_iload hC (n := 65) (dc_X12_rivals 65 (120, .iload 4, 2) rfl rfl) rfl,
    st_iload hC (n := 66) (dc_X12_rivals 66 (122, .iload 5, 2) rfl rfl) rfl,
    st_iclt hC (n := 67) (dc_X12_rivals 67 (124, .if_icmp .lt 25, 3) rfl rfl) rfl (by decide),
    st_iload hC (n := 68) (dc_X12_rivals 68 (127, .iload 4, 2) rfl rfl) rfl,
    st_iload hC (n := 69) (dc_X12_rivals 69 (129, .iload 5, 2) rfl rfl) rfl,
    st_icne hC (n := 70) (dc_X12_rivals 70 (131, .if_icmp .ne 22, 3) rfl rfl) rfl (by decide),
    st_iload hC (n := 71) (dc_X12_rivals 71 (134, .iload 6, 2) rfl rfl) rfl,
    st_ifgt hC (n := 72) (dc_X12_rivals 72 (136, .ifCond .gt 13, 3) rfl rfl) rfl (by decide),
    st_iload hC (n := 73) (dc_X12_rivals 73 (139, .iload 6, 2) rfl rfl) rfl,
    st_ifne hC (n := 74) (dc_X12_rivals 74 (141, .ifCond .ne 12, 3) rfl rfl) rfl (by decide),
    st_iload_n hC (n := 75) (k := 1) (dc_X12_rivals 75 (144, .iload_n 1, 1) rfl rfl) rfl rfl,
    st_iload_n hC (n := 76) (k := 2) (dc_X12_rivals 76 (145, .iload_n 2, 1) rfl rfl) rfl rfl,
    st_icge hC (n := 77) (dc_X12_rivals 77 (146, .if_icmp .ge 7, 3) rfl rfl) rfl (by decide),
    st_iload_n hC (n := 78) (k := 1) (dc_X12_rivals 78 (149, .iload_n 1, 1) rfl rfl) rfl rfl,
    st_goto hC (n := 79) (dc_X12_rivals 79 (150, .goto 4, 3) rfl rfl) (by decide),
    st_iload_n hC (n := 80) (k := 2) (dc_X12_rivals 80 (153, .iload_n 2, 1) rfl rfl) rfl rfl,
    st_callV hC (n := 81) (k := 12) (na := 1) (con_X12_gives l) (dc_X12_rivals 81 (154, .invokevirtual 91, 3) rfl rfl) rfl wd_1849 wd_160 (by decide) ⟨rfl, rfl, by decide, by decide⟩ hM wd_1846 wd_1848 wd_79 clf_12,
    st_iret hC (n := 82) hR (dc_X12_rivals 82 (157, .ireturn, 1) rfl rfl), trivial⟩
set_option maxRecDepth 8000 in
theorem vc_X12_rivals : VC P_X12_rivals 7 Pre_X12_rivals Fn_X12_rivals := by
  rintro mm as hom hoa ⟨⟨ns, nm, n, hV⟩, hH, x, y, z, rfl⟩
  refine ⟨Nat.le_of_ble_eq_true rfl, fun X h => ?_⟩
  have hM : VM mm := ⟨ns, nm, n, hV⟩
  have hns4 : ns ≤ 4 := hV.1.2
  have hnm4 : nm ≤ 4 := hV.2.1.2
  have body : (suP (mm.1 54 0) x ∧ maP (mm.1 54 0) z) ∧ suP (mm.1 54 0) y ∧ ¬ x = y → X 16 [some (vR 12 0), some (vI (x)), some (vI (y)), some (vI (z)), none, none, none] [] mm := by
    intro hp
    obtain ⟨i, hi, rfl⟩ := su_in hV hp.1.1
    obtain ⟨d, hd, rfl⟩ := ma_in hV hp.1.2
    obtain ⟨j, hj, rfl⟩ := su_in hV hp.2.1
    have ei : (nI i).toNatClampNeg = i := nI_clamp (by omega)
    have ej : (nI j).toNatClampNeg = j := nI_clamp (by omega)
    have ed : (nI d).toNatClampNeg = d := nI_clamp (by omega)
    have eF : Fn_X12_rivals mm [vR 12 0, vI (nI i), vI (nI j), vI (nI d)] = if mm.1 54 0 (15 + 4 * i) = -1 ∧ mm.1 54 0 (15 + 4 * j) = -1 ∧ mm.1 54 0 (31 + 4 * d) = -1 then rvR mm i j d else rfM mm 7 := by
      refine Eq.trans (if_pos hp) ?_
      rw [ei, ed, ej]
    rw [eF] at h
    suffices z : mm.1 54 0 (15 + 4 * i) = -1 ∧ mm.1 54 0 (15 + 4 * j) = -1 ∧ mm.1 54 0 (31 + 4 * d) = -1 → X 32 [some (vR 12 0), some (vI (nI i)), some (vI (nI j)), some (vI (nI d)), none, none, none] [] mm by
      show X 16 [some (vR 12 0), some (vI (nI i)), some (vI (nI j)), some (vI (nI d)), none, none, none] [] mm
      refine h (fun i => Nat.beq i 32) 3000 16 _ _ _ ?_
      refine And.intro ⟨i, by omega, rfl⟩ ?_
      refine brn_c (fun b19 => ?_) (fun b19 => ?_)
      · -- 19: bI (¬ mm.1 54 0 (15 + 4 * (nI i).toNatClampNeg) = -1) = 0 taken
        replace b19 : ¬ mm.1 54 0 (15 + 4 * (nI i).toNatClampNeg) = -1 := bI_n0.mp b19
        rw [ei] at b19
        refine And.intro ⟨_, rfl⟩ ?_
        show ((some (vI (-1)) : Option MV), stM mm 7) = _
        exact (if_neg (fun z => b19 z.1)).symm
      · -- 19: bI (¬ mm.1 54 0 (15 + 4 * (nI i).toNatClampNeg) = -1) = 0 on
        replace b19 : ¬ (¬ mm.1 54 0 (15 + 4 * (nI i).toNatClampNeg) = -1) := bI_0.mp b19
        rw [ei] at b19
        refine And.intro ⟨j, by omega, rfl⟩ ?_
        refine brn_c (fun b23 => ?_) (fun b23 => ?_)
        · -- 23: bI (¬ mm.1 54 0 (15 + 4 * (nI j).toNatClampNeg) = -1) = 0 taken
          replace b23 : ¬ mm.1 54 0 (15 + 4 * (nI j).toNatClampNeg) = -1 := bI_n0.mp b23
          rw [ej] at b23
          refine And.intro ⟨_, rfl⟩ ?_
          show ((some (vI (-1)) : Option MV), stM mm 7) = _
          exact (if_neg (fun z => b23 z.2.1)).symm
        · -- 23: bI (¬ mm.1 54 0 (15 + 4 * (nI j).toNatClampNeg) = -1) = 0 on
          replace b23 : ¬ (¬ mm.1 54 0 (15 + 4 * (nI j).toNatClampNeg) = -1) := bI_0.mp b23
          rw [ej] at b23
          refine And.intro ⟨d, by omega, rfl⟩ ?_
          refine br_c (fun b27 => ?_) (fun b27 => ?_)
          · -- 27: bI (¬ mm.1 54 0 (31 + 4 * (nI d).toNatClampNeg) = -1) = 0 taken
            replace b27 : ¬ (¬ mm.1 54 0 (31 + 4 * (nI d).toNatClampNeg) = -1) := bI_0.mp b27
            rw [ed] at b27
            show X 32 [some (vR 12 0), some (vI (nI i)), some (vI (nI j)), some (vI (nI d)), none, none, none] [] mm
            exact z ⟨Decidable.not_not.mp b19, Decidable.not_not.mp b23, Decidable.not_not.mp b27⟩
          · -- 27: bI (¬ mm.1 54 0 (31 + 4 * (nI d).toNatClampNeg) = -1) = 0 on
            replace b27 : ¬ mm.1 54 0 (31 + 4 * (nI d).toNatClampNeg) = -1 := bI_n0.mp b27
            rw [ed] at b27
            refine And.intro ⟨_, rfl⟩ ?_
            show ((some (vI (-1)) : Option MV), stM mm 7) = _
            exact (if_neg (fun z => b27 z.2.2)).symm
    intro hw
    rw [if_pos hw] at h
    unfold rvR at h
    have a54 : (laM (laM mm (nI i)) (nI j)).1 54 0 = mm.1 54 0 := rfl
    have y1 : (12 + 4 * nI i).toNatClampNeg = 12 + 4 * i := by simp (disch := omega) only [li, pk_mul, nI_add, nI_clamp]
    have y2 : (12 + 4 * nI j).toNatClampNeg = 12 + 4 * j := by simp (disch := omega) only [li, pk_mul, nI_add, nI_clamp]
    have hVM : VM (laM mm (nI i)) := hM
    have hHM : HSo ((laM mm (nI i)).1 54 0) := hH
    suffices z : X 42 [some (vR 12 0), some (vI (nI i)), some (vI (nI j)), some (vI (nI d)), some (vI (snA (mm.1 54 0) i d)), some (vI (snA (mm.1 54 0) j d)), none] [] (laM (laM mm (nI i)) (nI j)) by
      show X 32 [some (vR 12 0), some (vI (nI i)), some (vI (nI j)), some (vI (nI d)), none, none, none] [] mm
      refine h (fun i => Nat.beq i 42) 3000 32 _ _ _ ?_
      refine And.intro ⟨hM, hH, i, d, by omega, by omega, rfl⟩ ?_
      refine And.intro ⟨hVM, hHM, j, d, by omega, by omega, rfl⟩ ?_
      show X 42 [some (vR 12 0), some (vI (nI i)), some (vI (nI j)), some (vI (nI d)), some (vI (snA (mm.1 54 0) (nI i).toNatClampNeg (nI d).toNatClampNeg)), some (vI (snA ((laM mm (nI i)).1 54 0) (nI j).toNatClampNeg (nI d).toNatClampNeg)), none] [] (laM (laM mm (nI i)) (nI j))
      rw [ei]
      rw [ej]
      rw [ed]
      exact z
    rw [← a54] at h ⊢
    clear eF hp hw
    generalize laM (laM mm (nI i)) (nI j) = M at *
    have next : ¬ (snA (M.1 54 0) i d = 1000000 ∧ snA (M.1 54 0) j d = 1000000) → X 52 [some (vR 12 0), some (vI (nI i)), some (vI (nI j)), some (vI (nI d)), some (vI (snA (M.1 54 0) i d)), some (vI (snA (M.1 54 0) j d)), none] [] (M) := by
      intro hc
      rw [if_neg hc] at h
      have yes : ∀ L6, (snA (M.1 54 0) i d < snA (M.1 54 0) j d ∨ (snA (M.1 54 0) i d = snA (M.1 54 0) j d ∧ (0 < M.1 54 0 (12 + 4 * i) - M.1 54 0 (12 + 4 * j) ∨ (M.1 54 0 (12 + 4 * i) - M.1 54 0 (12 + 4 * j) = 0 ∧ ¬ nI j ≤ nI i)))) → X 78 [some (vR 12 0), some (vI (nI i)), some (vI (nI j)), some (vI (nI d)), some (vI (snA (M.1 54 0) i d)), some (vI (snA (M.1 54 0) j d)), L6] [vR 12 0] (M) := by
        intro L6 hc
        rw [if_pos hc] at h
        show X 78 [some (vR 12 0), some (vI (nI i)), some (vI (nI j)), some (vI (nI d)), some (vI (snA (M.1 54 0) i d)), some (vI (snA (M.1 54 0) j d)), L6] [vR 12 0] M
        refine h (fun _ => false) 3000 78 _ _ _ ?_
        refine And.intro ⟨_, rfl⟩ ?_
        show ((some (vI (nI i)) : Option MV), stM M 0) = _
        exact rfl
      have noo : ∀ L6, ¬ (snA (M.1 54 0) i d < snA (M.1 54 0) j d ∨ (snA (M.1 54 0) i d = snA (M.1 54 0) j d ∧ (0 < M.1 54 0 (12 + 4 * i) - M.1 54 0 (12 + 4 * j) ∨ (M.1 54 0 (12 + 4 * i) - M.1 54 0 (12 + 4 * j) = 0 ∧ ¬ nI j ≤ nI i)))) → X 80 [some (vR 12 0), some (vI (nI i)), some (vI (nI j)), some (vI (nI d)), some (vI (snA (M.1 54 0) i d)), some (vI (snA (M.1 54 0) j d)), L6] [vR 12 0] (M) := by
        intro L6 hc
        rw [if_neg hc] at h
        show X 80 [some (vR 12 0), some (vI (nI i)), some (vI (nI j)), some (vI (nI d)), some (vI (snA (M.1 54 0) i d)), some (vI (snA (M.1 54 0) j d)), L6] [vR 12 0] M
        refine h (fun _ => false) 3000 80 _ _ _ ?_
        refine And.intro ⟨_, rfl⟩ ?_
        show ((some (vI (nI j)) : Option MV), stM M 0) = _
        exact rfl
      show X 52 [some (vR 12 0), some (vI (nI i)), some (vI (nI j)), some (vI (nI d)), some (vI (snA (M.1 54 0) i d)), some (vI (snA (M.1 54 0) j d)), none] [] M
      refine h (fun i => Nat.beq i 78 || Nat.beq i 80) 3000 52 _ _ _ ?_
      refine And.intro ⟨_, rfl⟩ ?_
      refine And.intro (inb_o 3060 rfl rfl (show 12 + 4 * (nI i) = nI (12 + 4 * ( i)) by simp (disch := omega) only [li, pk_mul, nI_add, nI_clamp]) (by omega)) ?_
      refine And.intro ⟨_, rfl⟩ ?_
      refine And.intro (inb_o 3060 rfl rfl (show 12 + 4 * (nI j) = nI (12 + 4 * ( j)) by simp (disch := omega) only [li, pk_mul, nI_add, nI_clamp]) (by omega)) ?_
      refine br_c (fun b67 => ?_) (fun b67 => ?_)
      · -- 67: snA (M.1 54 0) i d < snA (M.1 54 0) j d taken
        replace b67 : snA (M.1 54 0) i d < snA (M.1 54 0) j d := b67
        show X 78 [some (vR 12 0), some (vI (nI i)), some (vI (nI j)), some (vI (nI d)), some (vI (snA (M.1 54 0) i d)), some (vI (snA (M.1 54 0) j d)), some (vI ((M.1 54 0 (12 + 4 * (nI i)).toNatClampNeg) - (M.1 54 0 (12 + 4 * (nI j)).toNatClampNeg)))] [vR 12 0] M
        exact yes _ (Or.inl b67)
      · -- 67: snA (M.1 54 0) i d < snA (M.1 54 0) j d on
        replace b67 : ¬ (snA (M.1 54 0) i d < snA (M.1 54 0) j d) := b67
        refine brn_c (fun b70 => ?_) (fun b70 => ?_)
        · -- 70: snA (M.1 54 0) i d = snA (M.1 54 0) j d taken
          replace b70 : ¬ (snA (M.1 54 0) i d = snA (M.1 54 0) j d) := b70
          show X 80 [some (vR 12 0), some (vI (nI i)), some (vI (nI j)), some (vI (nI d)), some (vI (snA (M.1 54 0) i d)), some (vI (snA (M.1 54 0) j d)), some (vI ((M.1 54 0 (12 + 4 * (nI i)).toNatClampNeg) - (M.1 54 0 (12 + 4 * (nI j)).toNatClampNeg)))] [vR 12 0] M
          exact noo _ (fun z => z.elim b67 (fun z => b70 z.1))
        · -- 70: snA (M.1 54 0) i d = snA (M.1 54 0) j d on
          replace b70 : snA (M.1 54 0) i d = snA (M.1 54 0) j d := b70
          refine br_c (fun b72 => ?_) (fun b72 => ?_)
          · -- 72: 0 < (M.1 54 0 (12 + 4 * (nI i)).toNatClampNeg) - (M.1 54 0 (12 + 4 * (nI j)).toNatClampNeg) taken
            replace b72 : 0 < (M.1 54 0 (12 + 4 * (nI i)).toNatClampNeg) - (M.1 54 0 (12 + 4 * (nI j)).toNatClampNeg) := b72
            rw [y1, y2] at b72
            show X 78 [some (vR 12 0), some (vI (nI i)), some (vI (nI j)), some (vI (nI d)), some (vI (snA (M.1 54 0) i d)), some (vI (snA (M.1 54 0) j d)), some (vI ((M.1 54 0 (12 + 4 * (nI i)).toNatClampNeg) - (M.1 54 0 (12 + 4 * (nI j)).toNatClampNeg)))] [vR 12 0] M
            exact yes _ (Or.inr ⟨b70, Or.inl b72⟩)
          · -- 72: 0 < (M.1 54 0 (12 + 4 * (nI i)).toNatClampNeg) - (M.1 54 0 (12 + 4 * (nI j)).toNatClampNeg) on
            replace b72 : ¬ (0 < (M.1 54 0 (12 + 4 * (nI i)).toNatClampNeg) - (M.1 54 0 (12 + 4 * (nI j)).toNatClampNeg)) := b72
            rw [y1, y2] at b72
            refine brn_c (fun b74 => ?_) (fun b74 => ?_)
            · -- 74: (M.1 54 0 (12 + 4 * (nI i)).toNatClampNeg) - (M.1 54 0 (12 + 4 * (nI j)).toNatClampNeg) = 0 taken
              replace b74 : ¬ ((M.1 54 0 (12 + 4 * (nI i)).toNatClampNeg) - (M.1 54 0 (12 + 4 * (nI j)).toNatClampNeg) = 0) := b74
              rw [y1, y2] at b74
              show X 80 [some (vR 12 0), some (vI (nI i)), some (vI (nI j)), some (vI (nI d)), some (vI (snA (M.1 54 0) i d)), some (vI (snA (M.1 54 0) j d)), some (vI ((M.1 54 0 (12 + 4 * (nI i)).toNatClampNeg) - (M.1 54 0 (12 + 4 * (nI j)).toNatClampNeg)))] [vR 12 0] M
              exact noo _ (fun z => z.elim b67 (fun z => z.2.elim b72 (fun z => b74 z.1)))
            · -- 74: (M.1 54 0 (12 + 4 * (nI i)).toNatClampNeg) - (M.1 54 0 (12 + 4 * (nI j)).toNatClampNeg) = 0 on
              replace b74 : (M.1 54 0 (12 + 4 * (nI i)).toNatClampNeg) - (M.1 54 0 (12 + 4 * (nI j)).toNatClampNeg) = 0 := b74
              rw [y1, y2] at b74
              refine br_c (fun b77 => ?_) (fun b77 => ?_)
              · -- 77: nI j ≤ nI i taken
                replace b77 : nI j ≤ nI i := b77
                show X 80 [some (vR 12 0), some (vI (nI i)), some (vI (nI j)), some (vI (nI d)), some (vI (snA (M.1 54 0) i d)), some (vI (snA (M.1 54 0) j d)), some (vI ((M.1 54 0 (12 + 4 * (nI i)).toNatClampNeg) - (M.1 54 0 (12 + 4 * (nI j)).toNatClampNeg)))] [vR 12 0] M
                exact noo _ (fun z => z.elim b67 (fun z => z.2.elim b72 (fun z => z.2 b77)))
              · -- 77: nI j ≤ nI i on
                replace b77 : ¬ (nI j ≤ nI i) := b77
                show X 78 [some (vR 12 0), some (vI (nI i)), some (vI (nI j)), some (vI (nI d)), some (vI (snA (M.1 54 0) i d)), some (vI (snA (M.1 54 0) j d)), some (vI ((M.1 54 0 (12 + 4 * (nI i)).toNatClampNeg) - (M.1 54 0 (12 + 4 * (nI j)).toNatClampNeg)))] [vR 12 0] M
                exact yes _ (Or.inr ⟨b70, Or.inr ⟨b74, b77⟩⟩)
    show X 42 [some (vR 12 0), some (vI (nI i)), some (vI (nI j)), some (vI (nI d)), some (vI (snA (M.1 54 0) i d)), some (vI (snA (M.1 54 0) j d)), none] [] M
    refine h (fun i => Nat.beq i 52) 3000 42 _ _ _ ?_
    refine brn_c (fun b44 => ?_) (fun b44 => ?_)
    · -- 44: snA (M.1 54 0) i d = 1000000 taken
      replace b44 : ¬ (snA (M.1 54 0) i d = 1000000) := b44
      show X 52 [some (vR 12 0), some (vI (nI i)), some (vI (nI j)), some (vI (nI d)), some (vI (snA (M.1 54 0) i d)), some (vI (snA (M.1 54 0) j d)), none] [] M
      exact next (fun z => b44 z.1)
    · -- 44: snA (M.1 54 0) i d = 1000000 on
      replace b44 : snA (M.1 54 0) i d = 1000000 := b44
      refine brn_c (fun b47 => ?_) (fun b47 => ?_)
      · -- 47: snA (M.1 54 0) j d = 1000000 taken
        replace b47 : ¬ (snA (M.1 54 0) j d = 1000000) := b47
        show X 52 [some (vR 12 0), some (vI (nI i)), some (vI (nI j)), some (vI (nI d)), some (vI (snA (M.1 54 0) i d)), some (vI (snA (M.1 54 0) j d)), none] [] M
        exact next (fun z => b47 z.2)
      · -- 47: snA (M.1 54 0) j d = 1000000 on
        replace b47 : snA (M.1 54 0) j d = 1000000 := b47
        refine And.intro ⟨_, rfl⟩ ?_
        show ((some (vI (-1)) : Option MV), stM M 6) = _
        exact (if_pos ⟨b44, b47⟩).symm
  show X 0 [some (vR 12 0), some (vI x), some (vI y), some (vI z), none, none, none] [] mm
  refine h (fun i => Nat.beq i 16) 3000 0 _ _ _ ?_
  refine And.intro ⟨_, _, rfl⟩ ?_
  refine br_c (fun b4 => ?_) (fun b4 => ?_)
  · -- 4: bI (suP (mm.1 54 0) x ∧ maP (mm.1 54 0) z) = 0 taken
    replace b4 : ¬ (suP (mm.1 54 0) x ∧ maP (mm.1 54 0) z) := bI_0.mp b4
    refine And.intro ⟨_, rfl⟩ ?_
    show ((some (vI (-1)) : Option MV), stM mm 1) = _
    exact (if_neg (fun z => b4 z.1)).symm
  · -- 4: bI (suP (mm.1 54 0) x ∧ maP (mm.1 54 0) z) = 0 on
    replace b4 : suP (mm.1 54 0) x ∧ maP (mm.1 54 0) z := bI_n0.mp b4
    refine And.intro ⟨_, rfl⟩ ?_
    refine br_c (fun b8 => ?_) (fun b8 => ?_)
    · -- 8: bI (suP (mm.1 54 0) y) = 0 taken
      replace b8 : ¬ (suP (mm.1 54 0) y) := bI_0.mp b8
      refine And.intro ⟨_, rfl⟩ ?_
      show ((some (vI (-1)) : Option MV), stM mm 1) = _
      exact (if_neg (fun z => b8 z.2.1)).symm
    · -- 8: bI (suP (mm.1 54 0) y) = 0 on
      replace b8 : suP (mm.1 54 0) y := bI_n0.mp b8
      refine brn_c (fun b11 => ?_) (fun b11 => ?_)
      · -- 11: x = y taken
        replace b11 : ¬ (x = y) := b11
        show X 16 [some (vR 12 0), some (vI x), some (vI y), some (vI z), none, none, none] [] mm
        exact body ⟨b4, b8, b11⟩
      · -- 11: x = y on
        replace b11 : x = y := b11
        refine And.intro ⟨_, rfl⟩ ?_
        show ((some (vI (-1)) : Option MV), stM mm 1) = _
        exact (if_neg (fun z => z.2.2 b11)).symm
theorem con_X12_rivals (l : Launch) : CON l y_X12_rivals prog_14_method_123_code 7 (some .int) rm_X12_rivals Pre_X12_rivals Fn_X12_rivals := CON_of (by decide) rfl rfl (sa_X12_rivals l) vc_X12_rivals
noncomputable def lyA (a : Nat → Int32) (i d : Nat) (w : Int32) : Int32 := if a (31 + 4 * d) = -1 then (if plA a i d w 0 = -1 then 1000000 else wtA a (plA a i d w 0)) else 1000000
noncomputable def lyM (m : MM) (i d : Nat) : MM := mite (m.1 54 0 (31 + 4 * d) = -1) (laM m (nI i)) m
theorem lyM54 (m : MM) (i d : Nat) : (lyM m i d).1 54 0 = m.1 54 0 := by
  unfold lyM mite
  split
  · rfl
  · rfl

--tpl ⟨hM, hH, {1N}, {2N}, _, by omega, by omega, rfl⟩ || lyA {A} {1n} {2n} {3} || lyM {m} {1n} {2n}
def Pre_X12_lossBy : PreT := fun m as => VM m ∧ HSo (m.1 54 0) ∧ ∃ (i d : Nat) (w : Int32), i < 4 ∧ d < 4 ∧ as = [vR 12 0, vI (nI i), vI (nI d), vI w]
noncomputable def Fn_X12_lossBy : FnT := fun m as => match as with
  | [_, Sum.inl x, Sum.inl y, Sum.inl w] => (some (vI (lyA (m.1 54 0) x.toNatClampNeg y.toNatClampNeg w)), lyM m x.toNatClampNeg y.toNatClampNeg)
  | _ => (none, m)
abbrev y_X12_lossBy : MethodName := ⟨"GivenUpModel", "lossBy", "(III)I"⟩
def P_X12_lossBy : List StpT := [s_aload 0, s_iload 2, s_callV 12 1 Pre_X12_isWed Fn_X12_isWed, s_ifeq 6, s_ic (-1), s_goto 12, s_aload 0, s_iload 1, s_iload 2, s_iload 3, s_ic (0), s_callV 12 4 Pre_X12_planOf Fn_X12_planOf, s_istore 4, s_iload 4, s_ic (-1), s_icne 18, s_ic (1000000), s_goto 21, s_aload 0, s_iload 4, s_callV 12 1 Pre_X12_worthOf Fn_X12_worthOf, s_iret]
def pc_X12_lossBy : Nat → Nat := fun i => [0, 1, 2, 5, 8, 9, 12, 13, 14, 15, 16, 17, 20, 22, 24, 25, 28, 31, 34, 35, 37, 40].getD i 0
def dl_X12_lossBy : List (Nat × Instr × Nat) := [(0, .aload_n 0, 1), (1, .iload_n 2, 1), (2, .invokevirtual 295, 3), (5, .ifCond .eq 7, 3), (8, .iconst (-1), 1), (9, .goto 11, 3), (12, .aload_n 0, 1), (13, .iload_n 1, 1), (14, .iload_n 2, 1), (15, .iload_n 3, 1), (16, .iconst 0, 1), (17, .invokevirtual 396, 3), (20, .istore 4, 2), (22, .iload 4, 2), (24, .iconst (-1), 1), (25, .if_icmp .ne 9, 3), (28, .ldc_w 400, 3), (31, .goto 9, 3), (34, .aload_n 0, 1), (35, .iload 4, 2), (37, .invokevirtual 304, 3), (40, .ireturn, 1)]
theorem dc_X12_lossBy : DEC prog_14_method_124_code pc_X12_lossBy dl_X12_lossBy := DEC_of (by decide +kernel)
abbrev rm_X12_lossBy : Room := { frames := 5, cells := 0, slots := 0, locals := 116 }
set_option maxRecDepth 20000 in
theorem sa_X12_lossBy (l : Launch) : SNDALL l prog_14_method_124_code "GivenUpModel" 5 (some .int) rm_X12_lossBy P_X12_lossBy pc_X12_lossBy := fun p e s m args below meth c cells slots Q D dA ad A RR hC hR => by
  have hM := RTX_room (R := rm_X12_lossBy) hR
  exact ⟨st_aload_n hC (n := 0) (k := 0) (dc_X12_lossBy 0 (0, .aload_n 0, 1) rfl rfl) rfl rfl,
    st_iload_n hC (n := 1) (k := 2) (dc_X12_lossBy 1 (1, .iload_n 2, 1) rfl rfl) rfl rfl,
    st_callV hC (n := 2) (k := 12) (na := 1) (con_X12_isWed l) (dc_X12_lossBy 2 (2, .invokevirtual 295, 3) rfl rfl) rfl wd_2037 wd_160 (by decide) ⟨rfl, rfl, by decide, by decide⟩ hM wd_2034 wd_2036 wd_109 clf_12,
    st_ifeq hC (n := 3) (dc_X12_lossBy 3 (5, .ifCond .eq 7, 3) rfl rfl) rfl (by decide),
    st_iconst hC (n := 4) (x := (-1)) (dc_X12_lossBy 4 (8, .iconst (-1), 1) rfl rfl) rfl (by decide),
    st_goto hC (n := 5) (dc_X12_lossBy 5 (9, .goto 11, 3) rfl rfl) (by decide),
    st_aload_n hC (n := 6) (k := 0) (dc_X12_lossBy 6 (12, .aload_n 0, 1) rfl rfl) rfl rfl,
    st_iload_n hC (n := 7) (k := 1) (dc_X12_lossBy 7 (13, .iload_n 1, 1) rfl rfl) rfl rfl,
    st_iload_n hC (n := 8) (k := 2) (dc_X12_lossBy 8 (14, .iload_n 2, 1) rfl rfl) rfl rfl,
    st_iload_n hC (n := 9) (k := 3) (dc_X12_lossBy 9 (15, .iload_n 3, 1) rfl rfl) rfl rfl,
    st_iconst hC (n := 10) (x := 0) (dc_X12_lossBy 10 (16, .iconst 0, 1) rfl rfl) rfl (by decide),
    st_callV hC (n := 11) (k := 12) (na := 4) (con_X12_planOf l) (dc_X12_lossBy 11 (17, .invokevirtual 396, 3) rfl rfl) rfl wd_2130 wd_160 (by decide) ⟨rfl, rfl, by decide, by decide⟩ hM wd_2127 wd_2129 wd_118 clf_12,
    st_istore hC (n := 12) (dc_X12_lossBy 12 (20, .istore 4, 2) rfl rfl) rfl (by decide),
    st_iload hC (n := 13) (dc_X12_lossBy 13 (22, .iload 4, 2) rfl rfl) rfl,
    st_iconst hC (n := 14) (x := (-1)) (dc_X12_lossBy 14 (24, .iconst (-1), 1) rfl rfl) rfl (by decide),
    st_icne hC (n := 15) (dc_X12_lossBy 15 (25, .if_icmp .ne 9, 3) rfl rfl) rfl (by decide),
    st_ldcw hC (n := 16) (x := 1000000) (dc_X12_lossBy 16 (28, .ldc_w 400, 3) rfl rfl) rfl wd_2159,
    st_goto hC (n := 17) (dc_X12_lossBy 17 (31, .goto 9, 3) rfl rfl) (by decide),
    st_aload_n hC (n := 18) (k := 0) (dc_X12_lossBy 18 (34, .aload_n 0, 1) rfl rfl) rfl rfl,
    st_iload hC (n := 19) (dc_X12_lossBy 19 (35, .iload 4, 2) rfl rfl) rfl,
    st_callV hC (n := 20) (k := 12) (na := 1) (con_X12_worthOf l) (dc_X12_lossBy 20 (37, .invokevirtual 304, 3) rfl rfl) rfl wd_1903 wd_160 (by decide) ⟨rfl, rfl, by decide, by decide⟩ hM wd_1900 wd_1902 wd_88 clf_12,
    st_iret hC (n := 21) hR (dc_X12_lossBy 21 (40, .ireturn, 1) rfl rfl), trivial⟩
set_option maxRecDepth 8000 in
theorem vc_X12_lossBy : VC P_X12_lossBy 5 Pre_X12_lossBy Fn_X12_lossBy := by
  rintro mm as hom hoa ⟨⟨ns, nm, nt, hV⟩, hH, i, d, w, hi, hd, rfl⟩
  refine ⟨Nat.le_of_ble_eq_true rfl, fun X h => ?_⟩
  have hM : VM mm := ⟨ns, nm, nt, hV⟩
  have ei : (nI i).toNatClampNeg = i := nI_clamp (by omega)
  have ed : (nI d).toNatClampNeg = d := nI_clamp (by omega)
  have eF : Fn_X12_lossBy mm [vR 12 0, vI (nI i), vI (nI d), vI w] = (some (vI (lyA (mm.1 54 0) i d w)), lyM mm i d) := by
    show (some (vI (lyA (mm.1 54 0) (nI i).toNatClampNeg (nI d).toNatClampNeg w)), lyM mm (nI i).toNatClampNeg (nI d).toNatClampNeg) = _
    rw [ei, ed]
  rw [eF] at h
  by_cases hw : mm.1 54 0 (31 + 4 * d) = -1
  · have e : (some (vI (lyA (mm.1 54 0) i d w)), lyM mm i d) = ((some (vI (if plA (mm.1 54 0) i d w 0 = -1 then 1000000 else wtA (mm.1 54 0) (plA (mm.1 54 0) i d w 0))) : Option MV), laM mm (nI i)) := by
      unfold lyA lyM
      rw [if_pos hw, mite_t hw]
    rw [e] at h
    suffices z : X 12 [some (vR 12 0), some (vI (nI i)), some (vI (nI d)), some (vI (w)), none] [vI (plA (mm.1 54 0) i d w 0)] (laM mm (nI i)) by
      show X 0 [some (vR 12 0), some (vI (nI i)), some (vI (nI d)), some (vI w), none] [] mm
      refine h (fun i => Nat.beq i 12) 3000 0 _ _ _ ?_
      refine And.intro ⟨d, by omega, rfl⟩ ?_
      refine br_t (bI_0.mpr (by rw [ed]; exact fun z => z hw)) ?_
      refine And.intro ⟨hM, hH, i, d, _, _, by omega, by omega, rfl⟩ ?_
      show X 12 [some (vR 12 0), some (vI (nI i)), some (vI (nI d)), some (vI w), none] [vI (plA (mm.1 54 0) (nI i).toNatClampNeg (nI d).toNatClampNeg w 0)] (laM mm (nI i))
      rw [ei]
      rw [ed]
      exact z
    show X 12 [some (vR 12 0), some (vI (nI i)), some (vI (nI d)), some (vI w), none] [vI (plA (mm.1 54 0) i d w 0)] (laM mm (nI i))
    refine h (fun _ => false) 3000 12 _ _ _ ?_
    refine brn_c (fun b15 => ?_) (fun b15 => ?_)
    · -- 15: plA (mm.1 54 0) i d w 0 = (-1) taken
      replace b15 : ¬ (plA (mm.1 54 0) i d w 0 = (-1)) := b15
      refine And.intro ⟨hM, _, rfl⟩ ?_
      show ((some (vI (wtA ((laM mm (nI i)).1 54 0) (plA (mm.1 54 0) i d w 0))) : Option MV), laM mm (nI i)) = _
      first | exact congrArg (fun z => ((some (vI z) : Option MV), laM mm (nI i))) (if_pos b15).symm | exact congrArg (fun z => ((some (vI z) : Option MV), laM mm (nI i))) (if_neg b15).symm
    · -- 15: plA (mm.1 54 0) i d w 0 = (-1) on
      replace b15 : plA (mm.1 54 0) i d w 0 = (-1) := b15
      show ((some (vI 1000000) : Option MV), laM mm (nI i)) = _
      first | exact congrArg (fun z => ((some (vI z) : Option MV), laM mm (nI i))) (if_pos b15).symm | exact congrArg (fun z => ((some (vI z) : Option MV), laM mm (nI i))) (if_neg b15).symm
  · have e : (some (vI (lyA (mm.1 54 0) i d w)), lyM mm i d) = ((some (vI 1000000) : Option MV), mm) := by
      unfold lyA lyM
      rw [if_neg hw, mite_f hw]
    rw [e] at h
    refine h (fun _ => false) 3000 0 _ _ _ ?_
    refine And.intro ⟨d, hd, rfl⟩ ?_
    refine br_f (fun z => bI_0.mp z (by rw [ed]; exact hw)) ?_
    refine brn_f rfl ?_
    exact rfl
theorem con_X12_lossBy (l : Launch) : CON l y_X12_lossBy prog_14_method_124_code 5 (some .int) rm_X12_lossBy Pre_X12_lossBy Fn_X12_lossBy := CON_of (by decide) rfl rfl (sa_X12_lossBy l) vc_X12_lossBy
noncomputable def lkM (m : MM) (i : Nat) : Nat → MM
  | 0 => m
  | k + 1 => lyM (lkM m i k) i k
theorem lkM54 (m : MM) (i : Nat) : ∀ k, (lkM m i k).1 54 0 = m.1 54 0
  | 0 => rfl
  | k + 1 => by rw [lkM, lyM54, lkM54 m i k]
noncomputable def ckB (a : Nat → Int32) (i : Nat) (w : Int32) : Nat → Int32 × Int32
  | 0 => (-1, 1000000)
  | k + 1 => if lyA a i k w < (ckB a i w k).2 then (nI k, lyA a i k w) else ckB a i w k
noncomputable def wnS (a : Nat → Int32) (i : Nat) (w : Int32) : Nat → Int32
  | 0 => 0
  | k + 1 => wnS a i w k ||| (if 1000000 ≤ lyA a i k w then (0 : Int32) else 1 <<< (nI k &&& 31))

def Pre_X12_cheapest : PreT := fun m as => VM m ∧ HSo (m.1 54 0) ∧ ∃ x w : Int32, as = [vR 12 0, vI x, vI w]
noncomputable def Fn_X12_cheapest : FnT := fun m as => match as with
  | [_, Sum.inl x, Sum.inl w] => if suP (m.1 54 0) x ∧ (¬ w < 0 ∧ ¬ 99 < w) then (if m.1 54 0 (15 + 4 * x.toNatClampNeg) = -1 then onM (lkM m x.toNatClampNeg (m.1 54 0 1).toNatClampNeg) (ckB (m.1 54 0) x.toNatClampNeg w (m.1 54 0 1).toNatClampNeg).1 else rfM m 7) else rfM m 1
  | _ => (none, m)
abbrev y_X12_cheapest : MethodName := ⟨"GivenUpModel", "cheapest", "(II)I"⟩
def P_X12_cheapest : List StpT := [s_aload 0, s_iload 1, s_callV 12 1 Pre_X12_isSuitor Fn_X12_isSuitor, s_ifeq 7, s_iload 2, s_callS 1 Pre_X12_isAhead Fn_X12_isAhead, s_ifne 11, s_aload 0, s_ic (1), s_callV 12 1 Pre_X12_refuse Fn_X12_refuse, s_iret, s_aload 0, s_iload 1, s_callV 12 1 Pre_X12_hasWed Fn_X12_hasWed, s_ifeq 19, s_aload 0, s_ic (7), s_callV 12 1 Pre_X12_refuse Fn_X12_refuse, s_iret, s_ic (-1), s_istore 3, s_ic (1000000), s_istore 4, s_ic (0), s_istore 5, s_iload 5, s_aload 0, s_getR 12 0 54, s_ic (1), s_iald, s_icge 47, s_aload 0, s_iload 1, s_iload 5, s_iload 2, s_callV 12 3 Pre_X12_lossBy Fn_X12_lossBy, s_istore 6, s_iload 6, s_iload 4, s_iclt 41, s_goto 45, s_iload 6, s_istore 4, s_iload 5, s_istore 3, s_iinc 5 (1), s_goto 25, s_aload 0, s_iload 3, s_callV 12 1 Pre_X12_orNone Fn_X12_orNone, s_iret]
def pc_X12_cheapest : Nat → Nat := fun i => [0, 1, 2, 5, 8, 9, 12, 15, 16, 17, 20, 21, 22, 23, 26, 29, 30, 32, 35, 36, 37, 38, 41, 43, 44, 46, 48, 49, 52, 53, 54, 57, 58, 59, 61, 62, 65, 67, 69, 71, 74, 77, 79, 81, 83, 84, 87, 90, 91, 92, 95].getD i 0
def dl_X12_cheapest : List (Nat × Instr × Nat) := [(0, .aload_n 0, 1), (1, .iload_n 1, 1), (2, .invokevirtual 265, 3), (5, .ifCond .eq 10, 3), (8, .iload_n 2, 1), (9, .invokestatic 389, 3), (12, .ifCond .ne 9, 3), (15, .aload_n 0, 1), (16, .iconst 1, 1), (17, .invokevirtual 87, 3), (20, .ireturn, 1), (21, .aload_n 0, 1), (22, .iload_n 1, 1), (23, .invokevirtual 292, 3), (26, .ifCond .eq 10, 3), (29, .aload_n 0, 1), (30, .bipush 7, 2), (32, .invokevirtual 87, 3), (35, .ireturn, 1), (36, .iconst (-1), 1), (37, .istore_n 3, 1), (38, .ldc_w 400, 3), (41, .istore 4, 2), (43, .iconst 0, 1), (44, .istore 5, 2), (46, .iload 5, 2), (48, .aload_n 0, 1), (49, .getfield 7, 3), (52, .iconst 1, 1), (53, .iaload, 1), (54, .if_icmp .ge 36, 3), (57, .aload_n 0, 1), (58, .iload_n 1, 1), (59, .iload 5, 2), (61, .iload_n 2, 1), (62, .invokevirtual 404, 3), (65, .istore 6, 2), (67, .iload 6, 2), (69, .iload 4, 2), (71, .if_icmp .lt 6, 3), (74, .goto 10, 3), (77, .iload 6, 2), (79, .istore 4, 2), (81, .iload 5, 2), (83, .istore_n 3, 1), (84, .iinc 5 1, 3), (87, .goto (-41), 3), (90, .aload_n 0, 1), (91, .iload_n 3, 1), (92, .invokevirtual 310, 3), (95, .ireturn, 1)]
theorem dc_X12_cheapest : DEC prog_14_method_125_code pc_X12_cheapest dl_X12_cheapest := DEC_of (by decide +kernel)
abbrev rm_X12_cheapest : Room := { frames := 6, cells := 0, slots := 0, locals := 140 }
set_option maxRecDepth 20000 in
theorem sa_X12_cheapest (l : Launch) : SNDALL l prog_14_method_125_code "GivenUpModel" 7 (some .int) rm_X12_cheapest P_X12_cheapest pc_X12_cheapest := fun p e s m args below meth c cells slots Q D dA ad A RR hC hR => by
  have hM := RTX_room (R := rm_X12_cheapest) hR
  exact ⟨st_aload_n hC (n := 0) (k := 0) (dc_X12_cheapest 0 (0, .aload_n 0, 1) rfl rfl) rfl rfl,
    st_iload_n hC (n := 1) (k := 1) (dc_X12_cheapest 1 (1, .iload_n 1, 1) rfl rfl) rfl rfl,
    st_callV hC (n := 2) (k := 12) (na := 1) (con_X12_isSuitor l) (dc_X12_cheapest 2 (2, .invokevirtual 265, 3) rfl rfl) rfl wd_1885 wd_160 (by decide) ⟨rfl, rfl, by decide, by decide⟩ hM wd_1882 wd_1884 wd_85 clf_12,
    st_ifeq hC (n := 3) (dc_X12_cheapest 3 (5, .ifCond .eq 10, 3) rfl rfl) rfl (by decide),
    st_iload_n hC (n := 4) (k := 2) (dc_X12_cheapest 4 (8, .iload_n 2, 1) rfl rfl) rfl rfl,
    st_callS hC (n := 5) (na := 1) (con_X12_isAhead l) (dc_X12_cheapest 5 (9, .invokestatic 389, 3) rfl rfl) rfl wd_2126 wd_160 (by decide) ⟨rfl, rfl, by decide, by decide⟩ hM wd_2124 wd_2125,
    st_ifne hC (n := 6) (dc_X12_cheapest 6 (12, .ifCond .ne 9, 3) rfl rfl) rfl (by decide),
    st_aload_n hC (n := 7) (k := 0) (dc_X12_cheapest 7 (15, .aload_n 0, 1) rfl rfl) rfl rfl,
    st_iconst hC (n := 8) (x := 1) (dc_X12_cheapest 8 (16, .iconst 1, 1) rfl rfl) rfl (by decide),
    st_callV hC (n := 9) (k := 12) (na := 1) (con_X12_refuse l) (dc_X12_cheapest 9 (17, .invokevirtual 87, 3) rfl rfl) rfl wd_1758 wd_160 (by decide) ⟨rfl, rfl, by decide, by decide⟩ hM wd_1755 wd_1757 wd_57 clf_12,
    st_iret hC (n := 10) hR (dc_X12_cheapest 10 (20, .ireturn, 1) rfl rfl),
    st_aload_n hC (n := 11) (k := 0) (dc_X12_cheapest 11 (21, .aload_n 0, 1) rfl rfl) rfl rfl,
    st_iload_n hC (n := 12) (k := 1) (dc_X12_cheapest 12 (22, .iload_n 1, 1) rfl rfl) rfl rfl,
    st_callV hC (n := 13) (k := 12) (na := 1) (con_X12_hasWed l) (dc_X12_cheapest 13 (23, .invokevirtual 292, 3) rfl rfl) rfl wd_1985 wd_160 (by decide) ⟨rfl, rfl, by decide, by decide⟩ hM wd_1982 wd_1984 wd_102 clf_12,
    st_ifeq hC (n := 14) (dc_X12_cheapest 14 (26, .ifCond .eq 10, 3) rfl rfl) rfl (by decide),
    st_aload_n hC (n := 15) (k := 0) (dc_X12_cheapest 15 (29, .aload_n 0, 1) rfl rfl) rfl rfl,
    st_bipush hC (n := 16) (x := 7) (dc_X12_cheapest 16 (30, .bipush 7, 2) rfl rfl) rfl (by decide),
    st_callV hC (n := 17) (k := 12) (na := 1) (con_X12_refuse l) (dc_X12_cheapest 17 (32, .invokevirtual 87, 3) rfl rfl) rfl wd_1758 wd_160 (by decide) ⟨rfl, rfl, by decide, by decide⟩ hM wd_1755 wd_1757 wd_57 clf_12,
    st_iret hC (n := 18) hR (dc_X12_cheapest 18 (35, .ireturn, 1) rfl rfl),
    st_iconst hC (n := 19) (x := (-1)) (dc_X12_cheapest 19 (36, .iconst (-1), 1) rfl rfl) rfl (by decide),
    st_istore_n hC (n := 20) (k := 3) (dc_X12_cheapest 20 (37, .istore_n 3, 1) rfl rfl) rfl rfl (by decide),
    st_ldcw hC (n := 21) (x := 1000000) (dc_X12_cheapest 21 (38, .ldc_w 400, 3) rfl rfl) rfl wd_2159,
    st_istore hC (n := 22) (dc_X12_cheapest 22 (41, .istore 4, 2) rfl rfl) rfl (by decide),
    st_iconst hC (n := 23) (x := 0) (dc_X12_cheapest 23 (43, .iconst 0, 1) rfl rfl) rfl (by decide),
    st_istore hC (n := 24) (dc_X12_cheapest 24 (44, .istore 5, 2) rfl rfl) rfl (by decide),
    st_iload hC (n := 25) (dc_X12_cheapest 25 (46, .iload 5, 2) rfl rfl) rfl,
    st_aload_n hC (n := 26) (k := 0) (dc_X12_cheapest 26 (48, .aload_n 0, 1) rfl rfl) rfl rfl,
    st_getR hC (n := 27) (k := 12) (j := 0) (dc_X12_cheapest 27 (49, .getfield 7, 3) rfl rfl) rfl clf_12 (by decide) rfl (by decide) wd_1552,
    st_iconst hC (n := 28) (x := 1) (dc_X12_cheapest 28 (52, .iconst 1, 1) rfl rfl) rfl (by decide),
    st_iald hC (n := 29) (dc_X12_cheapest 29 (53, .iaload, 1) rfl rfl) rfl,
    st_icge hC (n := 30) (dc_X12_cheapest 30 (54, .if_icmp .ge 36, 3) rfl rfl) rfl (by decide),
    st_aload_n hC (n := 31) (k := 0) (dc_X12_cheapest 31 (57, .aload_n 0, 1) rfl rfl) rfl rfl,
    st_iload_n hC (n := 32) (k := 1) (dc_X12_cheapest 32 (58, .iload_n 1, 1) rfl rfl) rfl rfl,
    st_iload hC (n := 33) (dc_X12_cheapest 33 (59, .iload 5, 2) rfl rfl) rfl,
    st_iload_n hC (n := 34) (k := 2) (dc_X12_cheapest 34 (61, .iload_n 2, 1) rfl rfl) rfl rfl,
    st_callV hC (n := 35) (k := 12) (na := 3) (con_X12_lossBy l) (dc_X12_cheapest 35 (62, .invokevirtual 404, 3) rfl rfl) rfl wd_2175 wd_160 (by decide) ⟨rfl, rfl, by decide, by decide⟩ hM wd_2172 wd_2174 wd_123 clf_12,
    st_istore hC (n := 36) (dc_X12_cheapest 36 (65, .istore 6, 2) rfl rfl) rfl (by decide),
    st_iload hC (n := 37) (dc_X12_cheapest 37 (67, .iload 6, 2) rfl rfl) rfl,
    st_iload hC (n := 38) (dc_X12_cheapest 38 (69, .iload 4, 2) rfl rfl) rfl,
    st_iclt hC (n := 39) (dc_X12_cheapest 39 (71, .if_icmp .lt 6, 3) rfl rfl) rfl (by decide),
    st_goto hC (n := 40) (dc_X12_cheapest 40 (74, .goto 10, 3) rfl rfl) (by decide),
    st_iload hC (n := 41) (dc_X12_cheapest 41 (77, .iload 6, 2) rfl rfl) rfl,
    st_istore hC (n := 42) (dc_X12_cheapest 42 (79, .istore 4, 2) rfl rfl) rfl (by decide),
    st_iload hC (n := 43) (dc_X12_cheapest 43 (81, .iload 5, 2) rfl rfl) rfl,
    st_istore_n hC (n := 44) (k := 3) (dc_X12_cheapest 44 (83, .istore_n 3, 1) rfl rfl) rfl rfl (by decide),
    st_iinc hC (n := 45) (x := 1) (dc_X12_cheapest 45 (84, .iinc 5 1, 3) rfl rfl) rfl (by decide) (by decide),
    st_goto hC (n := 46) (dc_X12_cheapest 46 (87, .goto (-41), 3) rfl rfl) (by decide),
    st_aload_n hC (n := 47) (k := 0) (dc_X12_cheapest 47 (90, .aload_n 0, 1) rfl rfl) rfl rfl,
    st_iload_n hC (n := 48) (k := 3) (dc_X12_cheapest 48 (91, .iload_n 3, 1) rfl rfl) rfl rfl,
    st_callV hC (n := 49) (k := 12) (na := 1) (con_X12_orNone l) (dc_X12_cheapest 49 (92, .invokevirtual 310, 3) rfl rfl) rfl wd_1915 wd_160 (by decide) ⟨rfl, rfl, by decide, by decide⟩ hM wd_1912 wd_1914 wd_91 clf_12,
    st_iret hC (n := 50) hR (dc_X12_cheapest 50 (95, .ireturn, 1) rfl rfl), trivial⟩
set_option maxRecDepth 8000 in
theorem vc_X12_cheapest : VC P_X12_cheapest 7 Pre_X12_cheapest Fn_X12_cheapest := by
  rintro mm as hom hoa ⟨⟨ns, nm, n, hV⟩, hH, x, w, rfl⟩
  refine ⟨Nat.le_of_ble_eq_true rfl, fun X h => ?_⟩
  have hns4 : ns ≤ 4 := hV.1.2
  have hnm : mm.1 54 0 1 = nI nm := hV.2.1.1
  have hnm4 : nm ≤ 4 := hV.2.1.2
  have body : suP (mm.1 54 0) x ∧ (¬ w < 0 ∧ ¬ 99 < w) → X 11 [some (vR 12 0), some (vI (x)), some (vI (w)), none, none, none, none] [] mm := by
    intro hp
    obtain ⟨i, hi, rfl⟩ := su_in hV hp.1
    have ei : (nI i).toNatClampNeg = i := nI_clamp (by omega)
    have eF : Fn_X12_cheapest mm [vR 12 0, vI (nI i), vI w] = if mm.1 54 0 (15 + 4 * i) = -1 then onM (lkM mm i nm) (ckB (mm.1 54 0) i w nm).1 else rfM mm 7 := by
      refine Eq.trans (if_pos hp) ?_
      rw [ei, hnm, nI_clamp (by omega)]
    rw [eF] at h
    suffices z : mm.1 54 0 (15 + 4 * i) = -1 → X 19 [some (vR 12 0), some (vI (nI i)), some (vI (w)), none, none, none, none] [] mm by
      show X 11 [some (vR 12 0), some (vI (nI i)), some (vI w), none, none, none, none] [] mm
      refine h (fun i => Nat.beq i 19) 3000 11 _ _ _ ?_
      refine And.intro ⟨i, by omega, rfl⟩ ?_
      refine br_c (fun b14 => ?_) (fun b14 => ?_)
      · -- 14: bI (¬ mm.1 54 0 (15 + 4 * (nI i).toNatClampNeg) = -1) = 0 taken
        replace b14 : ¬ (¬ mm.1 54 0 (15 + 4 * (nI i).toNatClampNeg) = -1) := bI_0.mp b14
        rw [ei] at b14
        show X 19 [some (vR 12 0), some (vI (nI i)), some (vI w), none, none, none, none] [] mm
        exact z (Decidable.not_not.mp b14)
      · -- 14: bI (¬ mm.1 54 0 (15 + 4 * (nI i).toNatClampNeg) = -1) = 0 on
        replace b14 : ¬ mm.1 54 0 (15 + 4 * (nI i).toNatClampNeg) = -1 := bI_n0.mp b14
        rw [ei] at b14
        refine And.intro ⟨_, rfl⟩ ?_
        show ((some (vI (-1)) : Option MV), stM mm 7) = _
        exact (if_neg b14).symm
    intro hw
    rw [if_pos hw] at h
    have loop : ∀ k, k ≤ nm → ∀ L6, X 25 [some (vR 12 0), some (vI (nI i)), some (vI (w)), some (vI ((ckB (mm.1 54 0) i w k).1)), some (vI ((ckB (mm.1 54 0) i w k).2)), some (vI (nI k)), L6] [] (lkM mm i k) := by
      refine up_ind nm ?_ (fun k hk ih => ?_)
      · intro L6
        have e54 := lkM54 mm i nm
        show X 25 [some (vR 12 0), some (vI (nI i)), some (vI w), some (vI ((ckB (mm.1 54 0) i w nm).1)), some (vI ((ckB (mm.1 54 0) i w nm).2)), some (vI (nI nm)), L6] [] (lkM mm i nm)
        refine h (fun _ => false) 3000 25 _ _ _ ?_
        refine And.intro rfl ?_
        refine br_t (by show (lkM mm i nm).1 54 0 1 ≤ nI nm; rw [e54]; ((try simp (disch := omega) only [hnm, li, pk_mul, nI_add, nI_clamp, nI_leI, nI_ltI, nI_eq, bI_0, bI_n0, Decidable.not_not, gu_m1]); first | done | omega | assumption)) ?_
        refine And.intro ⟨_, rfl⟩ ?_
        show ((some (vI ((ckB (mm.1 54 0) i w nm).1)) : Option MV), stM (lkM mm i nm) (if ((ckB (mm.1 54 0) i w nm).1) = -1 then 6 else 0)) = _
        exact rfl
      · intro L6
        have ek : (nI k).toNatClampNeg = k := nI_clamp (by omega)
        have e54 := lkM54 mm i k
        have st : ∀ v u, (v, u) = ckB (mm.1 54 0) i w (k + 1) → ∀ L6, X 45 [some (vR 12 0), some (vI (nI i)), some (vI (w)), some (vI (v)), some (vI (u)), some (vI (nI k)), L6] [] (lkM mm i (k + 1)) := by
          intro v u ev L6
          have := ih L6
          rw [← ev] at this
          show X 45 [some (vR 12 0), some (vI (nI i)), some (vI w), some (vI v), some (vI u), some (vI (nI k)), L6] [] (lkM mm i (k + 1))
          refine h (fun i => Nat.beq i 25) 3000 45 _ _ _ ?_
          show X 25 [some (vR 12 0), some (vI (nI i)), some (vI w), some (vI v), some (vI u), some (vI ((nI k) + 1)), L6] [] (lkM mm i (k + 1))
          rw [nI_1]
          exact this
        have hVM : VM (lkM mm i k) := ⟨ns, nm, n, by show VA ((lkM mm i k).1 54 0) ns nm n; rw [e54]; exact hV⟩
        have hHM : HSo ((lkM mm i k).1 54 0) := by rw [e54]; exact hH
        rw [lkM] at st
        generalize lkM mm i k = M at *
        show X 25 [some (vR 12 0), some (vI (nI i)), some (vI w), some (vI ((ckB (mm.1 54 0) i w k).1)), some (vI ((ckB (mm.1 54 0) i w k).2)), some (vI (nI k)), L6] [] M
        refine h (fun i => Nat.beq i 45) 3000 25 _ _ _ ?_
        refine And.intro rfl ?_
        refine br_f (by show ¬ M.1 54 0 1 ≤ nI k; rw [e54]; ((try simp (disch := omega) only [hnm, li, pk_mul, nI_add, nI_clamp, nI_leI, nI_ltI, nI_eq, bI_0, bI_n0, Decidable.not_not, gu_m1]); first | done | omega | assumption)) ?_
        refine And.intro ⟨hVM, hHM, i, k, w, by omega, by omega, rfl⟩ ?_
        refine br_c (fun b39 => ?_) (fun b39 => ?_)
        · -- 39: lyA (M.1 54 0) (nI i).toNatClampNeg (nI k).toNatClampNeg w < (ckB (mm.1 54 0) i w k).2 taken
          replace b39 : lyA (M.1 54 0) (nI i).toNatClampNeg (nI k).toNatClampNeg w < (ckB (mm.1 54 0) i w k).2 := b39
          rw [ek] at b39
          rw [ei] at b39
          rw [e54] at b39
          show X 45 [some (vR 12 0), some (vI (nI i)), some (vI w), some (vI (nI k)), some (vI (lyA (M.1 54 0) (nI i).toNatClampNeg (nI k).toNatClampNeg w)), some (vI (nI k)), some (vI (lyA (M.1 54 0) (nI i).toNatClampNeg (nI k).toNatClampNeg w))] [] (lyM M (nI i).toNatClampNeg (nI k).toNatClampNeg)
          rw [ek]
          rw [ei]
          rw [e54]
          refine st _ _ ?_ _ 
          rw [ckB] 
          first | exact (if_pos b39).symm | exact (if_neg b39).symm
        · -- 39: lyA (M.1 54 0) (nI i).toNatClampNeg (nI k).toNatClampNeg w < (ckB (mm.1 54 0) i w k).2 on
          replace b39 : ¬ (lyA (M.1 54 0) (nI i).toNatClampNeg (nI k).toNatClampNeg w < (ckB (mm.1 54 0) i w k).2) := b39
          rw [ek] at b39
          rw [ei] at b39
          rw [e54] at b39
          show X 45 [some (vR 12 0), some (vI (nI i)), some (vI w), some (vI ((ckB (mm.1 54 0) i w k).1)), some (vI ((ckB (mm.1 54 0) i w k).2)), some (vI (nI k)), some (vI (lyA (M.1 54 0) (nI i).toNatClampNeg (nI k).toNatClampNeg w))] [] (lyM M (nI i).toNatClampNeg (nI k).toNatClampNeg)
          rw [ek]
          rw [ei]
          rw [e54]
          refine st _ _ ?_ _ 
          rw [ckB] 
          first | exact (if_pos b39).symm | exact (if_neg b39).symm
    show X 19 [some (vR 12 0), some (vI (nI i)), some (vI w), none, none, none, none] [] mm
    refine h (fun i => Nat.beq i 25) 3000 19 _ _ _ ?_
    show X 25 [some (vR 12 0), some (vI (nI i)), some (vI w), some (vI (-1)), some (vI 1000000), some (vI 0), none] [] mm
    exact loop 0 (by omega) none
  show X 0 [some (vR 12 0), some (vI x), some (vI w), none, none, none, none] [] mm
  refine h (fun i => Nat.beq i 11) 3000 0 _ _ _ ?_
  refine And.intro ⟨_, rfl⟩ ?_
  refine br_c (fun b3 => ?_) (fun b3 => ?_)
  · -- 3: bI (suP (mm.1 54 0) x) = 0 taken
    replace b3 : ¬ (suP (mm.1 54 0) x) := bI_0.mp b3
    refine And.intro ⟨_, rfl⟩ ?_
    show ((some (vI (-1)) : Option MV), stM mm 1) = _
    exact (if_neg (fun z => b3 z.1)).symm
  · -- 3: bI (suP (mm.1 54 0) x) = 0 on
    replace b3 : suP (mm.1 54 0) x := bI_n0.mp b3
    refine And.intro ⟨_, rfl⟩ ?_
    refine brn_c (fun b6 => ?_) (fun b6 => ?_)
    · -- 6: bI (¬ w < 0 ∧ ¬ 99 < w) = 0 taken
      replace b6 : ¬ w < 0 ∧ ¬ 99 < w := bI_n0.mp b6
      show X 11 [some (vR 12 0), some (vI x), some (vI w), none, none, none, none] [] mm
      exact body ⟨b3, b6⟩
    · -- 6: bI (¬ w < 0 ∧ ¬ 99 < w) = 0 on
      replace b6 : ¬ (¬ w < 0 ∧ ¬ 99 < w) := bI_0.mp b6
      refine And.intro ⟨_, rfl⟩ ?_
      show ((some (vI (-1)) : Option MV), stM mm 1) = _
      exact (if_neg (fun z => b6 z.2)).symm
theorem con_X12_cheapest (l : Launch) : CON l y_X12_cheapest prog_14_method_125_code 7 (some .int) rm_X12_cheapest Pre_X12_cheapest Fn_X12_cheapest := CON_of (by decide) rfl rfl (sa_X12_cheapest l) vc_X12_cheapest
def Pre_X12_within : PreT := fun m as => VM m ∧ HSo (m.1 54 0) ∧ ∃ x w : Int32, as = [vR 12 0, vI x, vI w]
noncomputable def Fn_X12_within : FnT := fun m as => match as with
  | [_, Sum.inl x, Sum.inl w] => if suP (m.1 54 0) x ∧ (¬ w < 0 ∧ ¬ 99 < w) then (if m.1 54 0 (15 + 4 * x.toNatClampNeg) = -1 then gvM (lkM m x.toNatClampNeg (m.1 54 0 1).toNatClampNeg) (wnS (m.1 54 0) x.toNatClampNeg w (m.1 54 0 1).toNatClampNeg) else rfM m 7) else rfM m 1
  | _ => (none, m)
abbrev y_X12_within : MethodName := ⟨"GivenUpModel", "within", "(II)I"⟩
def P_X12_within : List StpT := [s_aload 0, s_iload 1, s_callV 12 1 Pre_X12_isSuitor Fn_X12_isSuitor, s_ifeq 7, s_iload 2, s_callS 1 Pre_X12_isAhead Fn_X12_isAhead, s_ifne 11, s_aload 0, s_ic (1), s_callV 12 1 Pre_X12_refuse Fn_X12_refuse, s_iret, s_aload 0, s_iload 1, s_callV 12 1 Pre_X12_hasWed Fn_X12_hasWed, s_ifeq 19, s_aload 0, s_ic (7), s_callV 12 1 Pre_X12_refuse Fn_X12_refuse, s_iret, s_ic (0), s_istore 3, s_ic (0), s_istore 4, s_iload 4, s_aload 0, s_getR 12 0 54, s_ic (1), s_iald, s_icge 46, s_iload 3, s_aload 0, s_iload 1, s_iload 4, s_iload 2, s_callV 12 3 Pre_X12_lossBy Fn_X12_lossBy, s_ic (1000000), s_icge 41, s_ic (1), s_iload 4, s_ishl, s_goto 42, s_ic (0), s_ior, s_istore 3, s_iinc 4 (1), s_goto 23, s_aload 0, s_iload 3, s_callV 12 1 Pre_X12_gives Fn_X12_gives, s_iret]
def pc_X12_within : Nat → Nat := fun i => [0, 1, 2, 5, 8, 9, 12, 15, 16, 17, 20, 21, 22, 23, 26, 29, 30, 32, 35, 36, 37, 38, 39, 41, 43, 44, 47, 48, 49, 52, 53, 54, 55, 57, 58, 61, 64, 67, 68, 70, 71, 74, 75, 76, 77, 80, 83, 84, 85, 88].getD i 0
def dl_X12_within : List (Nat × Instr × Nat) := [(0, .aload_n 0, 1), (1, .iload_n 1, 1), (2, .invokevirtual 265, 3), (5, .ifCond .eq 10, 3), (8, .iload_n 2, 1), (9, .invokestatic 389, 3), (12, .ifCond .ne 9, 3), (15, .aload_n 0, 1), (16, .iconst 1, 1), (17, .invokevirtual 87, 3), (20, .ireturn, 1), (21, .aload_n 0, 1), (22, .iload_n 1, 1), (23, .invokevirtual 292, 3), (26, .ifCond .eq 10, 3), (29, .aload_n 0, 1), (30, .bipush 7, 2), (32, .invokevirtual 87, 3), (35, .ireturn, 1), (36, .iconst 0, 1), (37, .istore_n 3, 1), (38, .iconst 0, 1), (39, .istore 4, 2), (41, .iload 4, 2), (43, .aload_n 0, 1), (44, .getfield 7, 3), (47, .iconst 1, 1), (48, .iaload, 1), (49, .if_icmp .ge 34, 3), (52, .iload_n 3, 1), (53, .aload_n 0, 1), (54, .iload_n 1, 1), (55, .iload 4, 2), (57, .iload_n 2, 1), (58, .invokevirtual 404, 3), (61, .ldc_w 400, 3), (64, .if_icmp .ge 10, 3), (67, .iconst 1, 1), (68, .iload 4, 2), (70, .ishl, 1), (71, .goto 4, 3), (74, .iconst 0, 1), (75, .ior, 1), (76, .istore_n 3, 1), (77, .iinc 4 1, 3), (80, .goto (-39), 3), (83, .aload_n 0, 1), (84, .iload_n 3, 1), (85, .invokevirtual 91, 3), (88, .ireturn, 1)]
theorem dc_X12_within : DEC prog_14_method_126_code pc_X12_within dl_X12_within := DEC_of (by decide +kernel)
abbrev rm_X12_within : Room := { frames := 6, cells := 0, slots := 0, locals := 140 }
set_option maxRecDepth 20000 in
theorem sa_X12_within (l : Launch) : SNDALL l prog_14_method_126_code "GivenUpModel" 5 (some .int) rm_X12_within P_X12_within pc_X12_within := fun p e s m args below meth c cells slots Q D dA ad A RR hC hR => by
  have hM := RTX_room (R := rm_X12_within) hR
  exact ⟨st_aload_n hC (n := 0) (k := 0) (dc_X12_within 0 (0, .aload_n 0, 1) rfl rfl) rfl rfl,
    st_iload_n hC (n := 1) (k := 1) (dc_X12_within 1 (1, .iload_n 1, 1) rfl rfl) rfl rfl,
    st_callV hC (n := 2) (k := 12) (na := 1) (con_X12_isSuitor l) (dc_X12_within 2 (2, .invokevirtual 265, 3) rfl rfl) rfl wd_1885 wd_160 (by decide) ⟨rfl, rfl, by decide, by decide⟩ hM wd_1882 wd_1884 wd_85 clf_12,
    st_ifeq hC (n := 3) (dc_X12_within 3 (5, .ifCond .eq 10, 3) rfl rfl) rfl (by decide),
    st_iload_n hC (n := 4) (k := 2) (dc_X12_within 4 (8, .iload_n 2, 1) rfl rfl) rfl rfl,
    st_callS hC (n := 5) (na := 1) (con_X12_isAhead l) (dc_X12_within 5 (9, .invokestatic 389, 3) rfl rfl) rfl wd_2126 wd_160 (by decide) ⟨rfl, rfl, by decide, by decide⟩ hM wd_2124 wd_2125,
    st_ifne hC (n := 6) (dc_X12_within 6 (12, .ifCond .ne 9, 3) rfl rfl) rfl (by decide),
    st_aload_n hC (n := 7) (k := 0) (dc_X12_within 7 (15, .aload_n 0, 1) rfl rfl) rfl rfl,
    st_iconst hC (n := 8) (x := 1) (dc_X12_within 8 (16, .iconst 1, 1) rfl rfl) rfl (by decide),
    st_callV hC (n := 9) (k := 12) (na := 1) (con_X12_refuse l) (dc_X12_within 9 (17, .invokevirtual 87, 3) rfl rfl) rfl wd_1758 wd_160 (by decide) ⟨rfl, rfl, by decide, by decide⟩ hM wd_1755 wd_1757 wd_57 clf_12,
    st_iret hC (n := 10) hR (dc_X12_within 10 (20, .ireturn, 1) rfl rfl),
    st_aload_n hC (n := 11) (k := 0) (dc_X12_within 11 (21, .aload_n 0, 1) rfl rfl) rfl rfl,
    st_iload_n hC (n := 12) (k := 1) (dc_X12_within 12 (22, .iload_n 1, 1) rfl rfl) rfl rfl,
    st_callV hC (n := 13) (k := 12) (na := 1) (con_X12_hasWed l) (dc_X12_within 13 (23, .invokevirtual 292, 3) rfl rfl) rfl wd_1985 wd_160 (by decide) ⟨rfl, rfl, by decide, by decide⟩ hM wd_1982 wd_1984 wd_102 clf_12,
    st_ifeq hC (n := 14) (dc_X12_within 14 (26, .ifCond .eq 10, 3) rfl rfl) rfl (by decide),
    st_aload_n hC (n := 15) (k := 0) (dc_X12_within 15 (29, .aload_n 0, 1) rfl rfl) rfl rfl,
    st_bipush hC (n := 16) (x := 7) (dc_X12_within 16 (30, .bipush 7, 2) rfl rfl) rfl (by decide),
    st_callV hC (n := 17) (k := 12) (na := 1) (con_X12_refuse l) (dc_X12_within 17 (32, .invokevirtual 87, 3) rfl rfl) rfl wd_1758 wd_160 (by decide) ⟨rfl, rfl, by decide, by decide⟩ hM wd_1755 wd_1757 wd_57 clf_12,
    st_iret hC (n := 18) hR (dc_X12_within 18 (35, .ireturn, 1) rfl rfl),
    st_iconst hC (n := 19) (x := 0) (dc_X12_within 19 (36, .iconst 0, 1) rfl rfl) rfl (by decide),
    st_istore_n hC (n := 20) (k := 3) (dc_X12_within 20 (37, .istore_n 3, 1) rfl rfl) rfl rfl (by decide),
    st_iconst hC (n := 21) (x := 0) (dc_X12_within 21 (38, .iconst 0, 1) rfl rfl) rfl (by decide),
    st_istore hC (n := 22) (dc_X12_within 22 (39, .istore 4, 2) rfl rfl) rfl (by decide),
    st_iload hC (n := 23) (dc_X12_within 23 (41, .iload 4, 2) rfl rfl) rfl,
    st_aload_n hC (n := 24) (k := 0) (dc_X12_within 24 (43, .aload_n 0, 1) rfl rfl) rfl rfl,
    st_getR hC (n := 25) (k := 12) (j := 0) (dc_X12_within 25 (44, .getfield 7, 3) rfl rfl) rfl clf_12 (by decide) rfl (by decide) wd_1552,
    st_iconst hC (n := 26) (x := 1) (dc_X12_within 26 (47, .iconst 1, 1) rfl rfl) rfl (by decide),
    st_iald hC (n := 27) (dc_X12_within 27 (48, .iaload, 1) rfl rfl) rfl,
    st_icge hC (n := 28) (dc_X12_within 28 (49, .if_icmp .ge 34, 3) rfl rfl) rfl (by decide),
    st_iload_n hC (n := 29) (k := 3) (dc_X12_within 29 (52, .iload_n 3, 1) rfl rfl) rfl rfl,
    st_aload_n hC (n := 30) (k := 0) (dc_X12_within 30 (53, .aload_n 0, 1) rfl rfl) rfl rfl,
    st_iload_n hC (n := 31) (k := 1) (dc_X12_within 31 (54, .iload_n 1, 1) rfl rfl) rfl rfl,
    st_iload hC (n := 32) (dc_X12_within 32 (55, .iload 4, 2) rfl rfl) rfl,
    st_iload_n hC (n := 33) (k := 2) (dc_X12_within 33 (57, .iload_n 2, 1) rfl rfl) rfl rfl,
    st_callV hC (n := 34) (k := 12) (na := 3) (con_X12_lossBy l) (dc_X12_within 34 (58, .invokevirtual 404, 3) rfl rfl) rfl wd_2175 wd_160 (by decide) ⟨rfl, rfl, by decide, by decide⟩ hM wd_2172 wd_2174 wd_123 clf_12,
    st_ldcw hC (n := 35) (x := 1000000) (dc_X12_within 35 (61, .ldc_w 400, 3) rfl rfl) rfl wd_2159,
    st_icge hC (n := 36) (dc_X12_within 36 (64, .if_icmp .ge 10, 3) rfl rfl) rfl (by decide),
    st_iconst hC (n := 37) (x := 1) (dc_X12_within 37 (67, .iconst 1, 1) rfl rfl) rfl (by decide),
    st_iload hC (n := 38) (dc_X12_within 38 (68, .iload 4, 2) rfl rfl) rfl,
    st_ishl hC (n := 39) (dc_X12_within 39 (70, .ishl, 1) rfl rfl) rfl,
    st_goto hC (n := 40) (dc_X12_within 40 (71, .goto 4, 3) rfl rfl) (by decide),
    st_iconst hC (n := 41) (x := 0) (dc_X12_within 41 (74, .iconst 0, 1) rfl rfl) rfl (by decide),
    st_ior hC (n := 42) (dc_X12_within 42 (75, .ior, 1) rfl rfl) rfl,
    st_istore_n hC (n := 43) (k := 3) (dc_X12_within 43 (76, .istore_n 3, 1) rfl rfl) rfl rfl (by decide),
    st_iinc hC (n := 44) (x := 1) (dc_X12_within 44 (77, .iinc 4 1, 3) rfl rfl) rfl (by decide) (by decide),
    st_goto hC (n := 45) (dc_X12_within 45 (80, .goto (-39), 3) rfl rfl) (by decide),
    st_aload_n hC (n := 46) (k := 0) (dc_X12_within 46 (83, .aload_n 0, 1) rfl rfl) rfl rfl,
    st_iload_n hC (n := 47) (k := 3) (dc_X12_within 47 (84, .iload_n 3, 1) rfl rfl) rfl rfl,
    st_callV hC (n := 48) (k := 12) (na := 1) (con_X12_gives l) (dc_X12_within 48 (85, .invokevirtual 91, 3) rfl rfl) rfl wd_1849 wd_160 (by decide) ⟨rfl, rfl, by decide, by decide⟩ hM wd_1846 wd_1848 wd_79 clf_12,
    st_iret hC (n := 49) hR (dc_X12_within 49 (88, .ireturn, 1) rfl rfl), trivial⟩
set_option maxRecDepth 8000 in
theorem vc_X12_within : VC P_X12_within 5 Pre_X12_within Fn_X12_within := by
  rintro mm as hom hoa ⟨⟨ns, nm, n, hV⟩, hH, x, w, rfl⟩
  refine ⟨Nat.le_of_ble_eq_true rfl, fun X h => ?_⟩
  have hns4 : ns ≤ 4 := hV.1.2
  have hnm : mm.1 54 0 1 = nI nm := hV.2.1.1
  have hnm4 : nm ≤ 4 := hV.2.1.2
  have body : suP (mm.1 54 0) x ∧ (¬ w < 0 ∧ ¬ 99 < w) → X 11 [some (vR 12 0), some (vI (x)), some (vI (w)), none, none] [] mm := by
    intro hp
    obtain ⟨i, hi, rfl⟩ := su_in hV hp.1
    have ei : (nI i).toNatClampNeg = i := nI_clamp (by omega)
    have eF : Fn_X12_within mm [vR 12 0, vI (nI i), vI w] = if mm.1 54 0 (15 + 4 * i) = -1 then gvM (lkM mm i nm) (wnS (mm.1 54 0) i w nm) else rfM mm 7 := by
      refine Eq.trans (if_pos hp) ?_
      rw [ei, hnm, nI_clamp (by omega)]
    rw [eF] at h
    suffices z : mm.1 54 0 (15 + 4 * i) = -1 → X 19 [some (vR 12 0), some (vI (nI i)), some (vI (w)), none, none] [] mm by
      show X 11 [some (vR 12 0), some (vI (nI i)), some (vI w), none, none] [] mm
      refine h (fun i => Nat.beq i 19) 3000 11 _ _ _ ?_
      refine And.intro ⟨i, by omega, rfl⟩ ?_
      refine br_c (fun b14 => ?_) (fun b14 => ?_)
      · -- 14: bI (¬ mm.1 54 0 (15 + 4 * (nI i).toNatClampNeg) = -1) = 0 taken
        replace b14 : ¬ (¬ mm.1 54 0 (15 + 4 * (nI i).toNatClampNeg) = -1) := bI_0.mp b14
        rw [ei] at b14
        show X 19 [some (vR 12 0), some (vI (nI i)), some (vI w), none, none] [] mm
        exact z (Decidable.not_not.mp b14)
      · -- 14: bI (¬ mm.1 54 0 (15 + 4 * (nI i).toNatClampNeg) = -1) = 0 on
        replace b14 : ¬ mm.1 54 0 (15 + 4 * (nI i).toNatClampNeg) = -1 := bI_n0.mp b14
        rw [ei] at b14
        refine And.intro ⟨_, rfl⟩ ?_
        show ((some (vI (-1)) : Option MV), stM mm 7) = _
        exact (if_neg b14).symm
    intro hw
    rw [if_pos hw] at h
    have loop : ∀ k, k ≤ nm → X 23 [some (vR 12 0), some (vI (nI i)), some (vI (w)), some (vI (wnS (mm.1 54 0) i w k)), some (vI (nI k))] [] (lkM mm i k) := by
      refine up_ind nm ?_ (fun k hk ih => ?_)
      · have e54 := lkM54 mm i nm
        show X 23 [some (vR 12 0), some (vI (nI i)), some (vI w), some (vI (wnS (mm.1 54 0) i w nm)), some (vI (nI nm))] [] (lkM mm i nm)
        refine h (fun _ => false) 3000 23 _ _ _ ?_
        refine And.intro rfl ?_
        refine br_t (by show (lkM mm i nm).1 54 0 1 ≤ nI nm; rw [e54]; ((try simp (disch := omega) only [hnm, li, pk_mul, nI_add, nI_clamp, nI_leI, nI_ltI, nI_eq, bI_0, bI_n0, Decidable.not_not, gu_m1]); first | done | omega | assumption)) ?_
        refine And.intro ⟨_, rfl⟩ ?_
        show ((some (vI (wnS (mm.1 54 0) i w nm)) : Option MV), stM (lkM mm i nm) 0) = _
        exact rfl
      · have ek : (nI k).toNatClampNeg = k := nI_clamp (by omega)
        have e54 := lkM54 mm i k
        have st : ∀ v, wnS (mm.1 54 0) i w k ||| v = wnS (mm.1 54 0) i w (k + 1) → X 42 [some (vR 12 0), some (vI (nI i)), some (vI (w)), some (vI (wnS (mm.1 54 0) i w k)), some (vI (nI k))] [vI (v), vI (wnS (mm.1 54 0) i w k)] (lkM mm i (k + 1)) := by
          intro v ev
          show X 42 [some (vR 12 0), some (vI (nI i)), some (vI w), some (vI (wnS (mm.1 54 0) i w k)), some (vI (nI k))] [vI v, vI (wnS (mm.1 54 0) i w k)] (lkM mm i (k + 1))
          refine h (fun i => Nat.beq i 23) 3000 42 _ _ _ ?_
          show X 23 [some (vR 12 0), some (vI (nI i)), some (vI w), some (vI ((wnS (mm.1 54 0) i w k) ||| v)), some (vI ((nI k) + 1))] [] (lkM mm i (k + 1))
          rw [nI_1, ev]
          exact ih
        have hVM : VM (lkM mm i k) := ⟨ns, nm, n, by show VA ((lkM mm i k).1 54 0) ns nm n; rw [e54]; exact hV⟩
        have hHM : HSo ((lkM mm i k).1 54 0) := by rw [e54]; exact hH
        rw [lkM] at st
        generalize lkM mm i k = M at *
        show X 23 [some (vR 12 0), some (vI (nI i)), some (vI w), some (vI (wnS (mm.1 54 0) i w k)), some (vI (nI k))] [] M
        refine h (fun i => Nat.beq i 42) 3000 23 _ _ _ ?_
        refine And.intro rfl ?_
        refine br_f (by show ¬ M.1 54 0 1 ≤ nI k; rw [e54]; ((try simp (disch := omega) only [hnm, li, pk_mul, nI_add, nI_clamp, nI_leI, nI_ltI, nI_eq, bI_0, bI_n0, Decidable.not_not, gu_m1]); first | done | omega | assumption)) ?_
        refine And.intro ⟨hVM, hHM, i, k, w, by omega, by omega, rfl⟩ ?_
        refine br_c (fun b36 => ?_) (fun b36 => ?_)
        · -- 36: 1000000 ≤ lyA (M.1 54 0) (nI i).toNatClampNeg (nI k).toNatClampNeg w taken
          replace b36 : 1000000 ≤ lyA (M.1 54 0) (nI i).toNatClampNeg (nI k).toNatClampNeg w := b36
          rw [ek] at b36
          rw [ei] at b36
          rw [e54] at b36
          show X 42 [some (vR 12 0), some (vI (nI i)), some (vI w), some (vI (wnS (mm.1 54 0) i w k)), some (vI (nI k))] [vI 0, vI (wnS (mm.1 54 0) i w k)] (lyM M (nI i).toNatClampNeg (nI k).toNatClampNeg)
          rw [ek]
          rw [ei]
          refine st _ ?_
          rw [wnS] 
          first | rw [if_pos b36] | rw [if_neg b36]
        · -- 36: 1000000 ≤ lyA (M.1 54 0) (nI i).toNatClampNeg (nI k).toNatClampNeg w on
          replace b36 : ¬ (1000000 ≤ lyA (M.1 54 0) (nI i).toNatClampNeg (nI k).toNatClampNeg w) := b36
          rw [ek] at b36
          rw [ei] at b36
          rw [e54] at b36
          show X 42 [some (vR 12 0), some (vI (nI i)), some (vI w), some (vI (wnS (mm.1 54 0) i w k)), some (vI (nI k))] [vI (1 <<< ((nI k) &&& 31)), vI (wnS (mm.1 54 0) i w k)] (lyM M (nI i).toNatClampNeg (nI k).toNatClampNeg)
          rw [ek]
          rw [ei]
          refine st _ ?_
          rw [wnS] 
          first | rw [if_pos b36] | rw [if_neg b36]
    show X 19 [some (vR 12 0), some (vI (nI i)), some (vI w), none, none] [] mm
    refine h (fun i => Nat.beq i 23) 3000 19 _ _ _ ?_
    show X 23 [some (vR 12 0), some (vI (nI i)), some (vI w), some (vI 0), some (vI 0)] [] mm
    exact loop 0 (by omega)
  show X 0 [some (vR 12 0), some (vI x), some (vI w), none, none] [] mm
  refine h (fun i => Nat.beq i 11) 3000 0 _ _ _ ?_
  refine And.intro ⟨_, rfl⟩ ?_
  refine br_c (fun b3 => ?_) (fun b3 => ?_)
  · -- 3: bI (suP (mm.1 54 0) x) = 0 taken
    replace b3 : ¬ (suP (mm.1 54 0) x) := bI_0.mp b3
    refine And.intro ⟨_, rfl⟩ ?_
    show ((some (vI (-1)) : Option MV), stM mm 1) = _
    exact (if_neg (fun z => b3 z.1)).symm
  · -- 3: bI (suP (mm.1 54 0) x) = 0 on
    replace b3 : suP (mm.1 54 0) x := bI_n0.mp b3
    refine And.intro ⟨_, rfl⟩ ?_
    refine brn_c (fun b6 => ?_) (fun b6 => ?_)
    · -- 6: bI (¬ w < 0 ∧ ¬ 99 < w) = 0 taken
      replace b6 : ¬ w < 0 ∧ ¬ 99 < w := bI_n0.mp b6
      show X 11 [some (vR 12 0), some (vI x), some (vI w), none, none] [] mm
      exact body ⟨b3, b6⟩
    · -- 6: bI (¬ w < 0 ∧ ¬ 99 < w) = 0 on
      replace b6 : ¬ (¬ w < 0 ∧ ¬ 99 < w) := bI_0.mp b6
      refine And.intro ⟨_, rfl⟩ ?_
      show ((some (vI (-1)) : Option MV), stM mm 1) = _
      exact (if_neg (fun z => b6 z.2)).symm
theorem con_X12_within (l : Launch) : CON l y_X12_within prog_14_method_126_code 5 (some .int) rm_X12_within Pre_X12_within Fn_X12_within := CON_of (by decide) rfl rfl (sa_X12_within l) vc_X12_within
