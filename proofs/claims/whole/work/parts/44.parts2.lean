/-! PART 44: the model: maids, things, sayings, likings, weekly, fair -/

theorem pNw_lt {m : MM} {q c t k : Nat} (h : m.1 54 0 (2040 + q) = nI c) (hc : c ≤ t) (ht : t < 2 ^ 31) (hp : (pNw m q (nI t) k).1 = true) : c < t := by
  rcases Nat.eq_or_lt_of_le hc with e | e
  · unfold pNw at hp
    rw [if_pos (by rw [h, e])] at hp
    exact absurd hp (show ¬ (false = true) from Bool.false_ne_true)
  · exact e
/-- what the MAID's words are at first: the WORTHs -/
def mtR (f : Nat → Int32) (n : Nat) : Nat → (Nat → Int32)
  | 0 => f
  | t + 1 => upd (mtR f n t) (2120 + 4 * t + n) (mtR f n t (2085 + 3 * t))
theorem mtR_lo (f : Nat → Int32) (n : Nat) : ∀ t j, j < 2120 → mtR f n t j = f j
  | 0, _, _ => rfl
  | t + 1, j, h => by
    rw [mtR, upd_ne (by omega)]
    exact mtR_lo f n t j h
def maE (m : MM) (f : Nat → Int32) : MM := mI (mRow m 54 0 f) 54 0 2041 (f 2041 + 1)
def maD (n : Nat) (m : MM) : PR := (true, maE m (mtR (m.1 54 0) n (m.1 54 0 2042).toNatClampNeg))
def maC (n : Nat) (m : MM) : PR := pBd (pOp m 12 (2068 + 4 * n + 2) 0 9) (maD n)
def maB (n : Nat) (m : MM) : PR := pBd (pOp (mI m 54 0 (2068 + 4 * n + 3) (-1)) 11 (2068 + 4 * n + 1) 0 20) (maC n)
def maA2 (n : Nat) (m : MM) : PR := pBd (pNu m (2068 + 4 * n) 0 999) (maB n)
def maA (n : Nat) (m : MM) : PR := pBd (pWW m 10) (maA2 n)
def pMa (m : MM) : PR := pBd (pNw m 1 4 4) (maA (m.1 54 0 2041).toNatClampNeg)

--tpl ⟨_, _, _, (by assumption), rfl⟩ || bI ((pMa {m}).1 = true) || (pMa {m}).2
def Pre_X12_aMaid : PreT := fun m as => ∃ ns nm nt, PJ m ns nm nt ∧ as = [vR 12 0]
def Fn_X12_aMaid : FnT := fun m _ => (some (vI (bI ((pMa m).1 = true))), (pMa m).2)
abbrev y_X12_aMaid : MethodName := ⟨"GivenUpModel", "aMaid", "()Z"⟩
def P_X12_aMaid : List StpT := [s_aload 0, s_getR 12 0 54, s_ic (2041), s_iald, s_istore 1, s_ic (2068), s_ic (4), s_iload 1, s_imul, s_iadd, s_istore 2, s_aload 0, s_ic (1), s_ic (4), s_ic (4), s_callV 12 3 Pre_X12_newOne Fn_X12_newOne, s_ifeq 28, s_aload 0, s_ldS 1, s_ic (10), s_callV 12 2 Pre_X12_wantWord Fn_X12_wantWord, s_ifeq 28, s_aload 0, s_iload 2, s_ic (0), s_ic (999), s_callV 12 3 Pre_X12_number Fn_X12_number, s_ifne 30, s_ic (0), s_zret, s_aload 0, s_getR 12 0 54, s_iload 2, s_ic (3), s_iadd, s_ic (-1), s_iast, s_aload 0, s_ic (11), s_callV 12 1 Pre_X12_isThere Fn_X12_isThere, s_ifeq 49, s_aload 0, s_iload 2, s_ic (1), s_iadd, s_ic (0), s_ic (20), s_callV 12 3 Pre_X12_number Fn_X12_number, s_ifeq 61, s_aload 0, s_ic (12), s_callV 12 1 Pre_X12_isThere Fn_X12_isThere, s_ifeq 63, s_aload 0, s_iload 2, s_ic (2), s_iadd, s_ic (0), s_ic (9), s_callV 12 3 Pre_X12_number Fn_X12_number, s_ifne 63, s_ic (0), s_zret, s_ic (0), s_istore 3, s_iload 3, s_aload 0, s_getR 12 0 54, s_ic (2042), s_iald, s_icge 93, s_aload 0, s_getR 12 0 54, s_ic (2120), s_ic (4), s_iload 3, s_imul, s_iadd, s_iload 1, s_iadd, s_aload 0, s_getR 12 0 54, s_ic (2084), s_ic (3), s_iload 3, s_imul, s_iadd, s_ic (1), s_iadd, s_iald, s_iast, s_iinc 3 (1), s_goto 65, s_aload 0, s_getR 12 0 54, s_ic (2041), s_dup2, s_iald, s_ic (1), s_iadd, s_iast, s_ic (1), s_zret]
def pc_X12_aMaid : Nat → Nat := fun i => [0, 1, 4, 7, 8, 9, 12, 13, 14, 15, 16, 17, 18, 19, 20, 21, 24, 27, 28, 30, 32, 35, 38, 39, 40, 41, 44, 47, 50, 51, 52, 53, 56, 57, 58, 59, 60, 61, 62, 64, 67, 70, 71, 72, 73, 74, 75, 77, 80, 83, 84, 86, 89, 92, 93, 94, 95, 96, 97, 99, 102, 105, 106, 107, 108, 109, 110, 111, 114, 117, 118, 121, 122, 125, 128, 129, 130, 131, 132, 133, 134, 135, 138, 141, 142, 143, 144, 145, 146, 147, 148, 149, 152, 155, 156, 159, 162, 163, 164, 165, 166, 167, 168].getD i 0
def dl_X12_aMaid : List (Nat × Instr × Nat) := [(0, .aload_n 0, 1), (1, .getfield 7, 3), (4, .sipush 2041, 3), (7, .iaload, 1), (8, .istore_n 1, 1), (9, .sipush 2068, 3), (12, .iconst 4, 1), (13, .iload_n 1, 1), (14, .imul, 1), (15, .iadd, 1), (16, .istore_n 2, 1), (17, .aload_n 0, 1), (18, .iconst 1, 1), (19, .iconst 4, 1), (20, .iconst 4, 1), (21, .invokevirtual 189, 3), (24, .ifCond .eq 26, 3), (27, .aload_n 0, 1), (28, .ldc 180, 2), (30, .bipush 10, 2), (32, .invokevirtual 199, 3), (35, .ifCond .eq 15, 3), (38, .aload_n 0, 1), (39, .iload_n 2, 1), (40, .iconst 0, 1), (41, .sipush 999, 3), (44, .invokevirtual 196, 3), (47, .ifCond .ne 5, 3), (50, .iconst 0, 1), (51, .ireturn, 1), (52, .aload_n 0, 1), (53, .getfield 7, 3), (56, .iload_n 2, 1), (57, .iconst 3, 1), (58, .iadd, 1), (59, .iconst (-1), 1), (60, .iastore, 1), (61, .aload_n 0, 1), (62, .bipush 11, 2), (64, .invokevirtual 193, 3), (67, .ifCond .eq 16, 3), (70, .aload_n 0, 1), (71, .iload_n 2, 1), (72, .iconst 1, 1), (73, .iadd, 1), (74, .iconst 0, 1), (75, .bipush 20, 2), (77, .invokevirtual 196, 3), (80, .ifCond .eq 25, 3), (83, .aload_n 0, 1), (84, .bipush 12, 2), (86, .invokevirtual 193, 3), (89, .ifCond .eq 18, 3), (92, .aload_n 0, 1), (93, .iload_n 2, 1), (94, .iconst 2, 1), (95, .iadd, 1), (96, .iconst 0, 1), (97, .bipush 9, 2), (99, .invokevirtual 196, 3), (102, .ifCond .ne 5, 3), (105, .iconst 0, 1), (106, .ireturn, 1), (107, .iconst 0, 1), (108, .istore_n 3, 1), (109, .iload_n 3, 1), (110, .aload_n 0, 1), (111, .getfield 7, 3), (114, .sipush 2042, 3), (117, .iaload, 1), (118, .if_icmp .ge 37, 3), (121, .aload_n 0, 1), (122, .getfield 7, 3), (125, .sipush 2120, 3), (128, .iconst 4, 1), (129, .iload_n 3, 1), (130, .imul, 1), (131, .iadd, 1), (132, .iload_n 1, 1), (133, .iadd, 1), (134, .aload_n 0, 1), (135, .getfield 7, 3), (138, .sipush 2084, 3), (141, .iconst 3, 1), (142, .iload_n 3, 1), (143, .imul, 1), (144, .iadd, 1), (145, .iconst 1, 1), (146, .iadd, 1), (147, .iaload, 1), (148, .iastore, 1), (149, .iinc 3 1, 3), (152, .goto (-43), 3), (155, .aload_n 0, 1), (156, .getfield 7, 3), (159, .sipush 2041, 3), (162, .dup2, 1), (163, .iaload, 1), (164, .iconst 1, 1), (165, .iadd, 1), (166, .iastore, 1), (167, .iconst 1, 1), (168, .ireturn, 1)]
theorem dc_X12_aMaid : DEC prog_14_method_42_code pc_X12_aMaid dl_X12_aMaid := DEC_of (by decide +kernel)
abbrev rm_X12_aMaid : Room := { frames := 8, cells := 0, slots := 0, locals := 176 }
set_option maxRecDepth 20000 in
theorem sa_X12_aMaid (l : Launch) : SNDALL l prog_14_method_42_code "GivenUpModel" 4 (some .boolean) rm_X12_aMaid P_X12_aMaid pc_X12_aMaid := fun p e s m args below meth c cells slots Q D dA ad A RR hC hR => by
  have hM := RTX_room (R := rm_X12_aMaid) hR
  exact ⟨st_aload_n hC (n := 0) (k := 0) (dc_X12_aMaid 0 (0, .aload_n 0, 1) rfl rfl) rfl rfl,
    st_getR hC (n := 1) (k := 12) (j := 0) (dc_X12_aMaid 1 (1, .getfield 7, 3) rfl rfl) rfl clf_12 (by decide) rfl (by decide) wd_1552,
    st_sipush hC (n := 2) (x := 2041) (dc_X12_aMaid 2 (4, .sipush 2041, 3) rfl rfl) rfl (by decide),
    st_iald hC (n := 3) (dc_X12_aMaid 3 (7, .iaload, 1) rfl rfl) rfl,
    st_istore_n hC (n := 4) (k := 1) (dc_X12_aMaid 4 (8, .istore_n 1, 1) rfl rfl) rfl rfl (by decide),
    st_sipush hC (n := 5) (x := 2068) (dc_X12_aMaid 5 (9, .sipush 2068, 3) rfl rfl) rfl (by decide),
    st_iconst hC (n := 6) (x := 4) (dc_X12_aMaid 6 (12, .iconst 4, 1) rfl rfl) rfl (by decide),
    st_iload_n hC (n := 7) (k := 1) (dc_X12_aMaid 7 (13, .iload_n 1, 1) rfl rfl) rfl rfl,
    st_imul hC (n := 8) (dc_X12_aMaid 8 (14, .imul, 1) rfl rfl) rfl,
    st_iadd hC (n := 9) (dc_X12_aMaid 9 (15, .iadd, 1) rfl rfl) rfl,
    st_istore_n hC (n := 10) (k := 2) (dc_X12_aMaid 10 (16, .istore_n 2, 1) rfl rfl) rfl rfl (by decide),
    st_aload_n hC (n := 11) (k := 0) (dc_X12_aMaid 11 (17, .aload_n 0, 1) rfl rfl) rfl rfl,
    st_iconst hC (n := 12) (x := 1) (dc_X12_aMaid 12 (18, .iconst 1, 1) rfl rfl) rfl (by decide),
    st_iconst hC (n := 13) (x := 4) (dc_X12_aMaid 13 (19, .iconst 4, 1) rfl rfl) rfl (by decide),
    st_iconst hC (n := 14) (x := 4) (dc_X12_aMaid 14 (20, .iconst 4, 1) rfl rfl) rfl (by decide),
    st_callV hC (n := 15) (k := 12) (na := 3) (con_X12_newOne l) (dc_X12_aMaid 15 (21, .invokevirtual 189, 3) rfl rfl) rfl wd_1777 wd_160 (by decide) ⟨rfl, rfl, by decide, by decide⟩ hM wd_1774 wd_1776 wd_61 clf_12,
    st_ifeq hC (n := 16) (dc_X12_aMaid 16 (24, .ifCond .eq 26, 3) rfl rfl) rfl (by decide),
    st_aload_n hC (n := 17) (k := 0) (dc_X12_aMaid 17 (27, .aload_n 0, 1) rfl rfl) rfl rfl,
    st_ldS1 hC (n := 18) (dc_X12_aMaid 18 (28, .ldc 180, 2) rfl rfl) rfl rfl,
    st_bipush hC (n := 19) (x := 10) (dc_X12_aMaid 19 (30, .bipush 10, 2) rfl rfl) rfl (by decide),
    st_callV hC (n := 20) (k := 12) (na := 2) (con_X12_wantWord l) (dc_X12_aMaid 20 (32, .invokevirtual 199, 3) rfl rfl) rfl wd_1809 wd_160 (by decide) ⟨rfl, rfl, by decide, by decide⟩ hM wd_1806 wd_1808 wd_69 clf_12,
    st_ifeq hC (n := 21) (dc_X12_aMaid 21 (35, .ifCond .eq 15, 3) rfl rfl) rfl (by decide),
    st_aload_n hC (n := 22) (k := 0) (dc_X12_aMaid 22 (38, .aload_n 0, 1) rfl rfl) rfl rfl,
    st_iload_n hC (n := 23) (k := 2) (dc_X12_aMaid 23 (39, .iload_n 2, 1) rfl rfl) rfl rfl,
    st_iconst hC (n := 24) (x := 0) (dc_X12_aMaid 24 (40, .iconst 0, 1) rfl rfl) rfl (by decide),
    st_sipush hC (n := 25) (x := 999) (dc_X12_aMaid 25 (41, .sipush 999, 3) rfl rfl) rfl (by decide),
    st_callV hC (n := 26) (k := 12) (na := 3) (con_X12_number l) (dc_X12_aMaid 26 (44, .invokevirtual 196, 3) rfl rfl) rfl wd_1801 wd_160 (by decide) ⟨rfl, rfl, by decide, by decide⟩ hM wd_1798 wd_1800 wd_67 clf_12,
    st_ifne hC (n := 27) (dc_X12_aMaid 27 (47, .ifCond .ne 5, 3) rfl rfl) rfl (by decide),
    st_iconst hC (n := 28) (x := 0) (dc_X12_aMaid 28 (50, .iconst 0, 1) rfl rfl) rfl (by decide),
    st_zret hC (n := 29) hR (dc_X12_aMaid 29 (51, .ireturn, 1) rfl rfl),
    st_aload_n hC (n := 30) (k := 0) (dc_X12_aMaid 30 (52, .aload_n 0, 1) rfl rfl) rfl rfl,
    st_getR hC (n := 31) (k := 12) (j := 0) (dc_X12_aMaid 31 (53, .getfield 7, 3) rfl rfl) rfl clf_12 (by decide) rfl (by decide) wd_1552,
    st_iload_n hC (n := 32) (k := 2) (dc_X12_aMaid 32 (56, .iload_n 2, 1) rfl rfl) rfl rfl,
    st_iconst hC (n := 33) (x := 3) (dc_X12_aMaid 33 (57, .iconst 3, 1) rfl rfl) rfl (by decide),
    st_iadd hC (n := 34) (dc_X12_aMaid 34 (58, .iadd, 1) rfl rfl) rfl,
    st_iconst hC (n := 35) (x := (-1)) (dc_X12_aMaid 35 (59, .iconst (-1), 1) rfl rfl) rfl (by decide),
    st_iast hC (n := 36) (dc_X12_aMaid 36 (60, .iastore, 1) rfl rfl) rfl,
    st_aload_n hC (n := 37) (k := 0) (dc_X12_aMaid 37 (61, .aload_n 0, 1) rfl rfl) rfl rfl,
    st_bipush hC (n := 38) (x := 11) (dc_X12_aMaid 38 (62, .bipush 11, 2) rfl rfl) rfl (by decide),
    st_callV hC (n := 39) (k := 12) (na := 1) (con_X12_isThere l) (dc_X12_aMaid 39 (64, .invokevirtual 193, 3) rfl rfl) rfl wd_1797 wd_160 (by decide) ⟨rfl, rfl, by decide, by decide⟩ hM wd_1794 wd_1796 wd_66 clf_12,
    st_ifeq hC (n := 40) (dc_X12_aMaid 40 (67, .ifCond .eq 16, 3) rfl rfl) rfl (by decide),
    st_aload_n hC (n := 41) (k := 0) (dc_X12_aMaid 41 (70, .aload_n 0, 1) rfl rfl) rfl rfl,
    st_iload_n hC (n := 42) (k := 2) (dc_X12_aMaid 42 (71, .iload_n 2, 1) rfl rfl) rfl rfl,
    st_iconst hC (n := 43) (x := 1) (dc_X12_aMaid 43 (72, .iconst 1, 1) rfl rfl) rfl (by decide),
    st_iadd hC (n := 44) (dc_X12_aMaid 44 (73, .iadd, 1) rfl rfl) rfl,
    st_iconst hC (n := 45) (x := 0) (dc_X12_aMaid 45 (74, .iconst 0, 1) rfl rfl) rfl (by decide),
    st_bipush hC (n := 46) (x := 20) (dc_X12_aMaid 46 (75, .bipush 20, 2) rfl rfl) rfl (by decide),
    st_callV hC (n := 47) (k := 12) (na := 3) (con_X12_number l) (dc_X12_aMaid 47 (77, .invokevirtual 196, 3) rfl rfl) rfl wd_1801 wd_160 (by decide) ⟨rfl, rfl, by decide, by decide⟩ hM wd_1798 wd_1800 wd_67 clf_12,
    st_ifeq hC (n := 48) (dc_X12_aMaid 48 (80, .ifCond .eq 25, 3) rfl rfl) rfl (by decide),
    st_aload_n hC (n := 49) (k := 0) (dc_X12_aMaid 49 (83, .aload_n 0, 1) rfl rfl) rfl rfl,
    st_bipush hC (n := 50) (x := 12) (dc_X12_aMaid 50 (84, .bipush 12, 2) rfl rfl) rfl (by decide),
    st_callV hC (n := 51) (k := 12) (na := 1) (con_X12_isThere l) (dc_X12_aMaid 51 (86, .invokevirtual 193, 3) rfl rfl) rfl wd_1797 wd_160 (by decide) ⟨rfl, rfl, by decide, by decide⟩ hM wd_1794 wd_1796 wd_66 clf_12,
    st_ifeq hC (n := 52) (dc_X12_aMaid 52 (89, .ifCond .eq 18, 3) rfl rfl) rfl (by decide),
    st_aload_n hC (n := 53) (k := 0) (dc_X12_aMaid 53 (92, .aload_n 0, 1) rfl rfl) rfl rfl,
    st_iload_n hC (n := 54) (k := 2) (dc_X12_aMaid 54 (93, .iload_n 2, 1) rfl rfl) rfl rfl,
    st_iconst hC (n := 55) (x := 2) (dc_X12_aMaid 55 (94, .iconst 2, 1) rfl rfl) rfl (by decide),
    st_iadd hC (n := 56) (dc_X12_aMaid 56 (95, .iadd, 1) rfl rfl) rfl,
    st_iconst hC (n := 57) (x := 0) (dc_X12_aMaid 57 (96, .iconst 0, 1) rfl rfl) rfl (by decide),
    st_bipush hC (n := 58) (x := 9) (dc_X12_aMaid 58 (97, .bipush 9, 2) rfl rfl) rfl (by decide),
    st_callV hC (n := 59) (k := 12) (na := 3) (con_X12_number l) (dc_X12_aMaid 59 (99, .invokevirtual 196, 3) rfl rfl) rfl wd_1801 wd_160 (by decide) ⟨rfl, rfl, by decide, by decide⟩ hM wd_1798 wd_1800 wd_67 clf_12,
    st_ifne hC (n := 60) (dc_X12_aMaid 60 (102, .ifCond .ne 5, 3) rfl rfl) rfl (by decide),
    st_iconst hC (n := 61) (x := 0) (dc_X12_aMaid 61 (105, .iconst 0, 1) rfl rfl) rfl (by decide),
    st_zret hC (n := 62) hR (dc_X12_aMaid 62 (106, .ireturn, 1) rfl rfl),
    st_iconst hC (n := 63) (x := 0) (dc_X12_aMaid 63 (107, .iconst 0, 1) rfl rfl) rfl (by decide),
    st_istore_n hC (n := 64) (k := 3) (dc_X12_aMaid 64 (108, .istore_n 3, 1) rfl rfl) rfl rfl (by decide),
    st_iload_n hC (n := 65) (k := 3) (dc_X12_aMaid 65 (109, .iload_n 3, 1) rfl rfl) rfl rfl,
    st_aload_n hC (n := 66) (k := 0) (dc_X12_aMaid 66 (110, .aload_n 0, 1) rfl rfl) rfl rfl,
    st_getR hC (n := 67) (k := 12) (j := 0) (dc_X12_aMaid 67 (111, .getfield 7, 3) rfl rfl) rfl clf_12 (by decide) rfl (by decide) wd_1552,
    st_sipush hC (n := 68) (x := 2042) (dc_X12_aMaid 68 (114, .sipush 2042, 3) rfl rfl) rfl (by decide),
    st_iald hC (n := 69) (dc_X12_aMaid 69 (117, .iaload, 1) rfl rfl) rfl,
    st_icge hC (n := 70) (dc_X12_aMaid 70 (118, .if_icmp .ge 37, 3) rfl rfl) rfl (by decide),
    st_aload_n hC (n := 71) (k := 0) (dc_X12_aMaid 71 (121, .aload_n 0, 1) rfl rfl) rfl rfl,
    st_getR hC (n := 72) (k := 12) (j := 0) (dc_X12_aMaid 72 (122, .getfield 7, 3) rfl rfl) rfl clf_12 (by decide) rfl (by decide) wd_1552,
    st_sipush hC (n := 73) (x := 2120) (dc_X12_aMaid 73 (125, .sipush 2120, 3) rfl rfl) rfl (by decide),
    st_iconst hC (n := 74) (x := 4) (dc_X12_aMaid 74 (128, .iconst 4, 1) rfl rfl) rfl (by decide),
    st_iload_n hC (n := 75) (k := 3) (dc_X12_aMaid 75 (129, .iload_n 3, 1) rfl rfl) rfl rfl,
    st_imul hC (n := 76) (dc_X12_aMaid 76 (130, .imul, 1) rfl rfl) rfl,
    st_iadd hC (n := 77) (dc_X12_aMaid 77 (131, .iadd, 1) rfl rfl) rfl,
    st_iload_n hC (n := 78) (k := 1) (dc_X12_aMaid 78 (132, .iload_n 1, 1) rfl rfl) rfl rfl,
    st_iadd hC (n := 79) (dc_X12_aMaid 79 (133, .iadd, 1) rfl rfl) rfl,
    st_aload_n hC (n := 80) (k := 0) (dc_X12_aMaid 80 (134, .aload_n 0, 1) rfl rfl) rfl rfl,
    st_getR hC (n := 81) (k := 12) (j := 0) (dc_X12_aMaid 81 (135, .getfield 7, 3) rfl rfl) rfl clf_12 (by decide) rfl (by decide) wd_1552,
    st_sipush hC (n := 82) (x := 2084) (dc_X12_aMaid 82 (138, .sipush 2084, 3) rfl rfl) rfl (by decide),
    st_iconst hC (n := 83) (x := 3) (dc_X12_aMaid 83 (141, .iconst 3, 1) rfl rfl) rfl (by decide),
    st_iload_n hC (n := 84) (k := 3) (dc_X12_aMaid 84 (142, .iload_n 3, 1) rfl rfl) rfl rfl,
    st_imul hC (n := 85) (dc_X12_aMaid 85 (143, .imul, 1) rfl rfl) rfl,
    st_iadd hC (n := 86) (dc_X12_aMaid 86 (144, .iadd, 1) rfl rfl) rfl,
    st_iconst hC (n := 87) (x := 1) (dc_X12_aMaid 87 (145, .iconst 1, 1) rfl rfl) rfl (by decide),
    st_iadd hC (n := 88) (dc_X12_aMaid 88 (146, .iadd, 1) rfl rfl) rfl,
    st_iald hC (n := 89) (dc_X12_aMaid 89 (147, .iaload, 1) rfl rfl) rfl,
    st_iast hC (n := 90) (dc_X12_aMaid 90 (148, .iastore, 1) rfl rfl) rfl,
    st_iinc hC (n := 91) (x := 1) (dc_X12_aMaid 91 (149, .iinc 3 1, 3) rfl rfl) rfl (by decide) (by decide),
    st_goto hC (n := 92) (dc_X12_aMaid 92 (152, .goto (-43), 3) rfl rfl) (by decide),
    st_aload_n hC (n := 93) (k := 0) (dc_X12_aMaid 93 (155, .aload_n 0, 1) rfl rfl) rfl rfl,
    st_getR hC (n := 94) (k := 12) (j := 0) (dc_X12_aMaid 94 (156, .getfield 7, 3) rfl rfl) rfl clf_12 (by decide) rfl (by decide) wd_1552,
    st_sipush hC (n := 95) (x := 2041) (dc_X12_aMaid 95 (159, .sipush 2041, 3) rfl rfl) rfl (by decide),
    st_dup2 hC (n := 96) (dc_X12_aMaid 96 (162, .dup2, 1) rfl rfl) rfl,
    st_iald hC (n := 97) (dc_X12_aMaid 97 (163, .iaload, 1) rfl rfl) rfl,
    st_iconst hC (n := 98) (x := 1) (dc_X12_aMaid 98 (164, .iconst 1, 1) rfl rfl) rfl (by decide),
    st_iadd hC (n := 99) (dc_X12_aMaid 99 (165, .iadd, 1) rfl rfl) rfl,
    st_iast hC (n := 100) (dc_X12_aMaid 100 (166, .iastore, 1) rfl rfl) rfl,
    st_iconst hC (n := 101) (x := 1) (dc_X12_aMaid 101 (167, .iconst 1, 1) rfl rfl) rfl (by decide),
    st_zret hC (n := 102) hR (dc_X12_aMaid 102 (168, .ireturn, 1) rfl rfl), trivial⟩
set_option maxRecDepth 8000 in
theorem vc_X12_aMaid : VC P_X12_aMaid 4 Pre_X12_aMaid Fn_X12_aMaid := by
  rintro mm as hom hoa ⟨ns, n, nt, hJ, rfl⟩
  refine ⟨Nat.le_of_ble_eq_true rfl, fun X h => ?_⟩
  have h1 : mm.1 54 0 2041 = nI n := hJ.2.2.1.1
  have hn4 : n ≤ 4 := hJ.2.2.1.2
  have hnt : nt ≤ 12 := hJ.2.2.2.2
  obtain ⟨s, hs⟩ : ∃ s, s = 2068 + 4 * n := ⟨_, rfl⟩
  have es : (nI s).toNatClampNeg = s := nI_clamp (by omega)
  have es1 : (nI s + 1).toNatClampNeg = s + 1 := by rw [nI_1]; exact nI_clamp (by omega)
  have es2 : (nI s + 2).toNatClampNeg = s + 2 := by rw [show (2 : Int32) = nI 2 from rfl, nI_add]; exact nI_clamp (by omega)
  have es3 : (nI s + 3).toNatClampNeg = s + 3 := by rw [show (3 : Int32) = nI 3 from rfl, nI_add]; exact nI_clamp (by omega)
  have eS : 2068 + 4 * nI n = nI s := by rw [hs]; simp (disch := omega) only [li, pk_mul, nI_add, nI_clamp]
  replace h : RUN P_X12_aMaid (RT (pMa mm)) X := h
  have hp : pMa mm = pBd (pNw mm 1 4 4) (maA n) := by unfold pMa; rw [h1, nI_clamp (by omega)]
  rw [hp] at h
  clear hp
  have fin : ∀ M p, PJ M ns n nt → p = maD n M → n < 4 → RUN P_X12_aMaid (RT p) X → X 63 [some (vR 12 0), some (vI (nI n)), some (vI (nI s)), none] [] (M) := by
    intro M p hM hp hlt h
    have h2 : M.1 54 0 2042 = nI nt := hM.2.2.2.1
    unfold maD maE at hp
    rw [h2, nI_clamp (by omega)] at hp
    have loop : ∀ t, t ≤ nt → X 65 [some (vR 12 0), some (vI (nI n)), some (vI (nI s)), some (vI (nI t))] [] (mRow M 54 0 (mtR (M.1 54 0) n t)) := by
      refine up_ind nt ?_ (fun t ht ih => ?_)
      · have e2 : mtR (M.1 54 0) n nt 2042 = nI nt := by rw [mtR_lo _ _ _ _ (by decide)]; exact h2
        show X 65 [some (vR 12 0), some (vI (nI n)), some (vI (nI s)), some (vI (nI nt))] [] (mRow M 54 0 (mtR (M.1 54 0) n nt))
        refine h (fun _ => false) 3000 65 _ _ _ ?_
        refine And.intro (show inb 2042 (alen 54) = true from rfl) ?_
        refine br_t (by show mtR (M.1 54 0) n nt 2042 ≤ nI nt; rw [e2]; exact Int32.le_refl _) ?_
        refine And.intro (show inb 2041 (alen 54) = true from rfl) ?_
        refine And.intro (show inb 2041 (alen 54) = true from rfl) ?_
        refine And.intro (Or.inr rfl) ?_
        show ((some (vI 1) : Option MV), mRow (mRow M 54 0 (mtR (M.1 54 0) n nt)) 54 0 (upd (mtR (M.1 54 0) n nt) 2041 (((mtR (M.1 54 0) n nt) 2041) + 1))) = _
        refine PR_t (hp.trans ?_)
        unfold mI 
        rfl
      · have e2 : mtR (M.1 54 0) n t 2042 = nI nt := by rw [mtR_lo _ _ _ _ (by decide)]; exact h2
        have ea : (2084 + 3 * nI t + 1).toNatClampNeg = 2085 + 3 * t := by simp (disch := omega) only [li, pk_mul, nI_add, nI_clamp]; omega
        have eb : (2120 + 4 * nI t + nI n).toNatClampNeg = 2120 + 4 * t + n := by simp (disch := omega) only [li, pk_mul, nI_add, nI_clamp]
        show X 65 [some (vR 12 0), some (vI (nI n)), some (vI (nI s)), some (vI (nI t))] [] (mRow M 54 0 (mtR (M.1 54 0) n t))
        refine h (fun i => Nat.beq i 65) 3000 65 _ _ _ ?_
        refine And.intro (show inb 2042 (alen 54) = true from rfl) ?_
        refine br_f (by show ¬ mtR (M.1 54 0) n t 2042 ≤ nI t; rw [e2]; exact nI_ge ht (by omega)) ?_
        refine And.intro (show inb ((2084 + (3 * (nI t))) + 1) (alen 54) = true from (inb_o 3060 rfl rfl (show (2084 + (3 * (nI t))) + 1 = nI ((2084 + (3 * ( t))) + 1) by simp (disch := omega) only [li, pk_mul, nI_add, nI_clamp]) (by omega))) ?_
        refine And.intro (show inb ((2120 + (4 * (nI t))) + (nI n)) (alen 54) = true from (inb_o 3060 rfl rfl (show (2120 + (4 * (nI t))) + (nI n) = nI ((2120 + (4 * ( t))) + ( n)) by simp (disch := omega) only [li, pk_mul, nI_add, nI_clamp]) (by omega))) ?_
        show X 65 [some (vR 12 0), some (vI (nI n)), some (vI (nI s)), some (vI ((nI t) + 1))] [] (mRow (mRow M 54 0 (mtR (M.1 54 0) n t)) 54 0 (upd (mtR (M.1 54 0) n t) ((2120 + (4 * (nI t))) + (nI n)).toNatClampNeg ((mtR (M.1 54 0) n t) (((2084 + (3 * (nI t))) + 1).toNatClampNeg))))
        rw [ea, eb, mRow2, nI_1]
        exact ih
    have l0 := loop 0 (by omega)
    have e0 : mRow M 54 0 (mtR (M.1 54 0) n 0) = M := mRow_self _ _ _
    rw [e0] at l0
    show X 63 [some (vR 12 0), some (vI (nI n)), some (vI (nI s)), none] [] M
    refine h (fun i => Nat.beq i 65) 3000 63 _ _ _ ?_
    show X 65 [some (vR 12 0), some (vI (nI n)), some (vI (nI s)), some (vI 0)] [] M
    exact l0
  have s4 : ∀ M p, PJ M ns n nt → p = maC n M → n < 4 → RUN P_X12_aMaid (RT p) X → X 49 [some (vR 12 0), some (vI (nI n)), some (vI (nI s)), none] [] (M) := by
    intro M p hM hp hlt h
    unfold maC at hp
    rw [← hs] at hp
    show X 49 [some (vR 12 0), some (vI (nI n)), some (vI (nI s)), none] [] M
    refine h (fun i => Nat.beq i 63) 3000 49 _ _ _ ?_
    refine And.intro (show Pre_X12_isThere M [vR 12 0, vI 12] from ⟨hM.1, _, rfl⟩) ?_
    refine br_c (fun b52 => ?_) (fun b52 => ?_)
    · -- 52: bI ((pTh M 12).1 = true) = 0 taken
      replace b52 : ¬ ((pTh M 12).1 = true) := bI_0.mp b52
      (try simp only [es2] at b52)
      show X 63 [some (vR 12 0), some (vI (nI n)), some (vI (nI s)), none] [] ((pTh M 12).2)
      (try simp only [es2])
      exact fin _ _ (PJ_th hM) (by rw [hp, pOp_f b52, pBd_t rfl]) hlt h
    · -- 52: bI ((pTh M 12).1 = true) = 0 on
      replace b52 : (pTh M 12).1 = true := bI_n0.mp b52
      (try simp only [es2] at b52)
      refine And.intro (show Pre_X12_number ((pTh M 12).2) [vR 12 0, vI ((nI s) + 2), vI 0, vI 9] from ⟨(PJ_th hM).1, s + 2, 0, 9, by omega, by rw [show (2 : Int32) = nI 2 from rfl, nI_add]⟩) ?_
      refine brn_c (fun b60 => ?_) (fun b60 => ?_)
      · -- 60: bI ((pNu ((pTh M 12).2) ((nI s) + 2).toNatClampNeg 0 9).1 = true) = 0 taken
        replace b60 : (pNu ((pTh M 12).2) ((nI s) + 2).toNatClampNeg 0 9).1 = true := bI_n0.mp b60
        (try simp only [es2] at b60)
        show X 63 [some (vR 12 0), some (vI (nI n)), some (vI (nI s)), none] [] ((pNu ((pTh M 12).2) ((nI s) + 2).toNatClampNeg 0 9).2)
        (try simp only [es2])
        exact fin _ _ (PJ_nu (PJ_th hM) (by omega)) (by rw [hp, pOp_t b52, pBd_t b60]) hlt h
      · -- 60: bI ((pNu ((pTh M 12).2) ((nI s) + 2).toNatClampNeg 0 9).1 = true) = 0 on
        replace b60 : ¬ ((pNu ((pTh M 12).2) ((nI s) + 2).toNatClampNeg 0 9).1 = true) := bI_0.mp b60
        (try simp only [es2] at b60)
        refine And.intro (Or.inl rfl) ?_
        show ((some (vI 0) : Option MV), (pNu ((pTh M 12).2) ((nI s) + 2).toNatClampNeg 0 9).2) = _
        (try simp only [es2])
        exact PR_f (by rw [hp, pOp_t b52, pBd_f b60])
  have s3 : ∀ M p, PJ M ns n nt → p = pBd (pOp M 11 (s + 1) 0 20) (maC n) → n < 4 → RUN P_X12_aMaid (RT p) X → X 37 [some (vR 12 0), some (vI (nI n)), some (vI (nI s)), none] [] (M) := by
    intro M p hM hp hlt h
    show X 37 [some (vR 12 0), some (vI (nI n)), some (vI (nI s)), none] [] M
    refine h (fun i => Nat.beq i 49) 3000 37 _ _ _ ?_
    refine And.intro (show Pre_X12_isThere M [vR 12 0, vI 11] from ⟨hM.1, _, rfl⟩) ?_
    refine br_c (fun b40 => ?_) (fun b40 => ?_)
    · -- 40: bI ((pTh M 11).1 = true) = 0 taken
      replace b40 : ¬ ((pTh M 11).1 = true) := bI_0.mp b40
      (try simp only [es1] at b40)
      show X 49 [some (vR 12 0), some (vI (nI n)), some (vI (nI s)), none] [] ((pTh M 11).2)
      (try simp only [es1])
      exact s4 _ _ (PJ_th hM) (by rw [hp, pOp_f b40, pBd_t rfl]) hlt h
    · -- 40: bI ((pTh M 11).1 = true) = 0 on
      replace b40 : (pTh M 11).1 = true := bI_n0.mp b40
      (try simp only [es1] at b40)
      refine And.intro (show Pre_X12_number ((pTh M 11).2) [vR 12 0, vI ((nI s) + 1), vI 0, vI 20] from ⟨(PJ_th hM).1, s + 1, 0, 20, by omega, by rw [nI_1]⟩) ?_
      refine br_c (fun b48 => ?_) (fun b48 => ?_)
      · -- 48: bI ((pNu ((pTh M 11).2) ((nI s) + 1).toNatClampNeg 0 20).1 = true) = 0 taken
        replace b48 : ¬ ((pNu ((pTh M 11).2) ((nI s) + 1).toNatClampNeg 0 20).1 = true) := bI_0.mp b48
        (try simp only [es1] at b48)
        refine And.intro (Or.inl rfl) ?_
        show ((some (vI 0) : Option MV), (pNu ((pTh M 11).2) ((nI s) + 1).toNatClampNeg 0 20).2) = _
        (try simp only [es1])
        exact PR_f (by rw [hp, pOp_t b40, pBd_f b48])
      · -- 48: bI ((pNu ((pTh M 11).2) ((nI s) + 1).toNatClampNeg 0 20).1 = true) = 0 on
        replace b48 : (pNu ((pTh M 11).2) ((nI s) + 1).toNatClampNeg 0 20).1 = true := bI_n0.mp b48
        (try simp only [es1] at b48)
        show X 49 [some (vR 12 0), some (vI (nI n)), some (vI (nI s)), none] [] ((pNu ((pTh M 11).2) ((nI s) + 1).toNatClampNeg 0 20).2)
        (try simp only [es1])
        exact s4 _ _ (PJ_nu (PJ_th hM) (by omega)) (by rw [hp, pOp_t b40, pBd_t b48]) hlt h
  have s2 : ∀ M p, PJ M ns n nt → p = maA n M → n < 4 → RUN P_X12_aMaid (RT p) X → X 17 [some (vR 12 0), some (vI (nI n)), some (vI (nI s)), none] [] (M) := by
    intro M p hM hp hlt h
    unfold maA maA2 maB at hp
    rw [← hs] at hp
    show X 17 [some (vR 12 0), some (vI (nI n)), some (vI (nI s)), none] [] M
    refine h (fun i => Nat.beq i 37) 3000 17 _ _ _ ?_
    refine And.intro (show Pre_X12_wantWord M [vR 12 0, vR 72 1, vI 10] from ⟨hM.1, _, rfl⟩) ?_
    refine br_c (fun b21 => ?_) (fun b21 => ?_)
    · -- 21: bI ((pWW M 10).1 = true) = 0 taken
      replace b21 : ¬ ((pWW M 10).1 = true) := bI_0.mp b21
      (try simp only [es] at b21)
      refine And.intro (Or.inl rfl) ?_
      show ((some (vI 0) : Option MV), (pWW M 10).2) = _
      (try simp only [es])
      exact PR_f (by rw [hp, pBd_f b21])
    · -- 21: bI ((pWW M 10).1 = true) = 0 on
      replace b21 : (pWW M 10).1 = true := bI_n0.mp b21
      (try simp only [es] at b21)
      refine And.intro (show Pre_X12_number ((pWW M 10).2) [vR 12 0, vI (nI s), vI 0, vI 999] from ⟨(PJ_ww hM).1, s, 0, 999, by omega, rfl⟩) ?_
      refine brn_c (fun b27 => ?_) (fun b27 => ?_)
      · -- 27: bI ((pNu ((pWW M 10).2) (nI s).toNatClampNeg 0 999).1 = true) = 0 taken
        replace b27 : (pNu ((pWW M 10).2) (nI s).toNatClampNeg 0 999).1 = true := bI_n0.mp b27
        (try simp only [es] at b27)
        refine And.intro (show inb ((nI s) + 3) (alen 54) = true from (inb_o 3060 rfl rfl (show nI s + 3 = nI (s + 3) by simp (disch := omega) only [li, pk_mul, nI_add, nI_clamp]) (by omega))) ?_
        show X 37 [some (vR 12 0), some (vI (nI n)), some (vI (nI s)), none] [] (mRow ((pNu ((pWW M 10).2) (nI s).toNatClampNeg 0 999).2) 54 0 (upd (((pNu ((pWW M 10).2) (nI s).toNatClampNeg 0 999).2).1 54 0) ((nI s) + 3).toNatClampNeg (-1)))
        (try simp only [es])
        rw [es3]
        exact s3 _ _ (PJ_at (PJ_nu (PJ_ww hM) (by omega)) (by omega)) (by rw [hp, pBd_t b21, pBd_t b27]) hlt h
      · -- 27: bI ((pNu ((pWW M 10).2) (nI s).toNatClampNeg 0 999).1 = true) = 0 on
        replace b27 : ¬ ((pNu ((pWW M 10).2) (nI s).toNatClampNeg 0 999).1 = true) := bI_0.mp b27
        (try simp only [es] at b27)
        refine And.intro (Or.inl rfl) ?_
        show ((some (vI 0) : Option MV), (pNu ((pWW M 10).2) (nI s).toNatClampNeg 0 999).2) = _
        (try simp only [es])
        exact PR_f (by rw [hp, pBd_t b21, pBd_f b27])
  suffices z : X 11 [some (vR 12 0), some (vI (nI n)), some (vI (nI s)), none] [] mm by
    show X 0 [some (vR 12 0), none, none, none] [] mm
    refine h (fun i => Nat.beq i 11) 3000 0 _ _ _ ?_
    refine And.intro (show inb 2041 (alen 54) = true from rfl) ?_
    show X 11 [some (vR 12 0), some (vI (mm.1 54 0 2041)), some (vI (2068 + (4 * (mm.1 54 0 2041)))), none] [] mm
    rw [h1, eS]
    exact z
  show X 11 [some (vR 12 0), some (vI (nI n)), some (vI (nI s)), none] [] mm
  refine h (fun i => Nat.beq i 17) 3000 11 _ _ _ ?_
  refine And.intro (show Pre_X12_newOne mm [vR 12 0, vI 1, vI 4, vI 4] from ⟨hJ.1, PJ_cn hJ, Or.inr (Or.inl rfl)⟩) ?_
  refine br_c (fun b16 => ?_) (fun b16 => ?_)
  · -- 16: bI ((pNw mm 1 4 4).1 = true) = 0 taken
    replace b16 : ¬ ((pNw mm 1 4 4).1 = true) := bI_0.mp b16
    refine And.intro (Or.inl rfl) ?_
    show ((some (vI 0) : Option MV), (pNw mm 1 4 4).2) = _
    exact PR_f (pBd_f b16)
  · -- 16: bI ((pNw mm 1 4 4).1 = true) = 0 on
    replace b16 : (pNw mm 1 4 4).1 = true := bI_n0.mp b16
    show X 17 [some (vR 12 0), some (vI (nI n)), some (vI (nI s)), none] [] ((pNw mm 1 4 4).2)
    refine s2 _ _ (PJ_nw hJ) (pBd_t b16) ?_ h
    exact pNw_lt (q := 1) (c := n) (t := 4) h1 hn4 (by decide) b16
theorem con_X12_aMaid (l : Launch) : CON l y_X12_aMaid prog_14_method_42_code 4 (some .boolean) rm_X12_aMaid Pre_X12_aMaid Fn_X12_aMaid := CON_of (by decide) rfl rfl (sa_X12_aMaid l) vc_X12_aMaid
def thR (f : Nat → Int32) (n : Nat) : Nat → (Nat → Int32)
  | 0 => f
  | q + 1 => upd (thR f n q) (2120 + 4 * n + q) (thR f n q (2085 + 3 * n))
theorem thR_lo (f : Nat → Int32) (n : Nat) : ∀ q j, j < 2120 → thR f n q j = f j
  | 0, _, _ => rfl
  | q + 1, j, h => by
    rw [thR, upd_ne (by omega)]
    exact thR_lo f n q j h
def tgE (m : MM) (f : Nat → Int32) : MM := mI (mRow m 54 0 f) 54 0 2042 (f 2042 + 1)
def tgD (n : Nat) (m : MM) : PR := (true, tgE m (thR (m.1 54 0) n 4))
def tgC (n : Nat) (m : MM) : PR := pBd (pNu m (2084 + 3 * n + 1) 0 99) (tgD n)
def tgB2 (n : Nat) (m : MM) : PR := pBd (pWW m 14) (tgC n)
def tgB (n : Nat) (m : MM) : PR := pBd (pOl m 80 (m.1 54 0 2040).toNatClampNeg (2084 + 3 * n)) (tgB2 n)
def tgA (n : Nat) (m : MM) : PR := pBd (pWW m 13) (tgB n)
def pTg (m : MM) : PR := pBd (pNw m 2 12 8) (tgA (m.1 54 0 2042).toNatClampNeg)

--tpl ⟨_, _, _, (by assumption), rfl⟩ || bI ((pTg {m}).1 = true) || (pTg {m}).2
def Pre_X12_aThing : PreT := fun m as => ∃ ns nm nt, PJ m ns nm nt ∧ as = [vR 12 0]
def Fn_X12_aThing : FnT := fun m _ => (some (vI (bI ((pTg m).1 = true))), (pTg m).2)
abbrev y_X12_aThing : MethodName := ⟨"GivenUpModel", "aThing", "()Z"⟩
def P_X12_aThing : List StpT := [s_aload 0, s_getR 12 0 54, s_ic (2042), s_iald, s_istore 1, s_ic (2084), s_ic (3), s_iload 1, s_imul, s_iadd, s_istore 2, s_aload 0, s_ic (2), s_ic (12), s_ic (8), s_callV 12 3 Pre_X12_newOne Fn_X12_newOne, s_ifeq 44, s_aload 0, s_ldS 1, s_ic (13), s_callV 12 2 Pre_X12_wantWord Fn_X12_wantWord, s_ifeq 44, s_aload 0, s_ic (80), s_aload 0, s_getR 12 0 54, s_ic (2040), s_iald, s_iload 2, s_callV 12 3 Pre_X12_oldOne Fn_X12_oldOne, s_ifeq 44, s_aload 0, s_ldS 1, s_ic (14), s_callV 12 2 Pre_X12_wantWord Fn_X12_wantWord, s_ifeq 44, s_aload 0, s_iload 2, s_ic (1), s_iadd, s_ic (0), s_ic (99), s_callV 12 3 Pre_X12_number Fn_X12_number, s_ifne 46, s_ic (0), s_zret, s_ic (0), s_istore 3, s_iload 3, s_ic (4), s_icge 69, s_aload 0, s_getR 12 0 54, s_ic (2120), s_ic (4), s_iload 1, s_imul, s_iadd, s_iload 3, s_iadd, s_aload 0, s_getR 12 0 54, s_iload 2, s_ic (1), s_iadd, s_iald, s_iast, s_iinc 3 (1), s_goto 48, s_aload 0, s_getR 12 0 54, s_ic (2042), s_dup2, s_iald, s_ic (1), s_iadd, s_iast, s_ic (1), s_zret]
def pc_X12_aThing : Nat → Nat := fun i => [0, 1, 4, 7, 8, 9, 12, 13, 14, 15, 16, 17, 18, 19, 21, 23, 26, 29, 30, 32, 34, 37, 40, 41, 43, 44, 47, 50, 51, 52, 55, 58, 59, 61, 63, 66, 69, 70, 71, 72, 73, 74, 76, 79, 82, 83, 84, 85, 86, 87, 88, 91, 92, 95, 98, 99, 100, 101, 102, 103, 104, 105, 108, 109, 110, 111, 112, 113, 116, 119, 120, 123, 126, 127, 128, 129, 130, 131, 132].getD i 0
def dl_X12_aThing : List (Nat × Instr × Nat) := [(0, .aload_n 0, 1), (1, .getfield 7, 3), (4, .sipush 2042, 3), (7, .iaload, 1), (8, .istore_n 1, 1), (9, .sipush 2084, 3), (12, .iconst 3, 1), (13, .iload_n 1, 1), (14, .imul, 1), (15, .iadd, 1), (16, .istore_n 2, 1), (17, .aload_n 0, 1), (18, .iconst 2, 1), (19, .bipush 12, 2), (21, .bipush 8, 2), (23, .invokevirtual 189, 3), (26, .ifCond .eq 56, 3), (29, .aload_n 0, 1), (30, .ldc 180, 2), (32, .bipush 13, 2), (34, .invokevirtual 199, 3), (37, .ifCond .eq 45, 3), (40, .aload_n 0, 1), (41, .bipush 80, 2), (43, .aload_n 0, 1), (44, .getfield 7, 3), (47, .sipush 2040, 3), (50, .iaload, 1), (51, .iload_n 2, 1), (52, .invokevirtual 203, 3), (55, .ifCond .eq 27, 3), (58, .aload_n 0, 1), (59, .ldc 180, 2), (61, .bipush 14, 2), (63, .invokevirtual 199, 3), (66, .ifCond .eq 16, 3), (69, .aload_n 0, 1), (70, .iload_n 2, 1), (71, .iconst 1, 1), (72, .iadd, 1), (73, .iconst 0, 1), (74, .bipush 99, 2), (76, .invokevirtual 196, 3), (79, .ifCond .ne 5, 3), (82, .iconst 0, 1), (83, .ireturn, 1), (84, .iconst 0, 1), (85, .istore_n 3, 1), (86, .iload_n 3, 1), (87, .iconst 4, 1), (88, .if_icmp .ge 31, 3), (91, .aload_n 0, 1), (92, .getfield 7, 3), (95, .sipush 2120, 3), (98, .iconst 4, 1), (99, .iload_n 1, 1), (100, .imul, 1), (101, .iadd, 1), (102, .iload_n 3, 1), (103, .iadd, 1), (104, .aload_n 0, 1), (105, .getfield 7, 3), (108, .iload_n 2, 1), (109, .iconst 1, 1), (110, .iadd, 1), (111, .iaload, 1), (112, .iastore, 1), (113, .iinc 3 1, 3), (116, .goto (-30), 3), (119, .aload_n 0, 1), (120, .getfield 7, 3), (123, .sipush 2042, 3), (126, .dup2, 1), (127, .iaload, 1), (128, .iconst 1, 1), (129, .iadd, 1), (130, .iastore, 1), (131, .iconst 1, 1), (132, .ireturn, 1)]
theorem dc_X12_aThing : DEC prog_14_method_43_code pc_X12_aThing dl_X12_aThing := DEC_of (by decide +kernel)
abbrev rm_X12_aThing : Room := { frames := 8, cells := 0, slots := 0, locals := 176 }
set_option maxRecDepth 20000 in
theorem sa_X12_aThing (l : Launch) : SNDALL l prog_14_method_43_code "GivenUpModel" 4 (some .boolean) rm_X12_aThing P_X12_aThing pc_X12_aThing := fun p e s m args below meth c cells slots Q D dA ad A RR hC hR => by
  have hM := RTX_room (R := rm_X12_aThing) hR
  exact ⟨st_aload_n hC (n := 0) (k := 0) (dc_X12_aThing 0 (0, .aload_n 0, 1) rfl rfl) rfl rfl,
    st_getR hC (n := 1) (k := 12) (j := 0) (dc_X12_aThing 1 (1, .getfield 7, 3) rfl rfl) rfl clf_12 (by decide) rfl (by decide) wd_1552,
    st_sipush hC (n := 2) (x := 2042) (dc_X12_aThing 2 (4, .sipush 2042, 3) rfl rfl) rfl (by decide),
    st_iald hC (n := 3) (dc_X12_aThing 3 (7, .iaload, 1) rfl rfl) rfl,
    st_istore_n hC (n := 4) (k := 1) (dc_X12_aThing 4 (8, .istore_n 1, 1) rfl rfl) rfl rfl (by decide),
    st_sipush hC (n := 5) (x := 2084) (dc_X12_aThing 5 (9, .sipush 2084, 3) rfl rfl) rfl (by decide),
    st_iconst hC (n := 6) (x := 3) (dc_X12_aThing 6 (12, .iconst 3, 1) rfl rfl) rfl (by decide),
    st_iload_n hC (n := 7) (k := 1) (dc_X12_aThing 7 (13, .iload_n 1, 1) rfl rfl) rfl rfl,
    st_imul hC (n := 8) (dc_X12_aThing 8 (14, .imul, 1) rfl rfl) rfl,
    st_iadd hC (n := 9) (dc_X12_aThing 9 (15, .iadd, 1) rfl rfl) rfl,
    st_istore_n hC (n := 10) (k := 2) (dc_X12_aThing 10 (16, .istore_n 2, 1) rfl rfl) rfl rfl (by decide),
    st_aload_n hC (n := 11) (k := 0) (dc_X12_aThing 11 (17, .aload_n 0, 1) rfl rfl) rfl rfl,
    st_iconst hC (n := 12) (x := 2) (dc_X12_aThing 12 (18, .iconst 2, 1) rfl rfl) rfl (by decide),
    st_bipush hC (n := 13) (x := 12) (dc_X12_aThing 13 (19, .bipush 12, 2) rfl rfl) rfl (by decide),
    st_bipush hC (n := 14) (x := 8) (dc_X12_aThing 14 (21, .bipush 8, 2) rfl rfl) rfl (by decide),
    st_callV hC (n := 15) (k := 12) (na := 3) (con_X12_newOne l) (dc_X12_aThing 15 (23, .invokevirtual 189, 3) rfl rfl) rfl wd_1777 wd_160 (by decide) ⟨rfl, rfl, by decide, by decide⟩ hM wd_1774 wd_1776 wd_61 clf_12,
    st_ifeq hC (n := 16) (dc_X12_aThing 16 (26, .ifCond .eq 56, 3) rfl rfl) rfl (by decide),
    st_aload_n hC (n := 17) (k := 0) (dc_X12_aThing 17 (29, .aload_n 0, 1) rfl rfl) rfl rfl,
    st_ldS1 hC (n := 18) (dc_X12_aThing 18 (30, .ldc 180, 2) rfl rfl) rfl rfl,
    st_bipush hC (n := 19) (x := 13) (dc_X12_aThing 19 (32, .bipush 13, 2) rfl rfl) rfl (by decide),
    st_callV hC (n := 20) (k := 12) (na := 2) (con_X12_wantWord l) (dc_X12_aThing 20 (34, .invokevirtual 199, 3) rfl rfl) rfl wd_1809 wd_160 (by decide) ⟨rfl, rfl, by decide, by decide⟩ hM wd_1806 wd_1808 wd_69 clf_12,
    st_ifeq hC (n := 21) (dc_X12_aThing 21 (37, .ifCond .eq 45, 3) rfl rfl) rfl (by decide),
    st_aload_n hC (n := 22) (k := 0) (dc_X12_aThing 22 (40, .aload_n 0, 1) rfl rfl) rfl rfl,
    st_bipush hC (n := 23) (x := 80) (dc_X12_aThing 23 (41, .bipush 80, 2) rfl rfl) rfl (by decide),
    st_aload_n hC (n := 24) (k := 0) (dc_X12_aThing 24 (43, .aload_n 0, 1) rfl rfl) rfl rfl,
    st_getR hC (n := 25) (k := 12) (j := 0) (dc_X12_aThing 25 (44, .getfield 7, 3) rfl rfl) rfl clf_12 (by decide) rfl (by decide) wd_1552,
    st_sipush hC (n := 26) (x := 2040) (dc_X12_aThing 26 (47, .sipush 2040, 3) rfl rfl) rfl (by decide),
    st_iald hC (n := 27) (dc_X12_aThing 27 (50, .iaload, 1) rfl rfl) rfl,
    st_iload_n hC (n := 28) (k := 2) (dc_X12_aThing 28 (51, .iload_n 2, 1) rfl rfl) rfl rfl,
    st_callV hC (n := 29) (k := 12) (na := 3) (con_X12_oldOne l) (dc_X12_aThing 29 (52, .invokevirtual 203, 3) rfl rfl) rfl wd_1817 wd_160 (by decide) ⟨rfl, rfl, by decide, by decide⟩ hM wd_1814 wd_1816 wd_71 clf_12,
    st_ifeq hC (n := 30) (dc_X12_aThing 30 (55, .ifCond .eq 27, 3) rfl rfl) rfl (by decide),
    st_aload_n hC (n := 31) (k := 0) (dc_X12_aThing 31 (58, .aload_n 0, 1) rfl rfl) rfl rfl,
    st_ldS1 hC (n := 32) (dc_X12_aThing 32 (59, .ldc 180, 2) rfl rfl) rfl rfl,
    st_bipush hC (n := 33) (x := 14) (dc_X12_aThing 33 (61, .bipush 14, 2) rfl rfl) rfl (by decide),
    st_callV hC (n := 34) (k := 12) (na := 2) (con_X12_wantWord l) (dc_X12_aThing 34 (63, .invokevirtual 199, 3) rfl rfl) rfl wd_1809 wd_160 (by decide) ⟨rfl, rfl, by decide, by decide⟩ hM wd_1806 wd_1808 wd_69 clf_12,
    st_ifeq hC (n := 35) (dc_X12_aThing 35 (66, .ifCond .eq 16, 3) rfl rfl) rfl (by decide),
    st_aload_n hC (n := 36) (k := 0) (dc_X12_aThing 36 (69, .aload_n 0, 1) rfl rfl) rfl rfl,
    st_iload_n hC (n := 37) (k := 2) (dc_X12_aThing 37 (70, .iload_n 2, 1) rfl rfl) rfl rfl,
    st_iconst hC (n := 38) (x := 1) (dc_X12_aThing 38 (71, .iconst 1, 1) rfl rfl) rfl (by decide),
    st_iadd hC (n := 39) (dc_X12_aThing 39 (72, .iadd, 1) rfl rfl) rfl,
    st_iconst hC (n := 40) (x := 0) (dc_X12_aThing 40 (73, .iconst 0, 1) rfl rfl) rfl (by decide),
    st_bipush hC (n := 41) (x := 99) (dc_X12_aThing 41 (74, .bipush 99, 2) rfl rfl) rfl (by decide),
    st_callV hC (n := 42) (k := 12) (na := 3) (con_X12_number l) (dc_X12_aThing 42 (76, .invokevirtual 196, 3) rfl rfl) rfl wd_1801 wd_160 (by decide) ⟨rfl, rfl, by decide, by decide⟩ hM wd_1798 wd_1800 wd_67 clf_12,
    st_ifne hC (n := 43) (dc_X12_aThing 43 (79, .ifCond .ne 5, 3) rfl rfl) rfl (by decide),
    st_iconst hC (n := 44) (x := 0) (dc_X12_aThing 44 (82, .iconst 0, 1) rfl rfl) rfl (by decide),
    st_zret hC (n := 45) hR (dc_X12_aThing 45 (83, .ireturn, 1) rfl rfl),
    st_iconst hC (n := 46) (x := 0) (dc_X12_aThing 46 (84, .iconst 0, 1) rfl rfl) rfl (by decide),
    st_istore_n hC (n := 47) (k := 3) (dc_X12_aThing 47 (85, .istore_n 3, 1) rfl rfl) rfl rfl (by decide),
    st_iload_n hC (n := 48) (k := 3) (dc_X12_aThing 48 (86, .iload_n 3, 1) rfl rfl) rfl rfl,
    st_iconst hC (n := 49) (x := 4) (dc_X12_aThing 49 (87, .iconst 4, 1) rfl rfl) rfl (by decide),
    st_icge hC (n := 50) (dc_X12_aThing 50 (88, .if_icmp .ge 31, 3) rfl rfl) rfl (by decide),
    st_aload_n hC (n := 51) (k := 0) (dc_X12_aThing 51 (91, .aload_n 0, 1) rfl rfl) rfl rfl,
    st_getR hC (n := 52) (k := 12) (j := 0) (dc_X12_aThing 52 (92, .getfield 7, 3) rfl rfl) rfl clf_12 (by decide) rfl (by decide) wd_1552,
    st_sipush hC (n := 53) (x := 2120) (dc_X12_aThing 53 (95, .sipush 2120, 3) rfl rfl) rfl (by decide),
    st_iconst hC (n := 54) (x := 4) (dc_X12_aThing 54 (98, .iconst 4, 1) rfl rfl) rfl (by decide),
    st_iload_n hC (n := 55) (k := 1) (dc_X12_aThing 55 (99, .iload_n 1, 1) rfl rfl) rfl rfl,
    st_imul hC (n := 56) (dc_X12_aThing 56 (100, .imul, 1) rfl rfl) rfl,
    st_iadd hC (n := 57) (dc_X12_aThing 57 (101, .iadd, 1) rfl rfl) rfl,
    st_iload_n hC (n := 58) (k := 3) (dc_X12_aThing 58 (102, .iload_n 3, 1) rfl rfl) rfl rfl,
    st_iadd hC (n := 59) (dc_X12_aThing 59 (103, .iadd, 1) rfl rfl) rfl,
    st_aload_n hC (n := 60) (k := 0) (dc_X12_aThing 60 (104, .aload_n 0, 1) rfl rfl) rfl rfl,
    st_getR hC (n := 61) (k := 12) (j := 0) (dc_X12_aThing 61 (105, .getfield 7, 3) rfl rfl) rfl clf_12 (by decide) rfl (by decide) wd_1552,
    st_iload_n hC (n := 62) (k := 2) (dc_X12_aThing 62 (108, .iload_n 2, 1) rfl rfl) rfl rfl,
    st_iconst hC (n := 63) (x := 1) (dc_X12_aThing 63 (109, .iconst 1, 1) rfl rfl) rfl (by decide),
    st_iadd hC (n := 64) (dc_X12_aThing 64 (110, .iadd, 1) rfl rfl) rfl,
    st_iald hC (n := 65) (dc_X12_aThing 65 (111, .iaload, 1) rfl rfl) rfl,
    st_iast hC (n := 66) (dc_X12_aThing 66 (112, .iastore, 1) rfl rfl) rfl,
    st_iinc hC (n := 67) (x := 1) (dc_X12_aThing 67 (113, .iinc 3 1, 3) rfl rfl) rfl (by decide) (by decide),
    st_goto hC (n := 68) (dc_X12_aThing 68 (116, .goto (-30), 3) rfl rfl) (by decide),
    st_aload_n hC (n := 69) (k := 0) (dc_X12_aThing 69 (119, .aload_n 0, 1) rfl rfl) rfl rfl,
    st_getR hC (n := 70) (k := 12) (j := 0) (dc_X12_aThing 70 (120, .getfield 7, 3) rfl rfl) rfl clf_12 (by decide) rfl (by decide) wd_1552,
    st_sipush hC (n := 71) (x := 2042) (dc_X12_aThing 71 (123, .sipush 2042, 3) rfl rfl) rfl (by decide),
    st_dup2 hC (n := 72) (dc_X12_aThing 72 (126, .dup2, 1) rfl rfl) rfl,
    st_iald hC (n := 73) (dc_X12_aThing 73 (127, .iaload, 1) rfl rfl) rfl,
    st_iconst hC (n := 74) (x := 1) (dc_X12_aThing 74 (128, .iconst 1, 1) rfl rfl) rfl (by decide),
    st_iadd hC (n := 75) (dc_X12_aThing 75 (129, .iadd, 1) rfl rfl) rfl,
    st_iast hC (n := 76) (dc_X12_aThing 76 (130, .iastore, 1) rfl rfl) rfl,
    st_iconst hC (n := 77) (x := 1) (dc_X12_aThing 77 (131, .iconst 1, 1) rfl rfl) rfl (by decide),
    st_zret hC (n := 78) hR (dc_X12_aThing 78 (132, .ireturn, 1) rfl rfl), trivial⟩
set_option maxRecDepth 8000 in
theorem vc_X12_aThing : VC P_X12_aThing 4 Pre_X12_aThing Fn_X12_aThing := by
  rintro mm as hom hoa ⟨ns, nm, n, hJ, rfl⟩
  refine ⟨Nat.le_of_ble_eq_true rfl, fun X h => ?_⟩
  have h2 : mm.1 54 0 2042 = nI n := hJ.2.2.2.1
  have hn12 : n ≤ 12 := hJ.2.2.2.2
  have hns : ns ≤ 4 := hJ.2.1.2
  obtain ⟨s, hs⟩ : ∃ s, s = 2084 + 3 * n := ⟨_, rfl⟩
  have es : (nI s).toNatClampNeg = s := nI_clamp (by omega)
  have es1 : (nI s + 1).toNatClampNeg = s + 1 := by rw [nI_1]; exact nI_clamp (by omega)
  have ens : (nI ns).toNatClampNeg = ns := nI_clamp (by omega)
  have eS : 2084 + 3 * nI n = nI s := by rw [hs]; simp (disch := omega) only [li, pk_mul, nI_add, nI_clamp]
  replace h : RUN P_X12_aThing (RT (pTg mm)) X := h
  have hp : pTg mm = pBd (pNw mm 2 12 8) (tgA n) := by unfold pTg; rw [h2, nI_clamp (by omega)]
  rw [hp] at h
  clear hp
  have fin : ∀ M p, p = tgD n M → n < 12 → RUN P_X12_aThing (RT p) X → X 46 [some (vR 12 0), some (vI (nI n)), some (vI (nI s)), none] [] (M) := by
    intro M p hp hlt h
    unfold tgD tgE at hp
    have loop : ∀ q, q ≤ 4 → X 48 [some (vR 12 0), some (vI (nI n)), some (vI (nI s)), some (vI (nI q))] [] (mRow M 54 0 (thR (M.1 54 0) n q)) := by
      refine up_ind 4 ?_ (fun q hq ih => ?_)
      ·
        show X 48 [some (vR 12 0), some (vI (nI n)), some (vI (nI s)), some (vI (nI 4))] [] (mRow M 54 0 (thR (M.1 54 0) n 4))
        refine h (fun _ => false) 3000 48 _ _ _ ?_
        refine br_t (by decide) ?_
        refine And.intro (show inb 2042 (alen 54) = true from rfl) ?_
        refine And.intro (show inb 2042 (alen 54) = true from rfl) ?_
        refine And.intro (Or.inr rfl) ?_
        show ((some (vI 1) : Option MV), mRow (mRow M 54 0 (thR (M.1 54 0) n 4)) 54 0 (upd (thR (M.1 54 0) n 4) 2042 (((thR (M.1 54 0) n 4) 2042) + 1))) = _
        refine PR_t (hp.trans ?_)
        unfold mI 
        rfl
      · have eb : (2120 + 4 * nI n + nI q).toNatClampNeg = 2120 + 4 * n + q := by simp (disch := omega) only [li, pk_mul, nI_add, nI_clamp]
        show X 48 [some (vR 12 0), some (vI (nI n)), some (vI (nI s)), some (vI (nI q))] [] (mRow M 54 0 (thR (M.1 54 0) n q))
        refine h (fun i => Nat.beq i 48) 3000 48 _ _ _ ?_
        refine br_f (show ¬ nI 4 ≤ nI q from nI_ge hq (by omega)) ?_
        refine And.intro (show inb ((nI s) + 1) (alen 54) = true from (inb_o 3060 rfl rfl (show nI s + 1 = nI (s + 1) by simp (disch := omega) only [li, pk_mul, nI_add, nI_clamp]) (by omega))) ?_
        refine And.intro (show inb ((2120 + (4 * (nI n))) + (nI q)) (alen 54) = true from (inb_o 3060 rfl rfl (show (2120 + (4 * (nI n))) + (nI q) = nI ((2120 + (4 * ( n))) + ( q)) by simp (disch := omega) only [li, pk_mul, nI_add, nI_clamp]) (by omega))) ?_
        show X 48 [some (vR 12 0), some (vI (nI n)), some (vI (nI s)), some (vI ((nI q) + 1))] [] (mRow (mRow M 54 0 (thR (M.1 54 0) n q)) 54 0 (upd (thR (M.1 54 0) n q) ((2120 + (4 * (nI n))) + (nI q)).toNatClampNeg ((thR (M.1 54 0) n q) (((nI s) + 1).toNatClampNeg))))
        rw [es1, eb, mRow2, nI_1, show s + 1 = 2085 + 3 * n by omega]
        exact ih
    have l0 := loop 0 (by omega)
    have e0 : mRow M 54 0 (thR (M.1 54 0) n 0) = M := mRow_self _ _ _
    rw [e0] at l0
    show X 46 [some (vR 12 0), some (vI (nI n)), some (vI (nI s)), none] [] M
    refine h (fun i => Nat.beq i 48) 3000 46 _ _ _ ?_
    show X 48 [some (vR 12 0), some (vI (nI n)), some (vI (nI s)), some (vI 0)] [] M
    exact l0
  have s3 : ∀ M p, PJ M ns nm n → p = tgB2 n M → n < 12 → RUN P_X12_aThing (RT p) X → X 31 [some (vR 12 0), some (vI (nI n)), some (vI (nI s)), none] [] (M) := by
    intro M p hM hp hlt h
    have hM3 := PJ_ww (c := 14) hM
    unfold tgB2 tgC at hp
    rw [← hs] at hp
    show X 31 [some (vR 12 0), some (vI (nI n)), some (vI (nI s)), none] [] M
    refine h (fun i => Nat.beq i 46) 3000 31 _ _ _ ?_
    refine And.intro (show Pre_X12_wantWord M [vR 12 0, vR 72 1, vI 14] from ⟨hM.1, _, rfl⟩) ?_
    refine br_c (fun b35 => ?_) (fun b35 => ?_)
    · -- 35: bI ((pWW M 14).1 = true) = 0 taken
      replace b35 : ¬ ((pWW M 14).1 = true) := bI_0.mp b35
      (try simp only [es1] at b35)
      refine And.intro (Or.inl rfl) ?_
      show ((some (vI 0) : Option MV), (pWW M 14).2) = _
      (try simp only [es1])
      exact PR_f (by rw [hp, pBd_f b35])
    · -- 35: bI ((pWW M 14).1 = true) = 0 on
      replace b35 : (pWW M 14).1 = true := bI_n0.mp b35
      (try simp only [es1] at b35)
      refine And.intro (show Pre_X12_number ((pWW M 14).2) [vR 12 0, vI ((nI s) + 1), vI 0, vI 99] from ⟨hM3.1, s + 1, 0, 99, by omega, by rw [nI_1]⟩) ?_
      refine brn_c (fun b43 => ?_) (fun b43 => ?_)
      · -- 43: bI ((pNu ((pWW M 14).2) ((nI s) + 1).toNatClampNeg 0 99).1 = true) = 0 taken
        replace b43 : (pNu ((pWW M 14).2) ((nI s) + 1).toNatClampNeg 0 99).1 = true := bI_n0.mp b43
        (try simp only [es1] at b43)
        show X 46 [some (vR 12 0), some (vI (nI n)), some (vI (nI s)), none] [] ((pNu ((pWW M 14).2) ((nI s) + 1).toNatClampNeg 0 99).2)
        (try simp only [es1])
        exact fin _ _ (by rw [hp, pBd_t b35, pBd_t b43]) hlt h
      · -- 43: bI ((pNu ((pWW M 14).2) ((nI s) + 1).toNatClampNeg 0 99).1 = true) = 0 on
        replace b43 : ¬ ((pNu ((pWW M 14).2) ((nI s) + 1).toNatClampNeg 0 99).1 = true) := bI_0.mp b43
        (try simp only [es1] at b43)
        refine And.intro (Or.inl rfl) ?_
        show ((some (vI 0) : Option MV), (pNu ((pWW M 14).2) ((nI s) + 1).toNatClampNeg 0 99).2) = _
        (try simp only [es1])
        exact PR_f (by rw [hp, pBd_t b35, pBd_f b43])
  have s2 : ∀ M p, PJ M ns nm n → p = tgA n M → n < 12 → RUN P_X12_aThing (RT p) X → X 17 [some (vR 12 0), some (vI (nI n)), some (vI (nI s)), none] [] (M) := by
    intro M p hM hp hlt h
    have hM1 := PJ_ww (c := 13) hM
    have hM2 := PJ_ol (b := 80) (c := ns) (t := s) hM1 (by omega)
    have k0 : (pWW M 13).2.1 54 0 2040 = nI ns := hM1.2.1.1
    unfold tgA tgB at hp
    show X 17 [some (vR 12 0), some (vI (nI n)), some (vI (nI s)), none] [] M
    refine h (fun i => Nat.beq i 31) 3000 17 _ _ _ ?_
    refine And.intro (show Pre_X12_wantWord M [vR 12 0, vR 72 1, vI 13] from ⟨hM.1, _, rfl⟩) ?_
    refine br_c (fun b21 => ?_) (fun b21 => ?_)
    · -- 21: bI ((pWW M 13).1 = true) = 0 taken
      replace b21 : ¬ ((pWW M 13).1 = true) := bI_0.mp b21
      (try simp only [k0, ens, es] at b21)
      refine And.intro (Or.inl rfl) ?_
      show ((some (vI 0) : Option MV), (pWW M 13).2) = _
      (try simp only [k0, ens, es])
      exact PR_f (by rw [hp, pBd_f b21])
    · -- 21: bI ((pWW M 13).1 = true) = 0 on
      replace b21 : (pWW M 13).1 = true := bI_n0.mp b21
      (try simp only [k0, ens, es] at b21)
      refine And.intro (show inb 2040 (alen 54) = true from rfl) ?_
      refine And.intro (show Pre_X12_oldOne ((pWW M 13).2) [vR 12 0, vI 80, vI (((pWW M 13).2).1 54 0 2040), vI (nI s)] from ⟨hM1.1, 80, ns, s, by omega, by omega, by rw [k0]; rfl⟩) ?_
      refine br_c (fun b30 => ?_) (fun b30 => ?_)
      · -- 30: bI ((pOl ((pWW M 13).2) 80 (((pWW M 13).2).1 54 0 2040).toNatClampNeg (nI s).toNatClampNeg).1 = true) = 0 taken
        replace b30 : ¬ ((pOl ((pWW M 13).2) 80 (((pWW M 13).2).1 54 0 2040).toNatClampNeg (nI s).toNatClampNeg).1 = true) := bI_0.mp b30
        (try simp only [k0, ens, es] at b30)
        refine And.intro (Or.inl rfl) ?_
        show ((some (vI 0) : Option MV), (pOl ((pWW M 13).2) 80 (((pWW M 13).2).1 54 0 2040).toNatClampNeg (nI s).toNatClampNeg).2) = _
        (try simp only [k0, ens, es])
        exact PR_f (by rw [hp, pBd_t b21, k0, ens, ← hs, pBd_f b30])
      · -- 30: bI ((pOl ((pWW M 13).2) 80 (((pWW M 13).2).1 54 0 2040).toNatClampNeg (nI s).toNatClampNeg).1 = true) = 0 on
        replace b30 : (pOl ((pWW M 13).2) 80 (((pWW M 13).2).1 54 0 2040).toNatClampNeg (nI s).toNatClampNeg).1 = true := bI_n0.mp b30
        (try simp only [k0, ens, es] at b30)
        show X 31 [some (vR 12 0), some (vI (nI n)), some (vI (nI s)), none] [] ((pOl ((pWW M 13).2) 80 (((pWW M 13).2).1 54 0 2040).toNatClampNeg (nI s).toNatClampNeg).2)
        (try simp only [k0, ens, es])
        exact s3 _ _ hM2 (by rw [hp, pBd_t b21, k0, ens, ← hs, pBd_t b30]) hlt h
  suffices z : X 11 [some (vR 12 0), some (vI (nI n)), some (vI (nI s)), none] [] mm by
    show X 0 [some (vR 12 0), none, none, none] [] mm
    refine h (fun i => Nat.beq i 11) 3000 0 _ _ _ ?_
    refine And.intro (show inb 2042 (alen 54) = true from rfl) ?_
    show X 11 [some (vR 12 0), some (vI (mm.1 54 0 2042)), some (vI (2084 + (3 * (mm.1 54 0 2042)))), none] [] mm
    rw [h2, eS]
    exact z
  show X 11 [some (vR 12 0), some (vI (nI n)), some (vI (nI s)), none] [] mm
  refine h (fun i => Nat.beq i 17) 3000 11 _ _ _ ?_
  refine And.intro (show Pre_X12_newOne mm [vR 12 0, vI 2, vI 12, vI 8] from ⟨hJ.1, PJ_cn hJ, Or.inr (Or.inr rfl)⟩) ?_
  refine br_c (fun b16 => ?_) (fun b16 => ?_)
  · -- 16: bI ((pNw mm 2 12 8).1 = true) = 0 taken
    replace b16 : ¬ ((pNw mm 2 12 8).1 = true) := bI_0.mp b16
    refine And.intro (Or.inl rfl) ?_
    show ((some (vI 0) : Option MV), (pNw mm 2 12 8).2) = _
    exact PR_f (pBd_f b16)
  · -- 16: bI ((pNw mm 2 12 8).1 = true) = 0 on
    replace b16 : (pNw mm 2 12 8).1 = true := bI_n0.mp b16
    show X 17 [some (vR 12 0), some (vI (nI n)), some (vI (nI s)), none] [] ((pNw mm 2 12 8).2)
    refine s2 _ _ (PJ_nw hJ) (pBd_t b16) ?_ h
    exact pNw_lt (q := 2) (c := n) (t := 12) h2 hn12 (by decide) b16
theorem con_X12_aThing (l : Launch) : CON l y_X12_aThing prog_14_method_43_code 4 (some .boolean) rm_X12_aThing Pre_X12_aThing Fn_X12_aThing := CON_of (by decide) rfl rfl (sa_X12_aThing l) vc_X12_aThing
