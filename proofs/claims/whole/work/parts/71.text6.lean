/-! PART 71: the class: the last parts of a valley's text -/

def c7aM (m : MM) (g : Nat) (l s : Int32) : MM := mI (mRow m 37 g (upd (m.1 37 g) l.toNatClampNeg (m.1 37 g l.toNatClampNeg ||| 1 <<< (s &&& 31)))) 6 g 16 (m.1 6 g 16 + 1)
def c7aD (g : Nat) (l s : Int32) (m : MM) : PR := (true, c7aM m g l s)
def c7aB (g : Nat) (l s : Int32) (m : MM) : PR := if l = s ∨ ¬ m.1 35 g l.toNatClampNeg = m.1 35 g s.toNatClampNeg then (false, faC m 5) else pBd (skC (spM m) 33) (c7aD g l s)
def c7aA (g : Nat) (l : Int32) (m : MM) : PR := pBi (fdC m g 8 (m.1 6 g 15).toNatClampNeg) (c7aB g l)
def c7aC (g : Nat) (m : MM) : PR := if m.1 6 g 16 < 12 then pBi (meC (spM m) g 8 ((spM m).1 6 g 15).toNatClampNeg) (c7aA g) else (false, faC m 6)

--tpl ⟨_, _, _, _, _, by assumption, rfl⟩ || bI ((c7aC {g1} {m}).1 = true) || (c7aC {g1} {m}).2
def Pre_X7_readAfter : PreT := fun m as => ∃ g ns nm nt na : Nat, CJ m g ns nm nt na ∧ as = [vR 7 0, vR 6 g]
def Fn_X7_readAfter : FnT := fun m as => match as with
  | [_, Sum.inr (Sum.inr q)] => (some (vI (bI ((c7aC q.2 m).1 = true))), (c7aC q.2 m).2)
  | _ => (none, m)
abbrev y_X7_readAfter : MethodName := ⟨"GivenUp$ValleyReader", "readAfter", "(LGivenUp$Valley;)Z"⟩
def P_X7_readAfter : List StpT := [s_aload 1, s_getI 6 16, s_ic (12), s_iclt 9, s_aload 0, s_getC 7 0 4 0, s_ic (6), s_callV 4 1 Pre_X4_fail Fn_X4_fail, s_zret, s_aload 0, s_getC 7 0 4 0, s_callV 4 0 Pre_X4_step Fn_X4_step, s_aload 0, s_getC 7 0 4 0, s_aload 1, s_getR 6 0 29, s_ic (8), s_aload 1, s_getI 6 15, s_callV 4 3 Pre_X4_member Fn_X4_member, s_istore 2, s_iload 2, s_ifge 25, s_ic (0), s_zret, s_aload 0, s_getC 7 0 4 0, s_aload 1, s_getR 6 0 29, s_ic (8), s_aload 1, s_getI 6 15, s_callV 4 3 Pre_X4_find Fn_X4_find, s_istore 3, s_iload 3, s_ifge 38, s_ic (0), s_zret, s_iload 2, s_iload 3, s_iceq 50, s_aload 1, s_getR 6 6 35, s_iload 2, s_iald, s_aload 1, s_getR 6 6 35, s_iload 3, s_iald, s_iceq 55, s_aload 0, s_getC 7 0 4 0, s_ic (5), s_callV 4 1 Pre_X4_fail Fn_X4_fail, s_zret, s_aload 0, s_getC 7 0 4 0, s_callV 4 0 Pre_X4_step Fn_X4_step, s_aload 0, s_getC 7 0 4 0, s_ic (33), s_callV 4 1 Pre_X4_skip Fn_X4_skip, s_ifne 65, s_ic (0), s_zret, s_aload 1, s_getR 6 8 37, s_iload 2, s_dup2, s_iald, s_ic (1), s_iload 3, s_ishl, s_ior, s_iast, s_aload 1, s_dup, s_getI 6 16, s_ic (1), s_iadd, s_putI 6 16, s_ic (1), s_zret]
def pc_X7_readAfter : Nat → Nat := fun i => [0, 1, 4, 6, 9, 10, 13, 15, 18, 19, 20, 23, 26, 27, 30, 31, 34, 36, 37, 40, 43, 44, 45, 48, 49, 50, 51, 54, 55, 58, 60, 61, 64, 67, 68, 69, 72, 73, 74, 75, 76, 79, 80, 83, 84, 85, 86, 89, 90, 91, 94, 95, 98, 99, 102, 103, 104, 107, 110, 111, 114, 116, 119, 122, 123, 124, 125, 128, 129, 130, 131, 132, 133, 134, 135, 136, 137, 138, 141, 142, 143, 146, 147].getD i 0
def dl_X7_readAfter : List (Nat × Instr × Nat) := [(0, .aload_n 1, 1), (1, .getfield 137, 3), (4, .bipush 12, 2), (6, .if_icmp .lt 13, 3), (9, .aload_n 0, 1), (10, .getfield 18, 3), (13, .bipush 6, 2), (15, .invokevirtual 72, 3), (18, .ireturn, 1), (19, .aload_n 0, 1), (20, .getfield 18, 3), (23, .invokevirtual 76, 3), (26, .aload_n 0, 1), (27, .getfield 18, 3), (30, .aload_n 1, 1), (31, .getfield 79, 3), (34, .bipush 8, 2), (36, .aload_n 1, 1), (37, .getfield 123, 3), (40, .invokevirtual 126, 3), (43, .istore_n 2, 1), (44, .iload_n 2, 1), (45, .ifCond .ge 5, 3), (48, .iconst 0, 1), (49, .ireturn, 1), (50, .aload_n 0, 1), (51, .getfield 18, 3), (54, .aload_n 1, 1), (55, .getfield 79, 3), (58, .bipush 8, 2), (60, .aload_n 1, 1), (61, .getfield 123, 3), (64, .invokevirtual 140, 3), (67, .istore_n 3, 1), (68, .iload_n 3, 1), (69, .ifCond .ge 5, 3), (72, .iconst 0, 1), (73, .ireturn, 1), (74, .iload_n 2, 1), (75, .iload_n 3, 1), (76, .if_icmp .eq 18, 3), (79, .aload_n 1, 1), (80, .getfield 143, 3), (83, .iload_n 2, 1), (84, .iaload, 1), (85, .aload_n 1, 1), (86, .getfield 143, 3), (89, .iload_n 3, 1), (90, .iaload, 1), (91, .if_icmp .eq 12, 3), (94, .aload_n 0, 1), (95, .getfield 18, 3), (98, .iconst 5, 1), (99, .invokevirtual 72, 3), (102, .ireturn, 1), (103, .aload_n 0, 1), (104, .getfield 18, 3), (107, .invokevirtual 76, 3), (110, .aload_n 0, 1), (111, .getfield 18, 3), (114, .bipush 33, 2), (116, .invokevirtual 91, 3), (119, .ifCond .ne 5, 3), (122, .iconst 0, 1), (123, .ireturn, 1), (124, .aload_n 1, 1), (125, .getfield 146, 3), (128, .iload_n 2, 1), (129, .dup2, 1), (130, .iaload, 1), (131, .iconst 1, 1), (132, .iload_n 3, 1), (133, .ishl, 1), (134, .ior, 1), (135, .iastore, 1), (136, .aload_n 1, 1), (137, .dup, 1), (138, .getfield 137, 3), (141, .iconst 1, 1), (142, .iadd, 1), (143, .putfield 137, 3), (146, .iconst 1, 1), (147, .ireturn, 1)]
theorem dc_X7_readAfter : DEC prog_9_method_7_code pc_X7_readAfter dl_X7_readAfter := DEC_of (by decide +kernel)
abbrev rm_X7_readAfter : Room := { frames := 4, cells := 0, slots := 0, locals := 89 }
set_option maxRecDepth 20000 in
theorem sa_X7_readAfter (l : Launch) : SNDALL l prog_9_method_7_code "GivenUp$ValleyReader" 4 (some .boolean) rm_X7_readAfter P_X7_readAfter pc_X7_readAfter := fun p e s m args below meth c cells slots Q D dA ad A RR hC hR => by
  have hM := RTX_room (R := rm_X7_readAfter) hR
  exact ⟨st_aload_n hC (n := 0) (k := 1) (dc_X7_readAfter 0 (0, .aload_n 1, 1) rfl rfl) rfl rfl,
    st_getI hC (n := 1) (k := 6) (j := 16) (dc_X7_readAfter 1 (1, .getfield 137, 3) rfl rfl) rfl clf_6 (by decide) rfl wd_635,
    st_bipush hC (n := 2) (x := 12) (dc_X7_readAfter 2 (4, .bipush 12, 2) rfl rfl) rfl (by decide),
    st_iclt hC (n := 3) (dc_X7_readAfter 3 (6, .if_icmp .lt 13, 3) rfl rfl) rfl (by decide),
    st_aload_n hC (n := 4) (k := 0) (dc_X7_readAfter 4 (9, .aload_n 0, 1) rfl rfl) rfl rfl,
    st_getC hC (n := 5) (k := 7) (j := 0) (dc_X7_readAfter 5 (10, .getfield 18, 3) rfl rfl) rfl clf_7 (by decide) rfl (by decide) wd_277,
    st_bipush hC (n := 6) (x := 6) (dc_X7_readAfter 6 (13, .bipush 6, 2) rfl rfl) rfl (by decide),
    st_callV hC (n := 7) (k := 4) (na := 1) (con_X4_fail l) (dc_X7_readAfter 7 (15, .invokevirtual 72, 3) rfl rfl) rfl wd_878 wd_144 (by decide) ⟨rfl, rfl, by decide, by decide⟩ hM wd_875 wd_876 wd_877 clf_4,
    st_zret hC (n := 8) hR (dc_X7_readAfter 8 (18, .ireturn, 1) rfl rfl),
    st_aload_n hC (n := 9) (k := 0) (dc_X7_readAfter 9 (19, .aload_n 0, 1) rfl rfl) rfl rfl,
    st_getC hC (n := 10) (k := 7) (j := 0) (dc_X7_readAfter 10 (20, .getfield 18, 3) rfl rfl) rfl clf_7 (by decide) rfl (by decide) wd_277,
    st_callV hC (n := 11) (k := 4) (na := 0) (con_X4_step l) (dc_X7_readAfter 11 (23, .invokevirtual 76, 3) rfl rfl) rfl wd_859 wd_144 (by decide) ⟨rfl, rfl, by decide, by decide⟩ hM wd_879 wd_857 wd_858 clf_4,
    st_aload_n hC (n := 12) (k := 0) (dc_X7_readAfter 12 (26, .aload_n 0, 1) rfl rfl) rfl rfl,
    st_getC hC (n := 13) (k := 7) (j := 0) (dc_X7_readAfter 13 (27, .getfield 18, 3) rfl rfl) rfl clf_7 (by decide) rfl (by decide) wd_277,
    st_aload_n hC (n := 14) (k := 1) (dc_X7_readAfter 14 (30, .aload_n 1, 1) rfl rfl) rfl rfl,
    st_getR hC (n := 15) (k := 6) (j := 0) (dc_X7_readAfter 15 (31, .getfield 79, 3) rfl rfl) rfl clf_6 (by decide) rfl (by decide) wd_576,
    st_bipush hC (n := 16) (x := 8) (dc_X7_readAfter 16 (34, .bipush 8, 2) rfl rfl) rfl (by decide),
    st_aload_n hC (n := 17) (k := 1) (dc_X7_readAfter 17 (36, .aload_n 1, 1) rfl rfl) rfl rfl,
    st_getI hC (n := 18) (k := 6) (j := 15) (dc_X7_readAfter 18 (37, .getfield 123, 3) rfl rfl) rfl clf_6 (by decide) rfl wd_631,
    st_callV hC (n := 19) (k := 4) (na := 3) (con_X4_member l) (dc_X7_readAfter 19 (40, .invokevirtual 126, 3) rfl rfl) rfl wd_913 wd_144 (by decide) ⟨rfl, rfl, by decide, by decide⟩ hM wd_910 wd_911 wd_912 clf_4,
    st_istore_n hC (n := 20) (k := 2) (dc_X7_readAfter 20 (43, .istore_n 2, 1) rfl rfl) rfl rfl (by decide),
    st_iload_n hC (n := 21) (k := 2) (dc_X7_readAfter 21 (44, .iload_n 2, 1) rfl rfl) rfl rfl,
    st_ifge hC (n := 22) (dc_X7_readAfter 22 (45, .ifCond .ge 5, 3) rfl rfl) rfl (by decide),
    st_iconst hC (n := 23) (x := 0) (dc_X7_readAfter 23 (48, .iconst 0, 1) rfl rfl) rfl (by decide),
    st_zret hC (n := 24) hR (dc_X7_readAfter 24 (49, .ireturn, 1) rfl rfl),
    st_aload_n hC (n := 25) (k := 0) (dc_X7_readAfter 25 (50, .aload_n 0, 1) rfl rfl) rfl rfl,
    st_getC hC (n := 26) (k := 7) (j := 0) (dc_X7_readAfter 26 (51, .getfield 18, 3) rfl rfl) rfl clf_7 (by decide) rfl (by decide) wd_277,
    st_aload_n hC (n := 27) (k := 1) (dc_X7_readAfter 27 (54, .aload_n 1, 1) rfl rfl) rfl rfl,
    st_getR hC (n := 28) (k := 6) (j := 0) (dc_X7_readAfter 28 (55, .getfield 79, 3) rfl rfl) rfl clf_6 (by decide) rfl (by decide) wd_576,
    st_bipush hC (n := 29) (x := 8) (dc_X7_readAfter 29 (58, .bipush 8, 2) rfl rfl) rfl (by decide),
    st_aload_n hC (n := 30) (k := 1) (dc_X7_readAfter 30 (60, .aload_n 1, 1) rfl rfl) rfl rfl,
    st_getI hC (n := 31) (k := 6) (j := 15) (dc_X7_readAfter 31 (61, .getfield 123, 3) rfl rfl) rfl clf_6 (by decide) rfl wd_631,
    st_callV hC (n := 32) (k := 4) (na := 3) (con_X4_find l) (dc_X7_readAfter 32 (64, .invokevirtual 140, 3) rfl rfl) rfl wd_917 wd_144 (by decide) ⟨rfl, rfl, by decide, by decide⟩ hM wd_930 wd_915 wd_916 clf_4,
    st_istore_n hC (n := 33) (k := 3) (dc_X7_readAfter 33 (67, .istore_n 3, 1) rfl rfl) rfl rfl (by decide),
    st_iload_n hC (n := 34) (k := 3) (dc_X7_readAfter 34 (68, .iload_n 3, 1) rfl rfl) rfl rfl,
    st_ifge hC (n := 35) (dc_X7_readAfter 35 (69, .ifCond .ge 5, 3) rfl rfl) rfl (by decide),
    st_iconst hC (n := 36) (x := 0) (dc_X7_readAfter 36 (72, .iconst 0, 1) rfl rfl) rfl (by decide),
    st_zret hC (n := 37) hR (dc_X7_readAfter 37 (73, .ireturn, 1) rfl rfl),
    st_iload_n hC (n := 38) (k := 2) (dc_X7_readAfter 38 (74, .iload_n 2, 1) rfl rfl) rfl rfl,
    st_iload_n hC (n := 39) (k := 3) (dc_X7_readAfter 39 (75, .iload_n 3, 1) rfl rfl) rfl rfl,
    st_iceq hC (n := 40) (dc_X7_readAfter 40 (76, .if_icmp .eq 18, 3) rfl rfl) rfl (by decide),
    st_aload_n hC (n := 41) (k := 1) (dc_X7_readAfter 41 (79, .aload_n 1, 1) rfl rfl) rfl rfl,
    st_getR hC (n := 42) (k := 6) (j := 6) (dc_X7_readAfter 42 (80, .getfield 143, 3) rfl rfl) rfl clf_6 (by decide) rfl (by decide) wd_596,
    st_iload_n hC (n := 43) (k := 2) (dc_X7_readAfter 43 (83, .iload_n 2, 1) rfl rfl) rfl rfl,
    st_iald hC (n := 44) (dc_X7_readAfter 44 (84, .iaload, 1) rfl rfl) rfl,
    st_aload_n hC (n := 45) (k := 1) (dc_X7_readAfter 45 (85, .aload_n 1, 1) rfl rfl) rfl rfl,
    st_getR hC (n := 46) (k := 6) (j := 6) (dc_X7_readAfter 46 (86, .getfield 143, 3) rfl rfl) rfl clf_6 (by decide) rfl (by decide) wd_596,
    st_iload_n hC (n := 47) (k := 3) (dc_X7_readAfter 47 (89, .iload_n 3, 1) rfl rfl) rfl rfl,
    st_iald hC (n := 48) (dc_X7_readAfter 48 (90, .iaload, 1) rfl rfl) rfl,
    st_iceq hC (n := 49) (dc_X7_readAfter 49 (91, .if_icmp .eq 12, 3) rfl rfl) rfl (by decide),
    st_aload_n hC (n := 50) (k := 0) (dc_X7_readAfter 50 (94, .aload_n 0, 1) rfl rfl) rfl rfl,
    st_getC hC (n := 51) (k := 7) (j := 0) (dc_X7_readAfter 51 (95, .getfield 18, 3) rfl rfl) rfl clf_7 (by decide) rfl (by decide) wd_277,
    st_iconst hC (n := 52) (x := 5) (dc_X7_readAfter 52 (98, .iconst 5, 1) rfl rfl) rfl (by decide),
    st_callV hC (n := 53) (k := 4) (na := 1) (con_X4_fail l) (dc_X7_readAfter 53 (99, .invokevirtual 72, 3) rfl rfl) rfl wd_878 wd_144 (by decide) ⟨rfl, rfl, by decide, by decide⟩ hM wd_875 wd_876 wd_877 clf_4,
    st_zret hC (n := 54) hR (dc_X7_readAfter 54 (102, .ireturn, 1) rfl rfl),
    st_aload_n hC (n := 55) (k := 0) (dc_X7_readAfter 55 (103, .aload_n 0, 1) rfl rfl) rfl rfl,
    st_getC hC (n := 56) (k := 7) (j := 0) (dc_X7_readAfter 56 (104, .getfield 18, 3) rfl rfl) rfl clf_7 (by decide) rfl (by decide) wd_277,
    st_callV hC (n := 57) (k := 4) (na := 0) (con_X4_step l) (dc_X7_readAfter 57 (107, .invokevirtual 76, 3) rfl rfl) rfl wd_859 wd_144 (by decide) ⟨rfl, rfl, by decide, by decide⟩ hM wd_879 wd_857 wd_858 clf_4,
    st_aload_n hC (n := 58) (k := 0) (dc_X7_readAfter 58 (110, .aload_n 0, 1) rfl rfl) rfl rfl,
    st_getC hC (n := 59) (k := 7) (j := 0) (dc_X7_readAfter 59 (111, .getfield 18, 3) rfl rfl) rfl clf_7 (by decide) rfl (by decide) wd_277,
    st_bipush hC (n := 60) (x := 33) (dc_X7_readAfter 60 (114, .bipush 33, 2) rfl rfl) rfl (by decide),
    st_callV hC (n := 61) (k := 4) (na := 1) (con_X4_skip l) (dc_X7_readAfter 61 (116, .invokevirtual 91, 3) rfl rfl) rfl wd_900 wd_144 (by decide) ⟨rfl, rfl, by decide, by decide⟩ hM wd_897 wd_898 wd_899 clf_4,
    st_ifne hC (n := 62) (dc_X7_readAfter 62 (119, .ifCond .ne 5, 3) rfl rfl) rfl (by decide),
    st_iconst hC (n := 63) (x := 0) (dc_X7_readAfter 63 (122, .iconst 0, 1) rfl rfl) rfl (by decide),
    st_zret hC (n := 64) hR (dc_X7_readAfter 64 (123, .ireturn, 1) rfl rfl),
    st_aload_n hC (n := 65) (k := 1) (dc_X7_readAfter 65 (124, .aload_n 1, 1) rfl rfl) rfl rfl,
    st_getR hC (n := 66) (k := 6) (j := 8) (dc_X7_readAfter 66 (125, .getfield 146, 3) rfl rfl) rfl clf_6 (by decide) rfl (by decide) wd_603,
    st_iload_n hC (n := 67) (k := 2) (dc_X7_readAfter 67 (128, .iload_n 2, 1) rfl rfl) rfl rfl,
    st_dup2 hC (n := 68) (dc_X7_readAfter 68 (129, .dup2, 1) rfl rfl) rfl,
    st_iald hC (n := 69) (dc_X7_readAfter 69 (130, .iaload, 1) rfl rfl) rfl,
    st_iconst hC (n := 70) (x := 1) (dc_X7_readAfter 70 (131, .iconst 1, 1) rfl rfl) rfl (by decide),
    st_iload_n hC (n := 71) (k := 3) (dc_X7_readAfter 71 (132, .iload_n 3, 1) rfl rfl) rfl rfl,
    st_ishl hC (n := 72) (dc_X7_readAfter 72 (133, .ishl, 1) rfl rfl) rfl,
    st_ior hC (n := 73) (dc_X7_readAfter 73 (134, .ior, 1) rfl rfl) rfl,
    st_iast hC (n := 74) (dc_X7_readAfter 74 (135, .iastore, 1) rfl rfl) rfl,
    st_aload_n hC (n := 75) (k := 1) (dc_X7_readAfter 75 (136, .aload_n 1, 1) rfl rfl) rfl rfl,
    st_dup hC (n := 76) (dc_X7_readAfter 76 (137, .dup, 1) rfl rfl) rfl,
    st_getI hC (n := 77) (k := 6) (j := 16) (dc_X7_readAfter 77 (138, .getfield 137, 3) rfl rfl) rfl clf_6 (by decide) rfl wd_635,
    st_iconst hC (n := 78) (x := 1) (dc_X7_readAfter 78 (141, .iconst 1, 1) rfl rfl) rfl (by decide),
    st_iadd hC (n := 79) (dc_X7_readAfter 79 (142, .iadd, 1) rfl rfl) rfl,
    st_putI hC (n := 80) (k := 6) (j := 16) (dc_X7_readAfter 80 (143, .putfield 137, 3) rfl rfl) rfl clf_6 (by decide) rfl rfl rfl wd_635,
    st_iconst hC (n := 81) (x := 1) (dc_X7_readAfter 81 (146, .iconst 1, 1) rfl rfl) rfl (by decide),
    st_zret hC (n := 82) hR (dc_X7_readAfter 82 (147, .ireturn, 1) rfl rfl), trivial⟩
set_option maxRecDepth 8000 in
theorem vc_X7_readAfter : VC P_X7_readAfter 4 Pre_X7_readAfter Fn_X7_readAfter := by
  rintro mm as hom hoa ⟨g, ns, nm, nt, na, hJ, rfl⟩
  refine ⟨Nat.le_of_ble_eq_true rfl, fun X h => ?_⟩
  replace h : RUN P_X7_readAfter (RT (c7aC g mm)) X := h
  have hnt12 := hJ.2.2.2.1.2
  have s65 : ∀ M p l s a b, l = nI a → a < nt → s = nI b → p = c7aD g l s M → RUN P_X7_readAfter (RT p) X → X 65 [some (vR 7 0), some (vR 6 g), some (vI (l)), some (vI (s))] [] (M) := by
    intro M p l s a b ha hat hb hp h
    show X 65 [some (vR 7 0), some (vR 6 g), some (vI l), some (vI s)] [] M
    refine h (fun _ => false) 3000 65 _ _ _ ?_
    refine And.intro (show inb l (alen 37) = true from (inb_o 12 rfl rfl ha (by omega))) ?_
    refine And.intro (show inb l (alen 37) = true from (inb_o 12 rfl rfl ha (by omega))) ?_
    refine And.intro (Or.inr rfl) ?_
    show ((some (vI 1) : Option MV), mI (mRow M 37 g (upd (M.1 37 g) l.toNatClampNeg ((M.1 37 g l.toNatClampNeg) ||| (1 <<< (s &&& 31))))) 6 g 16 ((M.1 6 g 16) + 1)) = _
    exact PR_t hp
  have s55 : ∀ M p l s a b, l = nI a → a < nt → s = nI b → CJ M g ns nm nt na → p = pBd (skC (spM M) 33) (c7aD g l s) → RUN P_X7_readAfter (RT p) X → X 55 [some (vR 7 0), some (vR 6 g), some (vI (l)), some (vI (s))] [] (M) := by
    intro M p l s a b ha hat hb hM hp h
    show X 55 [some (vR 7 0), some (vR 6 g), some (vI l), some (vI s)] [] M
    refine h (fun i => Nat.beq i 65) 3000 55 _ _ _ ?_
    refine And.intro (show Pre_X4_step M [vR 4 0] from ⟨hM.1, rfl⟩) ?_
    refine And.intro (show Pre_X4_skip (spM M) [vR 4 0, vI 33] from ⟨TXp_sp hM.1, _, rfl⟩) ?_
    refine brn_c (fun b62 => ?_) (fun b62 => ?_)
    · -- 62: bI ((skC (spM M) 33).1 = true) = 0 taken
      replace b62 : (skC (spM M) 33).1 = true := bI_n0.mp b62
      show X 65 [some (vR 7 0), some (vR 6 g), some (vI l), some (vI s)] [] ((skC (spM M) 33).2)
      exact s65 _ _ _ _ a b ha hat hb (by rw [hp, pBd_t b62]) h
    · -- 62: bI ((skC (spM M) 33).1 = true) = 0 on
      replace b62 : ¬ ((skC (spM M) 33).1 = true) := bI_0.mp b62
      refine And.intro (Or.inl rfl) ?_
      show ((some (vI 0) : Option MV), (skC (spM M) 33).2) = _
      exact PR_f (by rw [hp, pBd_f b62])
  have s38 : ∀ M p l s a b, l = nI a → a < nt → s = nI b → b < nt → CJ M g ns nm nt na → p = c7aB g l s M → RUN P_X7_readAfter (RT p) X → X 38 [some (vR 7 0), some (vR 6 g), some (vI (l)), some (vI (s))] [] (M) := by
    intro M p l s a b ha hat hb hbt hM hp h
    unfold c7aB at hp
    show X 38 [some (vR 7 0), some (vR 6 g), some (vI l), some (vI s)] [] M
    refine h (fun i => Nat.beq i 55) 3000 38 _ _ _ ?_
    refine br_c (fun b40 => ?_) (fun b40 => ?_)
    · -- 40: l = s taken
      replace b40 : l = s := b40
      refine And.intro (show Pre_X4_fail M [vR 4 0, vI 5] from ⟨_, rfl⟩) ?_
      refine And.intro (Or.inl rfl) ?_
      show ((some (vI 0) : Option MV), faC M 5) = _
      exact PR_f (by rw [hp, if_pos (Or.inl b40)])
    · -- 40: l = s on
      replace b40 : ¬ (l = s) := b40
      refine And.intro (show inb l (alen 35) = true from (inb_o 12 rfl rfl ha (by omega))) ?_
      refine And.intro (show inb s (alen 35) = true from (inb_o 12 rfl rfl hb (by omega))) ?_
      refine br_c (fun b49 => ?_) (fun b49 => ?_)
      · -- 49: M.1 35 g l.toNatClampNeg = M.1 35 g s.toNatClampNeg taken
        replace b49 : M.1 35 g l.toNatClampNeg = M.1 35 g s.toNatClampNeg := b49
        show X 55 [some (vR 7 0), some (vR 6 g), some (vI l), some (vI s)] [] M
        exact s55 _ _ _ _ a b ha hat hb hM (by rw [hp, if_neg (fun z => z.elim b40 (fun y => y b49))]) h
      · -- 49: M.1 35 g l.toNatClampNeg = M.1 35 g s.toNatClampNeg on
        replace b49 : ¬ (M.1 35 g l.toNatClampNeg = M.1 35 g s.toNatClampNeg) := b49
        refine And.intro (show Pre_X4_fail M [vR 4 0, vI 5] from ⟨_, rfl⟩) ?_
        refine And.intro (Or.inl rfl) ?_
        show ((some (vI 0) : Option MV), faC M 5) = _
        exact PR_f (by rw [hp, if_pos (Or.inr b49)])
  have s25 : ∀ M p l a, l = nI a → a < nt → CJ M g ns nm nt na → p = c7aA g l M → RUN P_X7_readAfter (RT p) X → X 25 [some (vR 7 0), some (vR 6 g), some (vI (l)), none] [] (M) := by
    intro M p l a ha hat hM hp h
    unfold c7aA at hp
    show X 25 [some (vR 7 0), some (vR 6 g), some (vI l), none] [] M
    refine h (fun i => Nat.beq i 38) 3000 25 _ _ _ ?_
    refine And.intro (show Pre_X4_find M [vR 4 0, vR 29 g, vI 8, vI (M.1 6 g 15)] from ⟨g, 8, nt, by omega, congrArg (fun z => [vR 4 0, vR 29 g, vI 8, vI z]) hM.2.2.2.1.1⟩) ?_
    refine br_c (fun b35 => ?_) (fun b35 => ?_)
    · -- 35: 0 ≤ (fdC M g 8 (M.1 6 g 15).toNatClampNeg).1 taken
      replace b35 : 0 ≤ (fdC M g 8 (M.1 6 g 15).toNatClampNeg).1 := b35
      show X 38 [some (vR 7 0), some (vR 6 g), some (vI l), some (vI ((fdC M g 8 (M.1 6 g 15).toNatClampNeg).1))] [] ((fdC M g 8 (M.1 6 g 15).toNatClampNeg).2)
      obtain ⟨b, hb, eb⟩ := fdC_in (Int32.not_lt.mpr b35)
      rw [hM.2.2.2.1.1, nI_clamp (show nt < 2 ^ 31 by omega)] at hb 
      exact s38 _ _ _ _ a b ha hat eb hb (CJ_fd hM) (by rw [hp, pBi_t (Int32.not_lt.mpr b35)]) h
    · -- 35: 0 ≤ (fdC M g 8 (M.1 6 g 15).toNatClampNeg).1 on
      replace b35 : ¬ (0 ≤ (fdC M g 8 (M.1 6 g 15).toNatClampNeg).1) := b35
      refine And.intro (Or.inl rfl) ?_
      show ((some (vI 0) : Option MV), (fdC M g 8 (M.1 6 g 15).toNatClampNeg).2) = _
      exact PR_f (by rw [hp, pBi_f (Int32.not_le.mp b35)])
  have s9 : ∀ p, p = pBi (meC (spM mm) g 8 ((spM mm).1 6 g 15).toNatClampNeg) (c7aA g) → RUN P_X7_readAfter (RT p) X → X 9 [some (vR 7 0), some (vR 6 g), none, none] [] mm := by
    intro p hp h
    show X 9 [some (vR 7 0), some (vR 6 g), none, none] [] mm
    refine h (fun i => Nat.beq i 25) 3000 9 _ _ _ ?_
    refine And.intro (show Pre_X4_step mm [vR 4 0] from ⟨hJ.1, rfl⟩) ?_
    refine And.intro (show Pre_X4_member (spM mm) [vR 4 0, vR 29 g, vI 8, vI ((spM mm).1 6 g 15)] from ⟨TXp_sp hJ.1, g, 8, nt, by omega, congrArg (fun z => [vR 4 0, vR 29 g, vI 8, vI z]) (CJ_sp hJ).2.2.2.1.1⟩) ?_
    refine br_c (fun b22 => ?_) (fun b22 => ?_)
    · -- 22: 0 ≤ (meC (spM mm) g 8 ((spM mm).1 6 g 15).toNatClampNeg).1 taken
      replace b22 : 0 ≤ (meC (spM mm) g 8 ((spM mm).1 6 g 15).toNatClampNeg).1 := b22
      show X 25 [some (vR 7 0), some (vR 6 g), some (vI ((meC (spM mm) g 8 ((spM mm).1 6 g 15).toNatClampNeg).1)), none] [] ((meC (spM mm) g 8 ((spM mm).1 6 g 15).toNatClampNeg).2)
      obtain ⟨a, ha, ea⟩ := meC_in (Int32.not_lt.mpr b22)
      rw [(CJ_sp hJ).2.2.2.1.1, nI_clamp (show nt < 2 ^ 31 by omega)] at ha 
      exact s25 _ _ _ a ea ha (CJ_me (CJ_sp hJ)) (by rw [hp, pBi_t (Int32.not_lt.mpr b22)]) h
    · -- 22: 0 ≤ (meC (spM mm) g 8 ((spM mm).1 6 g 15).toNatClampNeg).1 on
      replace b22 : ¬ (0 ≤ (meC (spM mm) g 8 ((spM mm).1 6 g 15).toNatClampNeg).1) := b22
      refine And.intro (Or.inl rfl) ?_
      show ((some (vI 0) : Option MV), (meC (spM mm) g 8 ((spM mm).1 6 g 15).toNatClampNeg).2) = _
      exact PR_f (by rw [hp, pBi_f (Int32.not_le.mp b22)])
  unfold c7aC at h
  show X 0 [some (vR 7 0), some (vR 6 g), none, none] [] mm
  refine h (fun i => Nat.beq i 9) 3000 0 _ _ _ ?_
  refine br_c (fun b3 => ?_) (fun b3 => ?_)
  · -- 3: mm.1 6 g 16 < 12 taken
    replace b3 : mm.1 6 g 16 < 12 := b3
    show X 9 [some (vR 7 0), some (vR 6 g), none, none] [] mm
    rw [if_pos b3] at h
    exact s9 _ rfl h
  · -- 3: mm.1 6 g 16 < 12 on
    replace b3 : ¬ (mm.1 6 g 16 < 12) := b3
    refine And.intro (show Pre_X4_fail mm [vR 4 0, vI 6] from ⟨_, rfl⟩) ?_
    refine And.intro (Or.inl rfl) ?_
    show ((some (vI 0) : Option MV), faC mm 6) = _
    exact PR_f (by rw [if_neg b3])
theorem con_X7_readAfter (l : Launch) : CON l y_X7_readAfter prog_9_method_7_code 4 (some .boolean) rm_X7_readAfter Pre_X7_readAfter Fn_X7_readAfter := CON_of (by decide) rfl rfl (sa_X7_readAfter l) vc_X7_readAfter
def c7lF (g : Nat) (s d w : Int32) (m : MM) : PR := (true, mRow m 31 g (upd (m.1 31 g) (s * 4 + d).toNatClampNeg w))
def c7lE (g : Nat) (s d w : Int32) (m : MM) : PR := pBd (skC m 33) (c7lF g s d w)
def c7lD (g : Nat) (s d : Int32) (m : MM) : PR := pBi (amC m 0 99) (c7lE g s d)
def c7lB (g : Nat) (s : Int32) (m : MM) : PR := pBi (meC m g 4 (m.1 6 g 14).toNatClampNeg) (c7lD g s)
def c7lC (g : Nat) (m : MM) : PR := pBi (meC (spM m) g 0 ((spM m).1 6 g 13).toNatClampNeg) (c7lB g)

--tpl ⟨_, _, _, _, _, by assumption, rfl⟩ || bI ((c7lC {g1} {m}).1 = true) || (c7lC {g1} {m}).2
def Pre_X7_readLikes : PreT := fun m as => ∃ g ns nm nt na : Nat, CJ m g ns nm nt na ∧ as = [vR 7 0, vR 6 g]
def Fn_X7_readLikes : FnT := fun m as => match as with
  | [_, Sum.inr (Sum.inr q)] => (some (vI (bI ((c7lC q.2 m).1 = true))), (c7lC q.2 m).2)
  | _ => (none, m)
abbrev y_X7_readLikes : MethodName := ⟨"GivenUp$ValleyReader", "readLikes", "(LGivenUp$Valley;)Z"⟩
def P_X7_readLikes : List StpT := [s_aload 0, s_getC 7 0 4 0, s_callV 4 0 Pre_X4_step Fn_X4_step, s_aload 0, s_getC 7 0 4 0, s_aload 1, s_getR 6 0 29, s_ic (0), s_aload 1, s_getI 6 13, s_callV 4 3 Pre_X4_member Fn_X4_member, s_istore 2, s_iload 2, s_ifge 16, s_ic (0), s_zret, s_aload 0, s_getC 7 0 4 0, s_aload 1, s_getR 6 0 29, s_ic (4), s_aload 1, s_getI 6 14, s_callV 4 3 Pre_X4_member Fn_X4_member, s_istore 3, s_iload 3, s_ifge 29, s_ic (0), s_zret, s_aload 0, s_getC 7 0 4 0, s_ic (0), s_ic (99), s_callV 4 2 Pre_X4_amount Fn_X4_amount, s_istore 4, s_iload 4, s_iflt 42, s_aload 0, s_getC 7 0 4 0, s_ic (33), s_callV 4 1 Pre_X4_skip Fn_X4_skip, s_ifne 44, s_ic (0), s_zret, s_aload 1, s_getR 6 2 31, s_iload 2, s_ic (4), s_imul, s_iload 3, s_iadd, s_iload 4, s_iast, s_ic (1), s_zret]
def pc_X7_readLikes : Nat → Nat := fun i => [0, 1, 4, 7, 8, 11, 12, 15, 16, 17, 20, 23, 24, 25, 28, 29, 30, 31, 34, 35, 38, 39, 40, 43, 46, 47, 48, 51, 52, 53, 54, 57, 58, 60, 63, 65, 67, 70, 71, 74, 76, 79, 82, 83, 84, 85, 88, 89, 90, 91, 92, 93, 95, 96, 97].getD i 0
def dl_X7_readLikes : List (Nat × Instr × Nat) := [(0, .aload_n 0, 1), (1, .getfield 18, 3), (4, .invokevirtual 76, 3), (7, .aload_n 0, 1), (8, .getfield 18, 3), (11, .aload_n 1, 1), (12, .getfield 79, 3), (15, .iconst 0, 1), (16, .aload_n 1, 1), (17, .getfield 69, 3), (20, .invokevirtual 126, 3), (23, .istore_n 2, 1), (24, .iload_n 2, 1), (25, .ifCond .ge 5, 3), (28, .iconst 0, 1), (29, .ireturn, 1), (30, .aload_n 0, 1), (31, .getfield 18, 3), (34, .aload_n 1, 1), (35, .getfield 79, 3), (38, .iconst 4, 1), (39, .aload_n 1, 1), (40, .getfield 107, 3), (43, .invokevirtual 126, 3), (46, .istore_n 3, 1), (47, .iload_n 3, 1), (48, .ifCond .ge 5, 3), (51, .iconst 0, 1), (52, .ireturn, 1), (53, .aload_n 0, 1), (54, .getfield 18, 3), (57, .iconst 0, 1), (58, .bipush 99, 2), (60, .invokevirtual 110, 3), (63, .istore 4, 2), (65, .iload 4, 2), (67, .ifCond .lt 15, 3), (70, .aload_n 0, 1), (71, .getfield 18, 3), (74, .bipush 33, 2), (76, .invokevirtual 91, 3), (79, .ifCond .ne 5, 3), (82, .iconst 0, 1), (83, .ireturn, 1), (84, .aload_n 1, 1), (85, .getfield 149, 3), (88, .iload_n 2, 1), (89, .iconst 4, 1), (90, .imul, 1), (91, .iload_n 3, 1), (92, .iadd, 1), (93, .iload 4, 2), (95, .iastore, 1), (96, .iconst 1, 1), (97, .ireturn, 1)]
theorem dc_X7_readLikes : DEC prog_9_method_8_code pc_X7_readLikes dl_X7_readLikes := DEC_of (by decide +kernel)
abbrev rm_X7_readLikes : Room := { frames := 4, cells := 0, slots := 0, locals := 89 }
set_option maxRecDepth 20000 in
theorem sa_X7_readLikes (l : Launch) : SNDALL l prog_9_method_8_code "GivenUp$ValleyReader" 5 (some .boolean) rm_X7_readLikes P_X7_readLikes pc_X7_readLikes := fun p e s m args below meth c cells slots Q D dA ad A RR hC hR => by
  have hM := RTX_room (R := rm_X7_readLikes) hR
  exact ⟨st_aload_n hC (n := 0) (k := 0) (dc_X7_readLikes 0 (0, .aload_n 0, 1) rfl rfl) rfl rfl,
    st_getC hC (n := 1) (k := 7) (j := 0) (dc_X7_readLikes 1 (1, .getfield 18, 3) rfl rfl) rfl clf_7 (by decide) rfl (by decide) wd_277,
    st_callV hC (n := 2) (k := 4) (na := 0) (con_X4_step l) (dc_X7_readLikes 2 (4, .invokevirtual 76, 3) rfl rfl) rfl wd_859 wd_144 (by decide) ⟨rfl, rfl, by decide, by decide⟩ hM wd_879 wd_857 wd_858 clf_4,
    st_aload_n hC (n := 3) (k := 0) (dc_X7_readLikes 3 (7, .aload_n 0, 1) rfl rfl) rfl rfl,
    st_getC hC (n := 4) (k := 7) (j := 0) (dc_X7_readLikes 4 (8, .getfield 18, 3) rfl rfl) rfl clf_7 (by decide) rfl (by decide) wd_277,
    st_aload_n hC (n := 5) (k := 1) (dc_X7_readLikes 5 (11, .aload_n 1, 1) rfl rfl) rfl rfl,
    st_getR hC (n := 6) (k := 6) (j := 0) (dc_X7_readLikes 6 (12, .getfield 79, 3) rfl rfl) rfl clf_6 (by decide) rfl (by decide) wd_576,
    st_iconst hC (n := 7) (x := 0) (dc_X7_readLikes 7 (15, .iconst 0, 1) rfl rfl) rfl (by decide),
    st_aload_n hC (n := 8) (k := 1) (dc_X7_readLikes 8 (16, .aload_n 1, 1) rfl rfl) rfl rfl,
    st_getI hC (n := 9) (k := 6) (j := 13) (dc_X7_readLikes 9 (17, .getfield 69, 3) rfl rfl) rfl clf_6 (by decide) rfl wd_620,
    st_callV hC (n := 10) (k := 4) (na := 3) (con_X4_member l) (dc_X7_readLikes 10 (20, .invokevirtual 126, 3) rfl rfl) rfl wd_913 wd_144 (by decide) ⟨rfl, rfl, by decide, by decide⟩ hM wd_910 wd_911 wd_912 clf_4,
    st_istore_n hC (n := 11) (k := 2) (dc_X7_readLikes 11 (23, .istore_n 2, 1) rfl rfl) rfl rfl (by decide),
    st_iload_n hC (n := 12) (k := 2) (dc_X7_readLikes 12 (24, .iload_n 2, 1) rfl rfl) rfl rfl,
    st_ifge hC (n := 13) (dc_X7_readLikes 13 (25, .ifCond .ge 5, 3) rfl rfl) rfl (by decide),
    st_iconst hC (n := 14) (x := 0) (dc_X7_readLikes 14 (28, .iconst 0, 1) rfl rfl) rfl (by decide),
    st_zret hC (n := 15) hR (dc_X7_readLikes 15 (29, .ireturn, 1) rfl rfl),
    st_aload_n hC (n := 16) (k := 0) (dc_X7_readLikes 16 (30, .aload_n 0, 1) rfl rfl) rfl rfl,
    st_getC hC (n := 17) (k := 7) (j := 0) (dc_X7_readLikes 17 (31, .getfield 18, 3) rfl rfl) rfl clf_7 (by decide) rfl (by decide) wd_277,
    st_aload_n hC (n := 18) (k := 1) (dc_X7_readLikes 18 (34, .aload_n 1, 1) rfl rfl) rfl rfl,
    st_getR hC (n := 19) (k := 6) (j := 0) (dc_X7_readLikes 19 (35, .getfield 79, 3) rfl rfl) rfl clf_6 (by decide) rfl (by decide) wd_576,
    st_iconst hC (n := 20) (x := 4) (dc_X7_readLikes 20 (38, .iconst 4, 1) rfl rfl) rfl (by decide),
    st_aload_n hC (n := 21) (k := 1) (dc_X7_readLikes 21 (39, .aload_n 1, 1) rfl rfl) rfl rfl,
    st_getI hC (n := 22) (k := 6) (j := 14) (dc_X7_readLikes 22 (40, .getfield 107, 3) rfl rfl) rfl clf_6 (by decide) rfl wd_626,
    st_callV hC (n := 23) (k := 4) (na := 3) (con_X4_member l) (dc_X7_readLikes 23 (43, .invokevirtual 126, 3) rfl rfl) rfl wd_913 wd_144 (by decide) ⟨rfl, rfl, by decide, by decide⟩ hM wd_910 wd_911 wd_912 clf_4,
    st_istore_n hC (n := 24) (k := 3) (dc_X7_readLikes 24 (46, .istore_n 3, 1) rfl rfl) rfl rfl (by decide),
    st_iload_n hC (n := 25) (k := 3) (dc_X7_readLikes 25 (47, .iload_n 3, 1) rfl rfl) rfl rfl,
    st_ifge hC (n := 26) (dc_X7_readLikes 26 (48, .ifCond .ge 5, 3) rfl rfl) rfl (by decide),
    st_iconst hC (n := 27) (x := 0) (dc_X7_readLikes 27 (51, .iconst 0, 1) rfl rfl) rfl (by decide),
    st_zret hC (n := 28) hR (dc_X7_readLikes 28 (52, .ireturn, 1) rfl rfl),
    st_aload_n hC (n := 29) (k := 0) (dc_X7_readLikes 29 (53, .aload_n 0, 1) rfl rfl) rfl rfl,
    st_getC hC (n := 30) (k := 7) (j := 0) (dc_X7_readLikes 30 (54, .getfield 18, 3) rfl rfl) rfl clf_7 (by decide) rfl (by decide) wd_277,
    st_iconst hC (n := 31) (x := 0) (dc_X7_readLikes 31 (57, .iconst 0, 1) rfl rfl) rfl (by decide),
    st_bipush hC (n := 32) (x := 99) (dc_X7_readLikes 32 (58, .bipush 99, 2) rfl rfl) rfl (by decide),
    st_callV hC (n := 33) (k := 4) (na := 2) (con_X4_amount l) (dc_X7_readLikes 33 (60, .invokevirtual 110, 3) rfl rfl) rfl wd_896 wd_144 (by decide) ⟨rfl, rfl, by decide, by decide⟩ hM wd_905 wd_894 wd_895 clf_4,
    st_istore hC (n := 34) (dc_X7_readLikes 34 (63, .istore 4, 2) rfl rfl) rfl (by decide),
    st_iload hC (n := 35) (dc_X7_readLikes 35 (65, .iload 4, 2) rfl rfl) rfl,
    st_iflt hC (n := 36) (dc_X7_readLikes 36 (67, .ifCond .lt 15, 3) rfl rfl) rfl (by decide),
    st_aload_n hC (n := 37) (k := 0) (dc_X7_readLikes 37 (70, .aload_n 0, 1) rfl rfl) rfl rfl,
    st_getC hC (n := 38) (k := 7) (j := 0) (dc_X7_readLikes 38 (71, .getfield 18, 3) rfl rfl) rfl clf_7 (by decide) rfl (by decide) wd_277,
    st_bipush hC (n := 39) (x := 33) (dc_X7_readLikes 39 (74, .bipush 33, 2) rfl rfl) rfl (by decide),
    st_callV hC (n := 40) (k := 4) (na := 1) (con_X4_skip l) (dc_X7_readLikes 40 (76, .invokevirtual 91, 3) rfl rfl) rfl wd_900 wd_144 (by decide) ⟨rfl, rfl, by decide, by decide⟩ hM wd_897 wd_898 wd_899 clf_4,
    st_ifne hC (n := 41) (dc_X7_readLikes 41 (79, .ifCond .ne 5, 3) rfl rfl) rfl (by decide),
    st_iconst hC (n := 42) (x := 0) (dc_X7_readLikes 42 (82, .iconst 0, 1) rfl rfl) rfl (by decide),
    st_zret hC (n := 43) hR (dc_X7_readLikes 43 (83, .ireturn, 1) rfl rfl),
    st_aload_n hC (n := 44) (k := 1) (dc_X7_readLikes 44 (84, .aload_n 1, 1) rfl rfl) rfl rfl,
    st_getR hC (n := 45) (k := 6) (j := 2) (dc_X7_readLikes 45 (85, .getfield 149, 3) rfl rfl) rfl clf_6 (by decide) rfl (by decide) wd_583,
    st_iload_n hC (n := 46) (k := 2) (dc_X7_readLikes 46 (88, .iload_n 2, 1) rfl rfl) rfl rfl,
    st_iconst hC (n := 47) (x := 4) (dc_X7_readLikes 47 (89, .iconst 4, 1) rfl rfl) rfl (by decide),
    st_imul hC (n := 48) (dc_X7_readLikes 48 (90, .imul, 1) rfl rfl) rfl,
    st_iload_n hC (n := 49) (k := 3) (dc_X7_readLikes 49 (91, .iload_n 3, 1) rfl rfl) rfl rfl,
    st_iadd hC (n := 50) (dc_X7_readLikes 50 (92, .iadd, 1) rfl rfl) rfl,
    st_iload hC (n := 51) (dc_X7_readLikes 51 (93, .iload 4, 2) rfl rfl) rfl,
    st_iast hC (n := 52) (dc_X7_readLikes 52 (95, .iastore, 1) rfl rfl) rfl,
    st_iconst hC (n := 53) (x := 1) (dc_X7_readLikes 53 (96, .iconst 1, 1) rfl rfl) rfl (by decide),
    st_zret hC (n := 54) hR (dc_X7_readLikes 54 (97, .ireturn, 1) rfl rfl), trivial⟩
set_option maxRecDepth 8000 in
theorem vc_X7_readLikes : VC P_X7_readLikes 5 Pre_X7_readLikes Fn_X7_readLikes := by
  rintro mm as hom hoa ⟨g, ns, nm, nt, na, hJ, rfl⟩
  refine ⟨Nat.le_of_ble_eq_true rfl, fun X h => ?_⟩
  replace h : RUN P_X7_readLikes (RT (c7lC g mm)) X := h
  have hnm4 := hJ.2.2.1.2
  have hns4 := hJ.2.1.2
  have s29 : ∀ M p t d a b, t = nI a → a < ns → d = nI b → b < nm → CJ M g ns nm nt na → p = c7lD g t d M → RUN P_X7_readLikes (RT p) X → X 29 [some (vR 7 0), some (vR 6 g), some (vI (t)), some (vI (d)), none] [] (M) := by
    intro M p t d a b ha hat hb hbm hM hp h
    unfold c7lD at hp
    show X 29 [some (vR 7 0), some (vR 6 g), some (vI t), some (vI d), none] [] M
    refine h (fun _ => false) 3000 29 _ _ _ ?_
    refine And.intro (show Pre_X4_amount M [vR 4 0, vI 0, vI 99] from ⟨hM.1, _, _, rfl⟩) ?_
    refine br_c (fun b36 => ?_) (fun b36 => ?_)
    · -- 36: (amC M 0 99).1 < 0 taken
      replace b36 : (amC M 0 99).1 < 0 := b36
      refine And.intro (Or.inl rfl) ?_
      show ((some (vI 0) : Option MV), (amC M 0 99).2) = _
      exact PR_f (by rw [hp, pBi_f b36])
    · -- 36: (amC M 0 99).1 < 0 on
      replace b36 : ¬ ((amC M 0 99).1 < 0) := b36
      refine And.intro (show Pre_X4_skip ((amC M 0 99).2) [vR 4 0, vI 33] from ⟨TXp_am hM.1, _, rfl⟩) ?_
      refine brn_c (fun b41 => ?_) (fun b41 => ?_)
      · -- 41: bI ((skC ((amC M 0 99).2) 33).1 = true) = 0 taken
        replace b41 : (skC ((amC M 0 99).2) 33).1 = true := bI_n0.mp b41
        refine And.intro (show inb ((t * 4) + d) (alen 31) = true from (by rw [ha, hb]; exact inb_o 16 rfl rfl (j := a * 4 + b) (by simp (disch := omega) only [li, pk_mul, nI_add, nI_clamp]) (by omega))) ?_
        refine And.intro (Or.inr rfl) ?_
        show ((some (vI 1) : Option MV), mRow ((skC ((amC M 0 99).2) 33).2) 31 g (upd (((skC ((amC M 0 99).2) 33).2).1 31 g) ((t * 4) + d).toNatClampNeg ((amC M 0 99).1))) = _
        exact PR_t (by rw [hp, pBi_t b36]; unfold c7lE; rw [pBd_t b41]; rfl)
      · -- 41: bI ((skC ((amC M 0 99).2) 33).1 = true) = 0 on
        replace b41 : ¬ ((skC ((amC M 0 99).2) 33).1 = true) := bI_0.mp b41
        refine And.intro (Or.inl rfl) ?_
        show ((some (vI 0) : Option MV), (skC ((amC M 0 99).2) 33).2) = _
        exact PR_f (by rw [hp, pBi_t b36]; unfold c7lE; rw [pBd_f b41])
  have s16 : ∀ M p t a, t = nI a → a < ns → CJ M g ns nm nt na → p = c7lB g t M → RUN P_X7_readLikes (RT p) X → X 16 [some (vR 7 0), some (vR 6 g), some (vI (t)), none, none] [] (M) := by
    intro M p t a ha hat hM hp h
    unfold c7lB at hp
    show X 16 [some (vR 7 0), some (vR 6 g), some (vI t), none, none] [] M
    refine h (fun i => Nat.beq i 29) 3000 16 _ _ _ ?_
    refine And.intro (show Pre_X4_member M [vR 4 0, vR 29 g, vI 4, vI (M.1 6 g 14)] from ⟨hM.1, g, 4, nm, by omega, congrArg (fun z => [vR 4 0, vR 29 g, vI 4, vI z]) hM.2.2.1.1⟩) ?_
    refine br_c (fun b26 => ?_) (fun b26 => ?_)
    · -- 26: 0 ≤ (meC M g 4 (M.1 6 g 14).toNatClampNeg).1 taken
      replace b26 : 0 ≤ (meC M g 4 (M.1 6 g 14).toNatClampNeg).1 := b26
      show X 29 [some (vR 7 0), some (vR 6 g), some (vI t), some (vI ((meC M g 4 (M.1 6 g 14).toNatClampNeg).1)), none] [] ((meC M g 4 (M.1 6 g 14).toNatClampNeg).2)
      obtain ⟨b, hb, eb⟩ := meC_in (Int32.not_lt.mpr b26)
      rw [hM.2.2.1.1, nI_clamp (show nm < 2 ^ 31 by omega)] at hb 
      exact s29 _ _ _ _ a b ha hat eb hb (CJ_me hM) (by rw [hp, pBi_t (Int32.not_lt.mpr b26)]) h
    · -- 26: 0 ≤ (meC M g 4 (M.1 6 g 14).toNatClampNeg).1 on
      replace b26 : ¬ (0 ≤ (meC M g 4 (M.1 6 g 14).toNatClampNeg).1) := b26
      refine And.intro (Or.inl rfl) ?_
      show ((some (vI 0) : Option MV), (meC M g 4 (M.1 6 g 14).toNatClampNeg).2) = _
      exact PR_f (by rw [hp, pBi_f (Int32.not_le.mp b26)])
  unfold c7lC at h
  obtain ⟨p, hp⟩ : ∃ p, p = pBi (meC (spM mm) g 0 ((spM mm).1 6 g 13).toNatClampNeg) (c7lB g) := ⟨_, rfl⟩
  rw [← hp] at h
  show X 0 [some (vR 7 0), some (vR 6 g), none, none, none] [] mm
  refine h (fun i => Nat.beq i 16) 3000 0 _ _ _ ?_
  refine And.intro (show Pre_X4_step mm [vR 4 0] from ⟨hJ.1, rfl⟩) ?_
  refine And.intro (show Pre_X4_member (spM mm) [vR 4 0, vR 29 g, vI 0, vI ((spM mm).1 6 g 13)] from ⟨TXp_sp hJ.1, g, 0, ns, by omega, congrArg (fun z => [vR 4 0, vR 29 g, vI 0, vI z]) (CJ_sp hJ).2.1.1⟩) ?_
  refine br_c (fun b13 => ?_) (fun b13 => ?_)
  · -- 13: 0 ≤ (meC (spM mm) g 0 ((spM mm).1 6 g 13).toNatClampNeg).1 taken
    replace b13 : 0 ≤ (meC (spM mm) g 0 ((spM mm).1 6 g 13).toNatClampNeg).1 := b13
    show X 16 [some (vR 7 0), some (vR 6 g), some (vI ((meC (spM mm) g 0 ((spM mm).1 6 g 13).toNatClampNeg).1)), none, none] [] ((meC (spM mm) g 0 ((spM mm).1 6 g 13).toNatClampNeg).2)
    obtain ⟨a, ha, ea⟩ := meC_in (Int32.not_lt.mpr b13)
    rw [(CJ_sp hJ).2.1.1, nI_clamp (show ns < 2 ^ 31 by omega)] at ha 
    exact s16 _ _ _ a ea ha (CJ_me (CJ_sp hJ)) (by rw [hp, pBi_t (Int32.not_lt.mpr b13)]) h
  · -- 13: 0 ≤ (meC (spM mm) g 0 ((spM mm).1 6 g 13).toNatClampNeg).1 on
    replace b13 : ¬ (0 ≤ (meC (spM mm) g 0 ((spM mm).1 6 g 13).toNatClampNeg).1) := b13
    refine And.intro (Or.inl rfl) ?_
    show ((some (vI 0) : Option MV), (meC (spM mm) g 0 ((spM mm).1 6 g 13).toNatClampNeg).2) = _
    exact PR_f (by rw [hp, pBi_f (Int32.not_le.mp b13)])
theorem con_X7_readLikes (l : Launch) : CON l y_X7_readLikes prog_9_method_8_code 5 (some .boolean) rm_X7_readLikes Pre_X7_readLikes Fn_X7_readLikes := CON_of (by decide) rfl rfl (sa_X7_readLikes l) vc_X7_readLikes
def c7wB (g : Nat) (w : Int32) (m : MM) : PR := (true, mI (mI m 6 g 17 w) 7 0 1 1)
def c7wA (g : Nat) (w : Int32) (m : MM) : PR := pBd (skC m 33) (c7wB g w)
def c7wC (g : Nat) (m : MM) : PR := if m.1 7 0 1 = 0 then pBi (amC (spM m) 1 9) (c7wA g) else (false, faC m 5)

--tpl ⟨by assumption, _, rfl⟩ || bI ((c7wC {g1} {m}).1 = true) || (c7wC {g1} {m}).2
def Pre_X7_readWeekly : PreT := fun m as => TXp m ∧ ∃ g : Nat, as = [vR 7 0, vR 6 g]
def Fn_X7_readWeekly : FnT := fun m as => match as with
  | [_, Sum.inr (Sum.inr q)] => (some (vI (bI ((c7wC q.2 m).1 = true))), (c7wC q.2 m).2)
  | _ => (none, m)
abbrev y_X7_readWeekly : MethodName := ⟨"GivenUp$ValleyReader", "readWeekly", "(LGivenUp$Valley;)Z"⟩
def P_X7_readWeekly : List StpT := [s_aload 0, s_getI 7 1, s_ifeq 8, s_aload 0, s_getC 7 0 4 0, s_ic (5), s_callV 4 1 Pre_X4_fail Fn_X4_fail, s_zret, s_aload 0, s_getC 7 0 4 0, s_callV 4 0 Pre_X4_step Fn_X4_step, s_aload 0, s_getC 7 0 4 0, s_ic (1), s_ic (9), s_callV 4 2 Pre_X4_amount Fn_X4_amount, s_istore 2, s_iload 2, s_iflt 24, s_aload 0, s_getC 7 0 4 0, s_ic (33), s_callV 4 1 Pre_X4_skip Fn_X4_skip, s_ifne 26, s_ic (0), s_zret, s_aload 1, s_iload 2, s_putI 6 17, s_aload 0, s_ic (1), s_putZ 7 1, s_ic (1), s_zret]
def pc_X7_readWeekly : Nat → Nat := fun i => [0, 1, 4, 7, 8, 11, 12, 15, 16, 17, 20, 23, 24, 27, 28, 30, 33, 34, 35, 38, 39, 42, 44, 47, 50, 51, 52, 53, 54, 57, 58, 59, 62, 63].getD i 0
def dl_X7_readWeekly : List (Nat × Instr × Nat) := [(0, .aload_n 0, 1), (1, .getfield 9, 3), (4, .ifCond .eq 12, 3), (7, .aload_n 0, 1), (8, .getfield 18, 3), (11, .iconst 5, 1), (12, .invokevirtual 72, 3), (15, .ireturn, 1), (16, .aload_n 0, 1), (17, .getfield 18, 3), (20, .invokevirtual 76, 3), (23, .aload_n 0, 1), (24, .getfield 18, 3), (27, .iconst 1, 1), (28, .bipush 9, 2), (30, .invokevirtual 110, 3), (33, .istore_n 2, 1), (34, .iload_n 2, 1), (35, .ifCond .lt 15, 3), (38, .aload_n 0, 1), (39, .getfield 18, 3), (42, .bipush 33, 2), (44, .invokevirtual 91, 3), (47, .ifCond .ne 5, 3), (50, .iconst 0, 1), (51, .ireturn, 1), (52, .aload_n 1, 1), (53, .iload_n 2, 1), (54, .putfield 152, 3), (57, .aload_n 0, 1), (58, .iconst 1, 1), (59, .putfield 9, 3), (62, .iconst 1, 1), (63, .ireturn, 1)]
theorem dc_X7_readWeekly : DEC prog_9_method_9_code pc_X7_readWeekly dl_X7_readWeekly := DEC_of (by decide +kernel)
abbrev rm_X7_readWeekly : Room := { frames := 3, cells := 0, slots := 0, locals := 64 }
set_option maxRecDepth 20000 in
theorem sa_X7_readWeekly (l : Launch) : SNDALL l prog_9_method_9_code "GivenUp$ValleyReader" 3 (some .boolean) rm_X7_readWeekly P_X7_readWeekly pc_X7_readWeekly := fun p e s m args below meth c cells slots Q D dA ad A RR hC hR => by
  have hM := RTX_room (R := rm_X7_readWeekly) hR
  exact ⟨st_aload_n hC (n := 0) (k := 0) (dc_X7_readWeekly 0 (0, .aload_n 0, 1) rfl rfl) rfl rfl,
    st_getI hC (n := 1) (k := 7) (j := 1) (dc_X7_readWeekly 1 (1, .getfield 9, 3) rfl rfl) rfl clf_7 (by decide) rfl wd_278,
    st_ifeq hC (n := 2) (dc_X7_readWeekly 2 (4, .ifCond .eq 12, 3) rfl rfl) rfl (by decide),
    st_aload_n hC (n := 3) (k := 0) (dc_X7_readWeekly 3 (7, .aload_n 0, 1) rfl rfl) rfl rfl,
    st_getC hC (n := 4) (k := 7) (j := 0) (dc_X7_readWeekly 4 (8, .getfield 18, 3) rfl rfl) rfl clf_7 (by decide) rfl (by decide) wd_277,
    st_iconst hC (n := 5) (x := 5) (dc_X7_readWeekly 5 (11, .iconst 5, 1) rfl rfl) rfl (by decide),
    st_callV hC (n := 6) (k := 4) (na := 1) (con_X4_fail l) (dc_X7_readWeekly 6 (12, .invokevirtual 72, 3) rfl rfl) rfl wd_878 wd_144 (by decide) ⟨rfl, rfl, by decide, by decide⟩ hM wd_875 wd_876 wd_877 clf_4,
    st_zret hC (n := 7) hR (dc_X7_readWeekly 7 (15, .ireturn, 1) rfl rfl),
    st_aload_n hC (n := 8) (k := 0) (dc_X7_readWeekly 8 (16, .aload_n 0, 1) rfl rfl) rfl rfl,
    st_getC hC (n := 9) (k := 7) (j := 0) (dc_X7_readWeekly 9 (17, .getfield 18, 3) rfl rfl) rfl clf_7 (by decide) rfl (by decide) wd_277,
    st_callV hC (n := 10) (k := 4) (na := 0) (con_X4_step l) (dc_X7_readWeekly 10 (20, .invokevirtual 76, 3) rfl rfl) rfl wd_859 wd_144 (by decide) ⟨rfl, rfl, by decide, by decide⟩ hM wd_879 wd_857 wd_858 clf_4,
    st_aload_n hC (n := 11) (k := 0) (dc_X7_readWeekly 11 (23, .aload_n 0, 1) rfl rfl) rfl rfl,
    st_getC hC (n := 12) (k := 7) (j := 0) (dc_X7_readWeekly 12 (24, .getfield 18, 3) rfl rfl) rfl clf_7 (by decide) rfl (by decide) wd_277,
    st_iconst hC (n := 13) (x := 1) (dc_X7_readWeekly 13 (27, .iconst 1, 1) rfl rfl) rfl (by decide),
    st_bipush hC (n := 14) (x := 9) (dc_X7_readWeekly 14 (28, .bipush 9, 2) rfl rfl) rfl (by decide),
    st_callV hC (n := 15) (k := 4) (na := 2) (con_X4_amount l) (dc_X7_readWeekly 15 (30, .invokevirtual 110, 3) rfl rfl) rfl wd_896 wd_144 (by decide) ⟨rfl, rfl, by decide, by decide⟩ hM wd_905 wd_894 wd_895 clf_4,
    st_istore_n hC (n := 16) (k := 2) (dc_X7_readWeekly 16 (33, .istore_n 2, 1) rfl rfl) rfl rfl (by decide),
    st_iload_n hC (n := 17) (k := 2) (dc_X7_readWeekly 17 (34, .iload_n 2, 1) rfl rfl) rfl rfl,
    st_iflt hC (n := 18) (dc_X7_readWeekly 18 (35, .ifCond .lt 15, 3) rfl rfl) rfl (by decide),
    st_aload_n hC (n := 19) (k := 0) (dc_X7_readWeekly 19 (38, .aload_n 0, 1) rfl rfl) rfl rfl,
    st_getC hC (n := 20) (k := 7) (j := 0) (dc_X7_readWeekly 20 (39, .getfield 18, 3) rfl rfl) rfl clf_7 (by decide) rfl (by decide) wd_277,
    st_bipush hC (n := 21) (x := 33) (dc_X7_readWeekly 21 (42, .bipush 33, 2) rfl rfl) rfl (by decide),
    st_callV hC (n := 22) (k := 4) (na := 1) (con_X4_skip l) (dc_X7_readWeekly 22 (44, .invokevirtual 91, 3) rfl rfl) rfl wd_900 wd_144 (by decide) ⟨rfl, rfl, by decide, by decide⟩ hM wd_897 wd_898 wd_899 clf_4,
    st_ifne hC (n := 23) (dc_X7_readWeekly 23 (47, .ifCond .ne 5, 3) rfl rfl) rfl (by decide),
    st_iconst hC (n := 24) (x := 0) (dc_X7_readWeekly 24 (50, .iconst 0, 1) rfl rfl) rfl (by decide),
    st_zret hC (n := 25) hR (dc_X7_readWeekly 25 (51, .ireturn, 1) rfl rfl),
    st_aload_n hC (n := 26) (k := 1) (dc_X7_readWeekly 26 (52, .aload_n 1, 1) rfl rfl) rfl rfl,
    st_iload_n hC (n := 27) (k := 2) (dc_X7_readWeekly 27 (53, .iload_n 2, 1) rfl rfl) rfl rfl,
    st_putI hC (n := 28) (k := 6) (j := 17) (dc_X7_readWeekly 28 (54, .putfield 152, 3) rfl rfl) rfl clf_6 (by decide) rfl rfl rfl wd_639,
    st_aload_n hC (n := 29) (k := 0) (dc_X7_readWeekly 29 (57, .aload_n 0, 1) rfl rfl) rfl rfl,
    st_iconst hC (n := 30) (x := 1) (dc_X7_readWeekly 30 (58, .iconst 1, 1) rfl rfl) rfl (by decide),
    st_putZ hC (n := 31) (k := 7) (j := 1) (dc_X7_readWeekly 31 (59, .putfield 9, 3) rfl rfl) rfl clf_7 (by decide) rfl rfl rfl wd_278,
    st_iconst hC (n := 32) (x := 1) (dc_X7_readWeekly 32 (62, .iconst 1, 1) rfl rfl) rfl (by decide),
    st_zret hC (n := 33) hR (dc_X7_readWeekly 33 (63, .ireturn, 1) rfl rfl), trivial⟩
set_option maxRecDepth 8000 in
theorem vc_X7_readWeekly : VC P_X7_readWeekly 3 Pre_X7_readWeekly Fn_X7_readWeekly := by
  rintro mm as hom hoa ⟨hT, g, rfl⟩
  refine ⟨Nat.le_of_ble_eq_true rfl, fun X h => ?_⟩
  replace h : RUN P_X7_readWeekly (RT (c7wC g mm)) X := h
  unfold c7wC at h
  have s17 : ∀ M p w, TXp M → ¬ w < 0 → p = c7wA g w M → RUN P_X7_readWeekly (RT p) X → X 19 [some (vR 7 0), some (vR 6 g), some (vI (w))] [] (M) := by
    intro M p w hM hw hp h
    unfold c7wA at hp
    show X 19 [some (vR 7 0), some (vR 6 g), some (vI w)] [] M
    refine h (fun _ => false) 3000 19 _ _ _ ?_
    refine And.intro (show Pre_X4_skip M [vR 4 0, vI 33] from ⟨hM, _, rfl⟩) ?_
    refine brn_c (fun b23 => ?_) (fun b23 => ?_)
    · -- 23: bI ((skC M 33).1 = true) = 0 taken
      replace b23 : (skC M 33).1 = true := bI_n0.mp b23
      refine And.intro (Or.inr rfl) ?_
      refine And.intro (Or.inr rfl) ?_
      show ((some (vI 1) : Option MV), mI (mI ((skC M 33).2) 6 g 17 w) 7 0 1 1) = _
      exact PR_t (by rw [hp, pBd_t b23]; rfl)
    · -- 23: bI ((skC M 33).1 = true) = 0 on
      replace b23 : ¬ ((skC M 33).1 = true) := bI_0.mp b23
      refine And.intro (Or.inl rfl) ?_
      show ((some (vI 0) : Option MV), (skC M 33).2) = _
      exact PR_f (by rw [hp, pBd_f b23])
  show X 0 [some (vR 7 0), some (vR 6 g), none] [] mm
  refine h (fun i => Nat.beq i 19) 3000 0 _ _ _ ?_
  refine br_c (fun b2 => ?_) (fun b2 => ?_)
  · -- 2: mm.1 7 0 1 = 0 taken
    replace b2 : mm.1 7 0 1 = 0 := b2
    refine And.intro (show Pre_X4_step mm [vR 4 0] from ⟨hT, rfl⟩) ?_
    refine And.intro (show Pre_X4_amount (spM mm) [vR 4 0, vI 1, vI 9] from ⟨TXp_sp hT, _, _, rfl⟩) ?_
    refine br_c (fun b18 => ?_) (fun b18 => ?_)
    · -- 18: (amC (spM mm) 1 9).1 < 0 taken
      replace b18 : (amC (spM mm) 1 9).1 < 0 := b18
      refine And.intro (Or.inl rfl) ?_
      show ((some (vI 0) : Option MV), (amC (spM mm) 1 9).2) = _
      exact PR_f (by rw [if_pos b2, pBi_f b18])
    · -- 18: (amC (spM mm) 1 9).1 < 0 on
      replace b18 : ¬ ((amC (spM mm) 1 9).1 < 0) := b18
      show X 19 [some (vR 7 0), some (vR 6 g), some (vI ((amC (spM mm) 1 9).1))] [] ((amC (spM mm) 1 9).2)
      exact s17 _ _ _ (TXp_am (TXp_sp hT)) b18 (by rw [if_pos b2, pBi_t b18]) h
  · -- 2: mm.1 7 0 1 = 0 on
    replace b2 : ¬ (mm.1 7 0 1 = 0) := b2
    refine And.intro (show Pre_X4_fail mm [vR 4 0, vI 5] from ⟨_, rfl⟩) ?_
    refine And.intro (Or.inl rfl) ?_
    show ((some (vI 0) : Option MV), faC mm 5) = _
    exact PR_f (by rw [if_neg b2])
theorem con_X7_readWeekly (l : Launch) : CON l y_X7_readWeekly prog_9_method_9_code 3 (some .boolean) rm_X7_readWeekly Pre_X7_readWeekly Fn_X7_readWeekly := CON_of (by decide) rfl rfl (sa_X7_readWeekly l) vc_X7_readWeekly
def c7fB (g : Nat) (w : Int32) (m : MM) : PR := (true, mI (mI m 6 g 18 w) 7 0 2 1)
def c7fA (g : Nat) (w : Int32) (m : MM) : PR := pBd (skC m 33) (c7fB g w)
def c7fC (g : Nat) (m : MM) : PR := if m.1 7 0 2 = 0 then pBi (amC (spM m) 1 20) (c7fA g) else (false, faC m 5)

--tpl ⟨by assumption, _, rfl⟩ || bI ((c7fC {g1} {m}).1 = true) || (c7fC {g1} {m}).2
def Pre_X7_readFair : PreT := fun m as => TXp m ∧ ∃ g : Nat, as = [vR 7 0, vR 6 g]
def Fn_X7_readFair : FnT := fun m as => match as with
  | [_, Sum.inr (Sum.inr q)] => (some (vI (bI ((c7fC q.2 m).1 = true))), (c7fC q.2 m).2)
  | _ => (none, m)
abbrev y_X7_readFair : MethodName := ⟨"GivenUp$ValleyReader", "readFair", "(LGivenUp$Valley;)Z"⟩
def P_X7_readFair : List StpT := [s_aload 0, s_getI 7 2, s_ifeq 8, s_aload 0, s_getC 7 0 4 0, s_ic (5), s_callV 4 1 Pre_X4_fail Fn_X4_fail, s_zret, s_aload 0, s_getC 7 0 4 0, s_callV 4 0 Pre_X4_step Fn_X4_step, s_aload 0, s_getC 7 0 4 0, s_ic (1), s_ic (20), s_callV 4 2 Pre_X4_amount Fn_X4_amount, s_istore 2, s_iload 2, s_iflt 24, s_aload 0, s_getC 7 0 4 0, s_ic (33), s_callV 4 1 Pre_X4_skip Fn_X4_skip, s_ifne 26, s_ic (0), s_zret, s_aload 1, s_iload 2, s_putI 6 18, s_aload 0, s_ic (1), s_putZ 7 2, s_ic (1), s_zret]
def pc_X7_readFair : Nat → Nat := fun i => [0, 1, 4, 7, 8, 11, 12, 15, 16, 17, 20, 23, 24, 27, 28, 30, 33, 34, 35, 38, 39, 42, 44, 47, 50, 51, 52, 53, 54, 57, 58, 59, 62, 63].getD i 0
def dl_X7_readFair : List (Nat × Instr × Nat) := [(0, .aload_n 0, 1), (1, .getfield 15, 3), (4, .ifCond .eq 12, 3), (7, .aload_n 0, 1), (8, .getfield 18, 3), (11, .iconst 5, 1), (12, .invokevirtual 72, 3), (15, .ireturn, 1), (16, .aload_n 0, 1), (17, .getfield 18, 3), (20, .invokevirtual 76, 3), (23, .aload_n 0, 1), (24, .getfield 18, 3), (27, .iconst 1, 1), (28, .bipush 20, 2), (30, .invokevirtual 110, 3), (33, .istore_n 2, 1), (34, .iload_n 2, 1), (35, .ifCond .lt 15, 3), (38, .aload_n 0, 1), (39, .getfield 18, 3), (42, .bipush 33, 2), (44, .invokevirtual 91, 3), (47, .ifCond .ne 5, 3), (50, .iconst 0, 1), (51, .ireturn, 1), (52, .aload_n 1, 1), (53, .iload_n 2, 1), (54, .putfield 155, 3), (57, .aload_n 0, 1), (58, .iconst 1, 1), (59, .putfield 15, 3), (62, .iconst 1, 1), (63, .ireturn, 1)]
theorem dc_X7_readFair : DEC prog_9_method_10_code pc_X7_readFair dl_X7_readFair := DEC_of (by decide +kernel)
abbrev rm_X7_readFair : Room := { frames := 3, cells := 0, slots := 0, locals := 64 }
set_option maxRecDepth 20000 in
theorem sa_X7_readFair (l : Launch) : SNDALL l prog_9_method_10_code "GivenUp$ValleyReader" 3 (some .boolean) rm_X7_readFair P_X7_readFair pc_X7_readFair := fun p e s m args below meth c cells slots Q D dA ad A RR hC hR => by
  have hM := RTX_room (R := rm_X7_readFair) hR
  exact ⟨st_aload_n hC (n := 0) (k := 0) (dc_X7_readFair 0 (0, .aload_n 0, 1) rfl rfl) rfl rfl,
    st_getI hC (n := 1) (k := 7) (j := 2) (dc_X7_readFair 1 (1, .getfield 15, 3) rfl rfl) rfl clf_7 (by decide) rfl wd_279,
    st_ifeq hC (n := 2) (dc_X7_readFair 2 (4, .ifCond .eq 12, 3) rfl rfl) rfl (by decide),
    st_aload_n hC (n := 3) (k := 0) (dc_X7_readFair 3 (7, .aload_n 0, 1) rfl rfl) rfl rfl,
    st_getC hC (n := 4) (k := 7) (j := 0) (dc_X7_readFair 4 (8, .getfield 18, 3) rfl rfl) rfl clf_7 (by decide) rfl (by decide) wd_277,
    st_iconst hC (n := 5) (x := 5) (dc_X7_readFair 5 (11, .iconst 5, 1) rfl rfl) rfl (by decide),
    st_callV hC (n := 6) (k := 4) (na := 1) (con_X4_fail l) (dc_X7_readFair 6 (12, .invokevirtual 72, 3) rfl rfl) rfl wd_878 wd_144 (by decide) ⟨rfl, rfl, by decide, by decide⟩ hM wd_875 wd_876 wd_877 clf_4,
    st_zret hC (n := 7) hR (dc_X7_readFair 7 (15, .ireturn, 1) rfl rfl),
    st_aload_n hC (n := 8) (k := 0) (dc_X7_readFair 8 (16, .aload_n 0, 1) rfl rfl) rfl rfl,
    st_getC hC (n := 9) (k := 7) (j := 0) (dc_X7_readFair 9 (17, .getfield 18, 3) rfl rfl) rfl clf_7 (by decide) rfl (by decide) wd_277,
    st_callV hC (n := 10) (k := 4) (na := 0) (con_X4_step l) (dc_X7_readFair 10 (20, .invokevirtual 76, 3) rfl rfl) rfl wd_859 wd_144 (by decide) ⟨rfl, rfl, by decide, by decide⟩ hM wd_879 wd_857 wd_858 clf_4,
    st_aload_n hC (n := 11) (k := 0) (dc_X7_readFair 11 (23, .aload_n 0, 1) rfl rfl) rfl rfl,
    st_getC hC (n := 12) (k := 7) (j := 0) (dc_X7_readFair 12 (24, .getfield 18, 3) rfl rfl) rfl clf_7 (by decide) rfl (by decide) wd_277,
    st_iconst hC (n := 13) (x := 1) (dc_X7_readFair 13 (27, .iconst 1, 1) rfl rfl) rfl (by decide),
    st_bipush hC (n := 14) (x := 20) (dc_X7_readFair 14 (28, .bipush 20, 2) rfl rfl) rfl (by decide),
    st_callV hC (n := 15) (k := 4) (na := 2) (con_X4_amount l) (dc_X7_readFair 15 (30, .invokevirtual 110, 3) rfl rfl) rfl wd_896 wd_144 (by decide) ⟨rfl, rfl, by decide, by decide⟩ hM wd_905 wd_894 wd_895 clf_4,
    st_istore_n hC (n := 16) (k := 2) (dc_X7_readFair 16 (33, .istore_n 2, 1) rfl rfl) rfl rfl (by decide),
    st_iload_n hC (n := 17) (k := 2) (dc_X7_readFair 17 (34, .iload_n 2, 1) rfl rfl) rfl rfl,
    st_iflt hC (n := 18) (dc_X7_readFair 18 (35, .ifCond .lt 15, 3) rfl rfl) rfl (by decide),
    st_aload_n hC (n := 19) (k := 0) (dc_X7_readFair 19 (38, .aload_n 0, 1) rfl rfl) rfl rfl,
    st_getC hC (n := 20) (k := 7) (j := 0) (dc_X7_readFair 20 (39, .getfield 18, 3) rfl rfl) rfl clf_7 (by decide) rfl (by decide) wd_277,
    st_bipush hC (n := 21) (x := 33) (dc_X7_readFair 21 (42, .bipush 33, 2) rfl rfl) rfl (by decide),
    st_callV hC (n := 22) (k := 4) (na := 1) (con_X4_skip l) (dc_X7_readFair 22 (44, .invokevirtual 91, 3) rfl rfl) rfl wd_900 wd_144 (by decide) ⟨rfl, rfl, by decide, by decide⟩ hM wd_897 wd_898 wd_899 clf_4,
    st_ifne hC (n := 23) (dc_X7_readFair 23 (47, .ifCond .ne 5, 3) rfl rfl) rfl (by decide),
    st_iconst hC (n := 24) (x := 0) (dc_X7_readFair 24 (50, .iconst 0, 1) rfl rfl) rfl (by decide),
    st_zret hC (n := 25) hR (dc_X7_readFair 25 (51, .ireturn, 1) rfl rfl),
    st_aload_n hC (n := 26) (k := 1) (dc_X7_readFair 26 (52, .aload_n 1, 1) rfl rfl) rfl rfl,
    st_iload_n hC (n := 27) (k := 2) (dc_X7_readFair 27 (53, .iload_n 2, 1) rfl rfl) rfl rfl,
    st_putI hC (n := 28) (k := 6) (j := 18) (dc_X7_readFair 28 (54, .putfield 155, 3) rfl rfl) rfl clf_6 (by decide) rfl rfl rfl wd_642,
    st_aload_n hC (n := 29) (k := 0) (dc_X7_readFair 29 (57, .aload_n 0, 1) rfl rfl) rfl rfl,
    st_iconst hC (n := 30) (x := 1) (dc_X7_readFair 30 (58, .iconst 1, 1) rfl rfl) rfl (by decide),
    st_putZ hC (n := 31) (k := 7) (j := 2) (dc_X7_readFair 31 (59, .putfield 15, 3) rfl rfl) rfl clf_7 (by decide) rfl rfl rfl wd_279,
    st_iconst hC (n := 32) (x := 1) (dc_X7_readFair 32 (62, .iconst 1, 1) rfl rfl) rfl (by decide),
    st_zret hC (n := 33) hR (dc_X7_readFair 33 (63, .ireturn, 1) rfl rfl), trivial⟩
set_option maxRecDepth 8000 in
theorem vc_X7_readFair : VC P_X7_readFair 3 Pre_X7_readFair Fn_X7_readFair := by
  rintro mm as hom hoa ⟨hT, g, rfl⟩
  refine ⟨Nat.le_of_ble_eq_true rfl, fun X h => ?_⟩
  replace h : RUN P_X7_readFair (RT (c7fC g mm)) X := h
  unfold c7fC at h
  have s17 : ∀ M p w, TXp M → ¬ w < 0 → p = c7fA g w M → RUN P_X7_readFair (RT p) X → X 19 [some (vR 7 0), some (vR 6 g), some (vI (w))] [] (M) := by
    intro M p w hM hw hp h
    unfold c7fA at hp
    show X 19 [some (vR 7 0), some (vR 6 g), some (vI w)] [] M
    refine h (fun _ => false) 3000 19 _ _ _ ?_
    refine And.intro (show Pre_X4_skip M [vR 4 0, vI 33] from ⟨hM, _, rfl⟩) ?_
    refine brn_c (fun b23 => ?_) (fun b23 => ?_)
    · -- 23: bI ((skC M 33).1 = true) = 0 taken
      replace b23 : (skC M 33).1 = true := bI_n0.mp b23
      refine And.intro (Or.inr rfl) ?_
      refine And.intro (Or.inr rfl) ?_
      show ((some (vI 1) : Option MV), mI (mI ((skC M 33).2) 6 g 18 w) 7 0 2 1) = _
      exact PR_t (by rw [hp, pBd_t b23]; rfl)
    · -- 23: bI ((skC M 33).1 = true) = 0 on
      replace b23 : ¬ ((skC M 33).1 = true) := bI_0.mp b23
      refine And.intro (Or.inl rfl) ?_
      show ((some (vI 0) : Option MV), (skC M 33).2) = _
      exact PR_f (by rw [hp, pBd_f b23])
  show X 0 [some (vR 7 0), some (vR 6 g), none] [] mm
  refine h (fun i => Nat.beq i 19) 3000 0 _ _ _ ?_
  refine br_c (fun b2 => ?_) (fun b2 => ?_)
  · -- 2: mm.1 7 0 2 = 0 taken
    replace b2 : mm.1 7 0 2 = 0 := b2
    refine And.intro (show Pre_X4_step mm [vR 4 0] from ⟨hT, rfl⟩) ?_
    refine And.intro (show Pre_X4_amount (spM mm) [vR 4 0, vI 1, vI 20] from ⟨TXp_sp hT, _, _, rfl⟩) ?_
    refine br_c (fun b18 => ?_) (fun b18 => ?_)
    · -- 18: (amC (spM mm) 1 20).1 < 0 taken
      replace b18 : (amC (spM mm) 1 20).1 < 0 := b18
      refine And.intro (Or.inl rfl) ?_
      show ((some (vI 0) : Option MV), (amC (spM mm) 1 20).2) = _
      exact PR_f (by rw [if_pos b2, pBi_f b18])
    · -- 18: (amC (spM mm) 1 20).1 < 0 on
      replace b18 : ¬ ((amC (spM mm) 1 20).1 < 0) := b18
      show X 19 [some (vR 7 0), some (vR 6 g), some (vI ((amC (spM mm) 1 20).1))] [] ((amC (spM mm) 1 20).2)
      exact s17 _ _ _ (TXp_am (TXp_sp hT)) b18 (by rw [if_pos b2, pBi_t b18]) h
  · -- 2: mm.1 7 0 2 = 0 on
    replace b2 : ¬ (mm.1 7 0 2 = 0) := b2
    refine And.intro (show Pre_X4_fail mm [vR 4 0, vI 5] from ⟨_, rfl⟩) ?_
    refine And.intro (Or.inl rfl) ?_
    show ((some (vI 0) : Option MV), faC mm 5) = _
    exact PR_f (by rw [if_neg b2])
theorem con_X7_readFair (l : Launch) : CON l y_X7_readFair prog_9_method_10_code 3 (some .boolean) rm_X7_readFair Pre_X7_readFair Fn_X7_readFair := CON_of (by decide) rfl rfl (sa_X7_readFair l) vc_X7_readFair
