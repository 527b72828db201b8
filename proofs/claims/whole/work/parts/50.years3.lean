/-! PART 50: the model: the YEARS' text; the whole text -/

def yrL : Nat → MM → MM
  | 0, m => m
  | f + 1, m => if m.1 12 0 12 = 0 then m else if (pYs m).1 = true then yrL f (pYs m).2 else (pYs m).2
def yrB (m : MM) (k : Nat) : MM := mI (mI (mI (bgM m k) 54 0 2050 0) 12 0 22 0) 12 0 23 0
def yrD (m : MM) : MM := mite (m.1 12 0 18 = 0 ∧ 0 < m.1 12 0 22) (faM m 2) m
def cpY (o : Nat → Int32) (i : Nat) : Nat → Int32 := fun j => if 146 ≤ j ∧ j < 146 + i then o (2040 + j) else o j
def yrC (m : MM) : MM := mRow m 54 0 (cpY (upd (m.1 54 0) 10 (m.1 54 0 2050)) 361)
def yrE (m : MM) : MM := mite (m.1 12 0 18 = 0) (yrC m) m
def yrR (m : MM) (k : Nat) : Option MV × MM := tnR (yrE (yrD (yrL 901 (yrB m k)))) ((yrE (yrD (yrL 901 (yrB m k)))).1 12 0 23)
theorem cpY_s (o : Nat → Int32) (i : Nat) : upd (cpY o i) (146 + i) (o (2040 + (146 + i))) = cpY o (i + 1) := by
  funext j
  unfold upd cpY
  by_cases h : j = 146 + i
  · subst h
    rw [if_pos rfl, if_pos (by omega)]
  · rw [if_neg h]
    by_cases h2 : 146 ≤ j ∧ j < 146 + i
    · rw [if_pos h2, if_pos (by omega)]
    · rw [if_neg h2, if_neg (by omega)]
theorem cpY_r (o : Nat → Int32) (i : Nat) (h : i ≤ 361) : cpY o i (2040 + (146 + i)) = o (2040 + (146 + i)) := if_neg (by omega)
theorem cpY_0 (o : Nat → Int32) : cpY o 0 = o := by
  funext j
  exact if_neg (by omega)
theorem YT_bg {m : MM} {k ns nm nt : Nat} (hk : k ≤ 900) (h0 : m.1 54 0 0 = nI ns ∧ ns ≤ 4) (h1 : m.1 54 0 1 = nI nm ∧ nm ≤ 4) (h2 : m.1 54 0 2 = nI nt ∧ nt ≤ 12) : YT (bgM m k) ns nm nt :=
  ⟨TXo_tk (S := k) rfl hk (by
    show tkS _ (nI k).toNatClampNeg (0 : Int32).toNatClampNeg ≤ k
    rw [nI_clamp (by omega)]
    exact tkS_le _ (Nat.zero_le _)), h0, h1, h2⟩
theorem TKo_bg {m : MM} {k : Nat} (hk : k ≤ 900) : TKo (bgM m k) := TKo_tk (m := bgF (bgT m k)) (S := k) rfl hk (by
    show tkS _ (nI k).toNatClampNeg (0 : Int32).toNatClampNeg ≤ k
    rw [nI_clamp (by omega)]
    exact tkS_le _ (Nat.zero_le _))

--tpl rfl
def Pre_X12_years : PreT := fun m as => VM m ∧ ∃ (t : Nat) (n : Int32), m.1 12 0 10 = nI t ∧ t ≤ 900 ∧ as = [vR 12 0, vI n]
def Fn_X12_years : FnT := fun m as => match as with
  | [_, Sum.inl n] => if bgP m n 300 then yrR m n.toNatClampNeg else rfM m 1
  | _ => (none, m)
abbrev y_X12_years : MethodName := ⟨"GivenUpModel", "years", "(I)I"⟩
def P_X12_years : List StpT := [s_aload 0, s_iload 1, s_ic (300), s_callV 12 2 Pre_X12_begins Fn_X12_begins, s_ifne 9, s_aload 0, s_ic (1), s_callV 12 1 Pre_X12_refuse Fn_X12_refuse, s_iret, s_aload 0, s_getR 12 0 54, s_ic (2050), s_ic (0), s_iast, s_aload 0, s_ic (0), s_putI 12 22, s_aload 0, s_ic (0), s_putI 12 23, s_ic (1), s_istore 2, s_iload 2, s_ifeq 31, s_aload 0, s_getI 12 12, s_ifeq 31, s_aload 0, s_callV 12 0 Pre_X12_yearStep Fn_X12_yearStep, s_istore 2, s_goto 22, s_aload 0, s_getI 12 18, s_ifne 41, s_aload 0, s_getI 12 22, s_ifle 41, s_aload 0, s_ic (2), s_callV 12 1 Pre_X12_fails Fn_X12_fails, s_pop, s_aload 0, s_getI 12 18, s_ifne 69, s_aload 0, s_getR 12 0 54, s_ic (10), s_aload 0, s_getR 12 0 54, s_ic (2050), s_iald, s_iast, s_ic (146), s_istore 3, s_iload 3, s_ic (507), s_icge 69, s_aload 0, s_getR 12 0 54, s_iload 3, s_aload 0, s_getR 12 0 54, s_ic (2040), s_iload 3, s_iadd, s_iald, s_iast, s_iinc 3 (1), s_goto 54, s_aload 0, s_aload 0, s_getI 12 23, s_callV 12 1 Pre_X12_taken Fn_X12_taken, s_iret]
def pc_X12_years : Nat → Nat := fun i => [0, 1, 2, 5, 8, 11, 12, 13, 16, 17, 18, 21, 24, 25, 26, 27, 28, 31, 32, 33, 36, 37, 38, 39, 42, 43, 46, 49, 50, 53, 54, 57, 58, 61, 64, 65, 68, 71, 72, 73, 76, 77, 78, 81, 84, 85, 88, 90, 91, 94, 97, 98, 99, 102, 103, 104, 107, 110, 111, 114, 115, 116, 119, 122, 123, 124, 125, 126, 129, 132, 133, 134, 137, 140].getD i 0
def dl_X12_years : List (Nat × Instr × Nat) := [(0, .aload_n 0, 1), (1, .iload_n 1, 1), (2, .sipush 300, 3), (5, .invokevirtual 234, 3), (8, .ifCond .ne 9, 3), (11, .aload_n 0, 1), (12, .iconst 1, 1), (13, .invokevirtual 87, 3), (16, .ireturn, 1), (17, .aload_n 0, 1), (18, .getfield 7, 3), (21, .sipush 2050, 3), (24, .iconst 0, 1), (25, .iastore, 1), (26, .aload_n 0, 1), (27, .iconst 0, 1), (28, .putfield 253, 3), (31, .aload_n 0, 1), (32, .iconst 0, 1), (33, .putfield 256, 3), (36, .iconst 1, 1), (37, .istore_n 2, 1), (38, .iload_n 2, 1), (39, .ifCond .eq 18, 3), (42, .aload_n 0, 1), (43, .getfield 132, 3), (46, .ifCond .eq 11, 3), (49, .aload_n 0, 1), (50, .invokevirtual 262, 3), (53, .istore_n 2, 1), (54, .goto (-16), 3), (57, .aload_n 0, 1), (58, .getfield 157, 3), (61, .ifCond .ne 16, 3), (64, .aload_n 0, 1), (65, .getfield 253, 3), (68, .ifCond .le 9, 3), (71, .aload_n 0, 1), (72, .iconst 2, 1), (73, .invokevirtual 169, 3), (76, .pop, 1), (77, .aload_n 0, 1), (78, .getfield 157, 3), (81, .ifCond .ne 51, 3), (84, .aload_n 0, 1), (85, .getfield 7, 3), (88, .bipush 10, 2), (90, .aload_n 0, 1), (91, .getfield 7, 3), (94, .sipush 2050, 3), (97, .iaload, 1), (98, .iastore, 1), (99, .sipush 146, 3), (102, .istore_n 3, 1), (103, .iload_n 3, 1), (104, .sipush 507, 3), (107, .if_icmp .ge 25, 3), (110, .aload_n 0, 1), (111, .getfield 7, 3), (114, .iload_n 3, 1), (115, .aload_n 0, 1), (116, .getfield 7, 3), (119, .sipush 2040, 3), (122, .iload_n 3, 1), (123, .iadd, 1), (124, .iaload, 1), (125, .iastore, 1), (126, .iinc 3 1, 3), (129, .goto (-26), 3), (132, .aload_n 0, 1), (133, .aload_n 0, 1), (134, .getfield 256, 3), (137, .invokevirtual 241, 3), (140, .ireturn, 1)]
theorem dc_X12_years : DEC prog_14_method_55_code pc_X12_years dl_X12_years := DEC_of (by decide +kernel)
abbrev rm_X12_years : Room := { frames := 12, cells := 0, slots := 0, locals := 266 }
set_option maxRecDepth 20000 in
theorem sa_X12_years (l : Launch) : SNDALL l prog_14_method_55_code "GivenUpModel" 4 (some .int) rm_X12_years P_X12_years pc_X12_years := fun p e s m args below meth c cells slots Q D dA ad A RR hC hR => by
  have hM := RTX_room (R := rm_X12_years) hR
  exact ⟨st_aload_n hC (n := 0) (k := 0) (dc_X12_years 0 (0, .aload_n 0, 1) rfl rfl) rfl rfl,
    st_iload_n hC (n := 1) (k := 1) (dc_X12_years 1 (1, .iload_n 1, 1) rfl rfl) rfl rfl,
    st_sipush hC (n := 2) (x := 300) (dc_X12_years 2 (2, .sipush 300, 3) rfl rfl) rfl (by decide),
    st_callV hC (n := 3) (k := 12) (na := 2) (con_X12_begins l) (dc_X12_years 3 (5, .invokevirtual 234, 3) rfl rfl) rfl wd_1738 wd_160 (by decide) ⟨rfl, rfl, by decide, by decide⟩ hM wd_1735 wd_1737 wd_54 clf_12,
    st_ifne hC (n := 4) (dc_X12_years 4 (8, .ifCond .ne 9, 3) rfl rfl) rfl (by decide),
    st_aload_n hC (n := 5) (k := 0) (dc_X12_years 5 (11, .aload_n 0, 1) rfl rfl) rfl rfl,
    st_iconst hC (n := 6) (x := 1) (dc_X12_years 6 (12, .iconst 1, 1) rfl rfl) rfl (by decide),
    st_callV hC (n := 7) (k := 12) (na := 1) (con_X12_refuse l) (dc_X12_years 7 (13, .invokevirtual 87, 3) rfl rfl) rfl wd_1758 wd_160 (by decide) ⟨rfl, rfl, by decide, by decide⟩ hM wd_1755 wd_1757 wd_57 clf_12,
    st_iret hC (n := 8) hR (dc_X12_years 8 (16, .ireturn, 1) rfl rfl),
    st_aload_n hC (n := 9) (k := 0) (dc_X12_years 9 (17, .aload_n 0, 1) rfl rfl) rfl rfl,
    st_getR hC (n := 10) (k := 12) (j := 0) (dc_X12_years 10 (18, .getfield 7, 3) rfl rfl) rfl clf_12 (by decide) rfl (by decide) wd_1552,
    st_sipush hC (n := 11) (x := 2050) (dc_X12_years 11 (21, .sipush 2050, 3) rfl rfl) rfl (by decide),
    st_iconst hC (n := 12) (x := 0) (dc_X12_years 12 (24, .iconst 0, 1) rfl rfl) rfl (by decide),
    st_iast hC (n := 13) (dc_X12_years 13 (25, .iastore, 1) rfl rfl) rfl,
    st_aload_n hC (n := 14) (k := 0) (dc_X12_years 14 (26, .aload_n 0, 1) rfl rfl) rfl rfl,
    st_iconst hC (n := 15) (x := 0) (dc_X12_years 15 (27, .iconst 0, 1) rfl rfl) rfl (by decide),
    st_putI hC (n := 16) (k := 12) (j := 22) (dc_X12_years 16 (28, .putfield 253, 3) rfl rfl) rfl clf_12 (by decide) rfl rfl rfl wd_1574,
    st_aload_n hC (n := 17) (k := 0) (dc_X12_years 17 (31, .aload_n 0, 1) rfl rfl) rfl rfl,
    st_iconst hC (n := 18) (x := 0) (dc_X12_years 18 (32, .iconst 0, 1) rfl rfl) rfl (by decide),
    st_putI hC (n := 19) (k := 12) (j := 23) (dc_X12_years 19 (33, .putfield 256, 3) rfl rfl) rfl clf_12 (by decide) rfl rfl rfl wd_1575,
    st_iconst hC (n := 20) (x := 1) (dc_X12_years 20 (36, .iconst 1, 1) rfl rfl) rfl (by decide),
    st_istore_n hC (n := 21) (k := 2) (dc_X12_years 21 (37, .istore_n 2, 1) rfl rfl) rfl rfl (by decide),
    st_iload_n hC (n := 22) (k := 2) (dc_X12_years 22 (38, .iload_n 2, 1) rfl rfl) rfl rfl,
    st_ifeq hC (n := 23) (dc_X12_years 23 (39, .ifCond .eq 18, 3) rfl rfl) rfl (by decide),
    st_aload_n hC (n := 24) (k := 0) (dc_X12_years 24 (42, .aload_n 0, 1) rfl rfl) rfl rfl,
    st_getI hC (n := 25) (k := 12) (j := 12) (dc_X12_years 25 (43, .getfield 132, 3) rfl rfl) rfl clf_12 (by decide) rfl wd_1564,
    st_ifeq hC (n := 26) (dc_X12_years 26 (46, .ifCond .eq 11, 3) rfl rfl) rfl (by decide),
    st_aload_n hC (n := 27) (k := 0) (dc_X12_years 27 (49, .aload_n 0, 1) rfl rfl) rfl rfl,
    st_callV hC (n := 28) (k := 12) (na := 0) (con_X12_yearStep l) (dc_X12_years 28 (50, .invokevirtual 262, 3) rfl rfl) rfl wd_1857 wd_160 (by decide) ⟨rfl, rfl, by decide, by decide⟩ hM wd_1854 wd_1856 wd_80 clf_12,
    st_istore_n hC (n := 29) (k := 2) (dc_X12_years 29 (53, .istore_n 2, 1) rfl rfl) rfl rfl (by decide),
    st_goto hC (n := 30) (dc_X12_years 30 (54, .goto (-16), 3) rfl rfl) (by decide),
    st_aload_n hC (n := 31) (k := 0) (dc_X12_years 31 (57, .aload_n 0, 1) rfl rfl) rfl rfl,
    st_getI hC (n := 32) (k := 12) (j := 18) (dc_X12_years 32 (58, .getfield 157, 3) rfl rfl) rfl clf_12 (by decide) rfl wd_1570,
    st_ifne hC (n := 33) (dc_X12_years 33 (61, .ifCond .ne 16, 3) rfl rfl) rfl (by decide),
    st_aload_n hC (n := 34) (k := 0) (dc_X12_years 34 (64, .aload_n 0, 1) rfl rfl) rfl rfl,
    st_getI hC (n := 35) (k := 12) (j := 22) (dc_X12_years 35 (65, .getfield 253, 3) rfl rfl) rfl clf_12 (by decide) rfl wd_1574,
    st_ifle hC (n := 36) (dc_X12_years 36 (68, .ifCond .le 9, 3) rfl rfl) rfl (by decide),
    st_aload_n hC (n := 37) (k := 0) (dc_X12_years 37 (71, .aload_n 0, 1) rfl rfl) rfl rfl,
    st_iconst hC (n := 38) (x := 2) (dc_X12_years 38 (72, .iconst 2, 1) rfl rfl) rfl (by decide),
    st_callV hC (n := 39) (k := 12) (na := 1) (con_X12_fails l) (dc_X12_years 39 (73, .invokevirtual 169, 3) rfl rfl) rfl wd_1781 wd_160 (by decide) ⟨rfl, rfl, by decide, by decide⟩ hM wd_1778 wd_1780 wd_62 clf_12,
    st_pop hC (n := 40) (dc_X12_years 40 (76, .pop, 1) rfl rfl) rfl,
    st_aload_n hC (n := 41) (k := 0) (dc_X12_years 41 (77, .aload_n 0, 1) rfl rfl) rfl rfl,
    st_getI hC (n := 42) (k := 12) (j := 18) (dc_X12_years 42 (78, .getfield 157, 3) rfl rfl) rfl clf_12 (by decide) rfl wd_1570,
    st_ifne hC (n := 43) (dc_X12_years 43 (81, .ifCond .ne 51, 3) rfl rfl) rfl (by decide),
    st_aload_n hC (n := 44) (k := 0) (dc_X12_years 44 (84, .aload_n 0, 1) rfl rfl) rfl rfl,
    st_getR hC (n := 45) (k := 12) (j := 0) (dc_X12_years 45 (85, .getfield 7, 3) rfl rfl) rfl clf_12 (by decide) rfl (by decide) wd_1552,
    st_bipush hC (n := 46) (x := 10) (dc_X12_years 46 (88, .bipush 10, 2) rfl rfl) rfl (by decide),
    st_aload_n hC (n := 47) (k := 0) (dc_X12_years 47 (90, .aload_n 0, 1) rfl rfl) rfl rfl,
    st_getR hC (n := 48) (k := 12) (j := 0) (dc_X12_years 48 (91, .getfield 7, 3) rfl rfl) rfl clf_12 (by decide) rfl (by decide) wd_1552,
    st_sipush hC (n := 49) (x := 2050) (dc_X12_years 49 (94, .sipush 2050, 3) rfl rfl) rfl (by decide),
    st_iald hC (n := 50) (dc_X12_years 50 (97, .iaload, 1) rfl rfl) rfl,
    st_iast hC (n := 51) (dc_X12_years 51 (98, .iastore, 1) rfl rfl) rfl,
    st_sipush hC (n := 52) (x := 146) (dc_X12_years 52 (99, .sipush 146, 3) rfl rfl) rfl (by decide),
    st_istore_n hC (n := 53) (k := 3) (dc_X12_years 53 (102, .istore_n 3, 1) rfl rfl) rfl rfl (by decide),
    st_iload_n hC (n := 54) (k := 3) (dc_X12_years 54 (103, .iload_n 3, 1) rfl rfl) rfl rfl,
    st_sipush hC (n := 55) (x := 507) (dc_X12_years 55 (104, .sipush 507, 3) rfl rfl) rfl (by decide),
    st_icge hC (n := 56) (dc_X12_years 56 (107, .if_icmp .ge 25, 3) rfl rfl) rfl (by decide),
    st_aload_n hC (n := 57) (k := 0) (dc_X12_years 57 (110, .aload_n 0, 1) rfl rfl) rfl rfl,
    st_getR hC (n := 58) (k := 12) (j := 0) (dc_X12_years 58 (111, .getfield 7, 3) rfl rfl) rfl clf_12 (by decide) rfl (by decide) wd_1552,
    st_iload_n hC (n := 59) (k := 3) (dc_X12_years 59 (114, .iload_n 3, 1) rfl rfl) rfl rfl,
    st_aload_n hC (n := 60) (k := 0) (dc_X12_years 60 (115, .aload_n 0, 1) rfl rfl) rfl rfl,
    st_getR hC (n := 61) (k := 12) (j := 0) (dc_X12_years 61 (116, .getfield 7, 3) rfl rfl) rfl clf_12 (by decide) rfl (by decide) wd_1552,
    st_sipush hC (n := 62) (x := 2040) (dc_X12_years 62 (119, .sipush 2040, 3) rfl rfl) rfl (by decide),
    st_iload_n hC (n := 63) (k := 3) (dc_X12_years 63 (122, .iload_n 3, 1) rfl rfl) rfl rfl,
    st_iadd hC (n := 64) (dc_X12_years 64 (123, .iadd, 1) rfl rfl) rfl,
    st_iald hC (n := 65) (dc_X12_years 65 (124, .iaload, 1) rfl rfl) rfl,
    st_iast hC (n := 66) (dc_X12_years 66 (125, .iastore, 1) rfl rfl) rfl,
    st_iinc hC (n := 67) (x := 1) (dc_X12_years 67 (126, .iinc 3 1, 3) rfl rfl) rfl (by decide) (by decide),
    st_goto hC (n := 68) (dc_X12_years 68 (129, .goto (-26), 3) rfl rfl) (by decide),
    st_aload_n hC (n := 69) (k := 0) (dc_X12_years 69 (132, .aload_n 0, 1) rfl rfl) rfl rfl,
    st_aload_n hC (n := 70) (k := 0) (dc_X12_years 70 (133, .aload_n 0, 1) rfl rfl) rfl rfl,
    st_getI hC (n := 71) (k := 12) (j := 23) (dc_X12_years 71 (134, .getfield 256, 3) rfl rfl) rfl clf_12 (by decide) rfl wd_1575,
    st_callV hC (n := 72) (k := 12) (na := 1) (con_X12_taken l) (dc_X12_years 72 (137, .invokevirtual 241, 3) rfl rfl) rfl wd_1845 wd_160 (by decide) ⟨rfl, rfl, by decide, by decide⟩ hM wd_1842 wd_1844 wd_78 clf_12,
    st_iret hC (n := 73) hR (dc_X12_years 73 (140, .ireturn, 1) rfl rfl), trivial⟩
set_option maxRecDepth 8000 in
theorem vc_X12_years : VC P_X12_years 4 Pre_X12_years Fn_X12_years := by
  rintro mm as hom hoa ⟨⟨ns, nm, nt, hV⟩, t, n, ht, ht9, rfl⟩
  refine ⟨Nat.le_of_ble_eq_true rfl, fun X h => ?_⟩
  have hF : Fn_X12_years mm [vR 12 0, vI n] = if bgP mm n 300 then yrR mm n.toNatClampNeg else rfM mm 1 := rfl
  rw [hF] at h
  suffices z : bgP mm n 300 → X 9 [some (vR 12 0), some (vI (n)), none, none] [] (bgM mm n.toNatClampNeg) by
    show X 0 [some (vR 12 0), some (vI n), none, none] [] mm
    refine h (fun i => Nat.beq i 9) 3000 0 _ _ _ ?_
    refine And.intro (show Pre_X12_begins mm [vR 12 0, vI n, vI 300] from ⟨t, _, _, ht, ht9, rfl⟩) ?_
    refine brn_c (fun b4 => ?_) (fun b4 => ?_)
    · -- 4: bI (bgP mm n 300) = 0 taken
      replace b4 : bgP mm n 300 := bI_n0.mp b4
      show X 9 [some (vR 12 0), some (vI n), none, none] [] (mite (bgP mm n 300) (bgM mm n.toNatClampNeg) mm)
      rw [mite_t b4]
      exact z b4
    · -- 4: bI (bgP mm n 300) = 0 on
      replace b4 : ¬ (bgP mm n 300) := bI_0.mp b4
      refine And.intro (show Pre_X12_refuse (mite (bgP mm n 300) (bgM mm n.toNatClampNeg) mm) [vR 12 0, vI 1] from ⟨_, rfl⟩) ?_
      show ((some (vI (-1)) : Option MV), stM (mite (bgP mm n 300) (bgM mm n.toNatClampNeg) mm) 1) = _
      rw [mite_f b4, if_neg b4]
      exact rfl
  intro hc
  rw [if_pos hc] at h
  obtain ⟨k, hk, rfl⟩ : ∃ k, k ≤ 900 ∧ n = nI k := by
    have h2 := hc.2.1
    rw [ht] at h2
    obtain ⟨k, hk, e⟩ := nI_of2 (n := t) (x := n) (nI_toInt (by omega)) hc.1 (Int32.not_lt.mp h2)
    exact ⟨k, by omega, e⟩
  have ek : (nI k).toNatClampNeg = k := nI_clamp (by omega)
  rw [ek] at h ⊢
  unfold yrR at h
  have hY0 : YT (bgM mm k) ns nm nt := YT_bg hk hV.1 hV.2.1 hV.2.2.1
  have hY1 : YT (mI (bgM mm k) 54 0 2050 0) ns nm nt := YT_at hY0 (by omega)
  have hI : YI (yrB mm k) ns nm nt := ⟨0, 0, 0, hY1, rfl, ⟨rfl, by omega⟩, ⟨rfl, by omega⟩, by omega, fun i hi => by omega⟩
  have hTK : TKo (yrB mm k) := TKo_bg (m := mm) hk
  have fin : ∀ good, X 31 [some (vR 12 0), some (vI (nI k)), some (vI (good)), none] [] (yrL 901 (yrB mm k)) := by
    intro good
    generalize yrL 901 (yrB mm k) = M0 at h
    suffices z : X 41 [some (vR 12 0), some (vI (nI k)), some (vI (good)), none] [] (yrD M0) by
      show X 31 [some (vR 12 0), some (vI (nI k)), some (vI good), none] [] M0
      refine h (fun i => Nat.beq i 41) 3000 31 _ _ _ ?_
      refine brn_c (fun b33 => ?_) (fun b33 => ?_)
      · -- 33: M0.1 12 0 18 = 0 taken
        replace b33 : ¬ (M0.1 12 0 18 = 0) := b33
        show X 41 [some (vR 12 0), some (vI (nI k)), some (vI good), none] [] M0
        rw [show yrD M0 = M0 from mite_f (fun y => b33 y.1)] at z
        exact z
      · -- 33: M0.1 12 0 18 = 0 on
        replace b33 : M0.1 12 0 18 = 0 := b33
        refine br_c (fun b36 => ?_) (fun b36 => ?_)
        · -- 36: M0.1 12 0 22 ≤ 0 taken
          replace b36 : M0.1 12 0 22 ≤ 0 := b36
          replace b36 : M0.1 12 0 22 ≤ 0 := b36
          show X 41 [some (vR 12 0), some (vI (nI k)), some (vI good), none] [] M0
          rw [show yrD M0 = M0 from mite_f (fun y => Int32.not_le.mpr y.2 b36)] at z
          exact z
        · -- 36: M0.1 12 0 22 ≤ 0 on
          replace b36 : ¬ (M0.1 12 0 22 ≤ 0) := b36
          replace b36 : ¬ M0.1 12 0 22 ≤ 0 := b36
          refine And.intro (show Pre_X12_fails M0 [vR 12 0, vI 2] from ⟨_, rfl⟩) ?_
          show X 41 [some (vR 12 0), some (vI (nI k)), some (vI good), none] [] (faM M0 2)
          rw [show yrD M0 = faM M0 2 from mite_t ⟨b33, Int32.not_le.mp b36⟩] at z
          exact z
    generalize yrD M0 = M at h
    have s63 : ∀ N L3, yrE M = N → X 69 [some (vR 12 0), some (vI (nI k)), some (vI (good)), L3] [] (N) := by
      intro N L3 hN
      rw [hN] at h
      show X 69 [some (vR 12 0), some (vI (nI k)), some (vI good), L3] [] N
      refine h (fun _ => false) 3000 69 _ _ _ ?_
      refine And.intro (show Pre_X12_taken N [vR 12 0, vI (N.1 12 0 23)] from ⟨_, rfl⟩) ?_
      show ((some (vI (if 0 < N.1 12 0 18 then -1 else (N.1 12 0 23))) : Option MV), (tnR N (N.1 12 0 23)).2) = _
      exact tnR_eq N (N.1 12 0 23)
    have copy : M.1 12 0 18 = 0 → X 44 [some (vR 12 0), some (vI (nI k)), some (vI (good)), none] [] (M) := by
      intro h0
      have hE : yrE M = yrC M := mite_t h0
      obtain ⟨f, hf⟩ : ∃ f, f = upd (M.1 54 0) 10 (M.1 54 0 2050) := ⟨_, rfl⟩
      have loopA : ∀ i, i ≤ 361 → X 54 [some (vR 12 0), some (vI (nI k)), some (vI (good)), some (vI (nI (146 + i)))] [] (mRow M 54 0 (cpY f i)) := by
        refine up_ind 361 ?_ (fun i hi ih => ?_)
        ·
          show X 54 [some (vR 12 0), some (vI (nI k)), some (vI good), some (vI (nI 507))] [] (mRow M 54 0 (cpY f 361))
          refine h (fun i => Nat.beq i 69) 3000 54 _ _ _ ?_
          refine br_t (Int32.le_refl _) ?_
          show X 69 [some (vR 12 0), some (vI (nI k)), some (vI good), some (vI (nI 507))] [] (mRow M 54 0 (cpY f 361))
          refine s63 _ _ (hE.trans ?_)
          rw [hf] 
          exact rfl
        · have ei : (nI (146 + i)).toNatClampNeg = 146 + i := nI_clamp (by omega)
          have e8 : (2040 + nI (146 + i)).toNatClampNeg = 2040 + (146 + i) := by rw [show (2040 : Int32) = nI 2040 from rfl, nI_add]; exact nI_clamp (by omega)
          show X 54 [some (vR 12 0), some (vI (nI k)), some (vI good), some (vI (nI (146 + i)))] [] (mRow M 54 0 (cpY f i))
          refine h (fun i => Nat.beq i 54) 3000 54 _ _ _ ?_
          refine br_f (show ¬ nI 507 ≤ nI (146 + i) from nI_ge (by omega) (by omega)) ?_
          refine And.intro (show inb (2040 + (nI (146 + i))) (alen 54) = true from (inb_o 3060 rfl rfl (show 2040 + nI (146 + i) = nI (2040 + (146 + i)) by rw [show (2040 : Int32) = nI 2040 from rfl, nI_add]) (by omega))) ?_
          refine And.intro (show inb (nI (146 + i)) (alen 54) = true from (inb_o 3060 rfl rfl rfl (by omega))) ?_
          show X 54 [some (vR 12 0), some (vI (nI k)), some (vI good), some (vI ((nI (146 + i)) + 1))] [] (mRow (mRow M 54 0 (cpY f i)) 54 0 (upd (cpY f i) (nI (146 + i)).toNatClampNeg ((cpY f i) ((2040 + (nI (146 + i))).toNatClampNeg))))
          rw [ei, e8, cpY_r _ _ (by omega), mRow2, cpY_s, nI_1]
          exact ih
      have lA := loopA 0 (by omega)
      rw [cpY_0, hf] at lA
      show X 44 [some (vR 12 0), some (vI (nI k)), some (vI good), none] [] M
      refine h (fun i => Nat.beq i 54) 3000 44 _ _ _ ?_
      refine And.intro (show inb 2050 (alen 54) = true from rfl) ?_
      refine And.intro (show inb 10 (alen 54) = true from rfl) ?_
      show X 54 [some (vR 12 0), some (vI (nI k)), some (vI good), some (vI 146)] [] (mRow M 54 0 (upd (M.1 54 0) 10 (M.1 54 0 2050)))
      exact lA
    show X 41 [some (vR 12 0), some (vI (nI k)), some (vI good), none] [] M
    refine h (fun i => Nat.beq i 44 || Nat.beq i 69) 3000 41 _ _ _ ?_
    refine brn_c (fun b43 => ?_) (fun b43 => ?_)
    · -- 43: M.1 12 0 18 = 0 taken
      replace b43 : ¬ (M.1 12 0 18 = 0) := b43
      show X 69 [some (vR 12 0), some (vI (nI k)), some (vI good), none] [] M
      exact s63 M _ (mite_f b43)
    · -- 43: M.1 12 0 18 = 0 on
      replace b43 : M.1 12 0 18 = 0 := b43
      show X 44 [some (vR 12 0), some (vI (nI k)), some (vI good), none] [] M
      exact copy b43
  have loop : ∀ f M, YI M ns nm nt → TKo M → 900 < f + txs M → (∀ good, X 31 [some (vR 12 0), some (vI (nI k)), some (vI (good)), none] [] (yrL f M)) → X 22 [some (vR 12 0), some (vI (nI k)), some (vI (1)), none] [] (M) := by
    intro f
    induction f with
    | zero =>
      intro M hI hT hf
      obtain ⟨L, d, c, hJ⟩ := hI
      have := txs_le hJ.1.1
      omega
    | succ f ih =>
      intro M hI hT hf hX
      have hv : yrL (f + 1) M = if M.1 12 0 12 = 0 then M else if (pYs M).1 = true then yrL f (pYs M).2 else (pYs M).2 := rfl
      rw [hv] at hX
      by_cases h0 : M.1 12 0 12 = 0
      · rw [if_pos h0] at hX
        show X 22 [some (vR 12 0), some (vI (nI k)), some (vI 1), none] [] M
        refine h (fun i => Nat.beq i 31) 3000 22 _ _ _ ?_
        refine br_f (by decide) ?_
        refine br_t (h0) ?_
        show X 31 [some (vR 12 0), some (vI (nI k)), some (vI 1), none] [] M
        exact hX 1
      · rw [if_neg h0] at hX
        obtain ⟨L, d, c, hJ⟩ := id hI
        have next : X 22 [some (vR 12 0), some (vI (nI k)), some (vI (bI ((pYs M).1 = true))), none] [] ((pYs M).2) := by
          by_cases hp : (pYs M).1 = true
          · rw [if_pos hp] at hX
            rw [bI_t hp]
            have h2 := (pYs_GT hJ.1.1 hp).2.2
            have h3 := txs_ah hJ.1.1
            have h4 := hT.resolve_left h0
            exact ih _ (pYs_ok hI hp) (pYs_tk hJ.1.1 hp) (by omega) hX
          · rw [if_neg hp] at hX
            rw [bI_f hp]
            generalize (pYs M).2 = M' at hX
            show X 22 [some (vR 12 0), some (vI (nI k)), some (vI 0), none] [] M'
            refine h (fun i => Nat.beq i 31) 3000 22 _ _ _ ?_
            refine br_t (rfl) ?_
            show X 31 [some (vR 12 0), some (vI (nI k)), some (vI 0), none] [] M'
            exact hX 0
        show X 22 [some (vR 12 0), some (vI (nI k)), some (vI 1), none] [] M
        refine h (fun i => Nat.beq i 22) 3000 22 _ _ _ ?_
        refine br_f (by decide) ?_
        refine br_f (h0) ?_
        refine And.intro (show Pre_X12_yearStep M [vR 12 0] from ⟨ns, nm, nt, L, d, c, hJ, rfl⟩) ?_
        show X 22 [some (vR 12 0), some (vI (nI k)), some (vI (bI ((pYs M).1 = true))), none] [] ((pYs M).2)
        exact next
  have l0 := loop 901 (yrB mm k) hI hTK (by omega) fin
  show X 9 [some (vR 12 0), some (vI (nI k)), none, none] [] (bgM mm k)
  refine h (fun i => Nat.beq i 22) 3000 9 _ _ _ ?_
  refine And.intro (show inb 2050 (alen 54) = true from rfl) ?_
  show X 22 [some (vR 12 0), some (vI (nI k)), some (vI 1), none] [] (mI (mI (mRow (bgM mm k) 54 0 (upd ((bgM mm k).1 54 0) 2050 0)) 12 0 22 0) 12 0 23 0)
  exact l0
theorem con_X12_years (l : Launch) : CON l y_X12_years prog_14_method_55_code 4 (some .int) rm_X12_years Pre_X12_years Fn_X12_years := CON_of (by decide) rfl rfl (sa_X12_years l) vc_X12_years
