/-! PART 24: the model: the fair, who is preferred; answers of the first calls -/

theorem arg_in {x : Int32} {n : Nat} (h0 : ¬ x < 0) (h1 : ¬ nI n ≤ x) (hn : n < 2 ^ 31) : ∃ j : Nat, j < n ∧ x = nI j := by
  rcases pk_ix x hn with q | q | q
  · exact absurd q h0
  · exact absurd q h1
  · exact q
def rfM (m : MM) (x : Int32) : Option MV × MM := (some (vI (-1)), stM m x)
def gvM (m : MM) (v : Int32) : Option MV × MM := (some (vI v), stM m 0)
def onM (m : MM) (v : Int32) : Option MV × MM := (some (vI v), stM m (if v = -1 then 6 else 0))
abbrev suP (a : Nat → Int32) (x : Int32) : Prop := ¬ x < 0 ∧ ¬ a 0 ≤ x
abbrev maP (a : Nat → Int32) (x : Int32) : Prop := ¬ x < 0 ∧ ¬ a 1 ≤ x
abbrev tgP (a : Nat → Int32) (x : Int32) : Prop := ¬ x < 0 ∧ ¬ a 2 ≤ x
theorem su_in {m : MM} {ns nm nt : Nat} {x : Int32} (hV : VMx m ns nm nt) (h : suP (m.1 54 0) x) : ∃ i : Nat, i < ns ∧ x = nI i := by
  obtain ⟨⟨e, h4⟩, -⟩ := hV
  exact arg_in h.1 (by rw [← e]; exact h.2) (by omega)
theorem ma_in {m : MM} {ns nm nt : Nat} {x : Int32} (hV : VMx m ns nm nt) (h : maP (m.1 54 0) x) : ∃ i : Nat, i < nm ∧ x = nI i := by
  obtain ⟨-, ⟨e, h4⟩, -⟩ := hV
  exact arg_in h.1 (by rw [← e]; exact h.2) (by omega)
theorem tg_in {m : MM} {ns nm nt : Nat} {x : Int32} (hV : VMx m ns nm nt) (h : tgP (m.1 54 0) x) : ∃ i : Nat, i < nt ∧ x = nI i := by
  obtain ⟨-, -, ⟨e, h4⟩, -⟩ := hV
  exact arg_in h.1 (by rw [← e]; exact h.2) (by omega)
theorem gv_bf {p : Prop} [Decidable p] {m : MM} (h : ¬ p) : ((some (Sum.inl 0) : Option MV), stM m 0) = gvM m (bI p) := by rw [bI_f h]; rfl
theorem gv_bt {p : Prop} [Decidable p] {m : MM} (h : p) : ((some (Sum.inl 1) : Option MV), stM m 0) = gvM m (bI p) := by rw [bI_t h]; rfl

def Pre_X12_comesBack : PreT := fun m as => ∃ (ns nm nt j : Nat), VMx m ns nm nt ∧ j < nt ∧ as = [vR 12 0, vI (nI j)]
def Fn_X12_comesBack : FnT := fun m as => match as with
  | [_, Sum.inl j] => (some (vI (bI (cbP (m.1 54 0) j.toNatClampNeg))), mite (cbP (m.1 54 0) j.toNatClampNeg) (atM m (cbA (m.1 54 0) j.toNatClampNeg)) m)
  | _ => (none, m)
abbrev y_X12_comesBack : MethodName := ⟨"GivenUpModel", "comesBack", "(I)Z"⟩
def P_X12_comesBack : List StpT := [s_aload 0, s_iload 1, s_callV 12 1 Pre_X12_ownerOf Fn_X12_ownerOf, s_callS 1 Pre_X12_suitorRow Fn_X12_suitorRow, s_istore 2, s_ic (1), s_aload 0, s_getR 12 0 54, s_iload 1, s_callS 1 Pre_X12_thingRow Fn_X12_thingRow, s_ic (1), s_iadd, s_iald, s_ic (9), s_iadd, s_ic (10), s_idiv, s_callS 2 Pre_J9_max_7cf53 Fn_J9_max_7cf53, s_istore 3, s_aload 0, s_callV 12 0 Pre_X12_isFair Fn_X12_isFair, s_ifeq 48, s_aload 0, s_aload 0, s_iload 1, s_callV 12 1 Pre_X12_ownerOf Fn_X12_ownerOf, s_callV 12 1 Pre_X12_hasWed Fn_X12_hasWed, s_ifne 48, s_aload 0, s_aload 0, s_getR 12 0 54, s_ic (8), s_iald, s_iload 1, s_callV 12 2 Pre_X12_isIn Fn_X12_isIn, s_ifeq 48, s_aload 0, s_getR 12 0 54, s_iload 2, s_ic (1), s_iadd, s_iald, s_iload 3, s_iclt 48, s_aload 0, s_iload 1, s_callV 12 1 Pre_X12_behindIt Fn_X12_behindIt, s_ifeq 50, s_ic (0), s_zret, s_aload 0, s_getR 12 0 54, s_ic (8), s_dup2, s_iald, s_ic (1), s_iload 1, s_ishl, s_ixor, s_iast, s_aload 0, s_getR 12 0 54, s_iload 2, s_ic (1), s_iadd, s_dup2, s_iald, s_iload 3, s_isub, s_iast, s_ic (1), s_zret]
def pc_X12_comesBack : Nat → Nat := fun i => [0, 1, 2, 5, 8, 9, 10, 11, 14, 15, 18, 19, 20, 21, 23, 24, 26, 27, 30, 31, 32, 35, 38, 39, 40, 41, 44, 47, 50, 51, 52, 55, 57, 58, 59, 62, 65, 66, 69, 70, 71, 72, 73, 74, 77, 78, 79, 82, 85, 86, 87, 88, 91, 93, 94, 95, 96, 97, 98, 99, 100, 101, 104, 105, 106, 107, 108, 109, 110, 111, 112, 113].getD i 0
def dl_X12_comesBack : List (Nat × Instr × Nat) := [(0, .aload_n 0, 1), (1, .iload_n 1, 1), (2, .invokevirtual 274, 3), (5, .invokestatic 289, 3), (8, .istore_n 2, 1), (9, .iconst 1, 1), (10, .aload_n 0, 1), (11, .getfield 7, 3), (14, .iload_n 1, 1), (15, .invokestatic 271, 3), (18, .iconst 1, 1), (19, .iadd, 1), (20, .iaload, 1), (21, .bipush 9, 2), (23, .iadd, 1), (24, .bipush 10, 2), (26, .idiv, 1), (27, .invokestatic 349, 3), (30, .istore_n 3, 1), (31, .aload_n 0, 1), (32, .invokevirtual 352, 3), (35, .ifCond .eq 50, 3), (38, .aload_n 0, 1), (39, .aload_n 0, 1), (40, .iload_n 1, 1), (41, .invokevirtual 274, 3), (44, .invokevirtual 292, 3), (47, .ifCond .ne 38, 3), (50, .aload_n 0, 1), (51, .aload_n 0, 1), (52, .getfield 7, 3), (55, .bipush 8, 2), (57, .iaload, 1), (58, .iload_n 1, 1), (59, .invokevirtual 277, 3), (62, .ifCond .eq 23, 3), (65, .aload_n 0, 1), (66, .getfield 7, 3), (69, .iload_n 2, 1), (70, .iconst 1, 1), (71, .iadd, 1), (72, .iaload, 1), (73, .iload_n 3, 1), (74, .if_icmp .lt 11, 3), (77, .aload_n 0, 1), (78, .iload_n 1, 1), (79, .invokevirtual 355, 3), (82, .ifCond .eq 5, 3), (85, .iconst 0, 1), (86, .ireturn, 1), (87, .aload_n 0, 1), (88, .getfield 7, 3), (91, .bipush 8, 2), (93, .dup2, 1), (94, .iaload, 1), (95, .iconst 1, 1), (96, .iload_n 1, 1), (97, .ishl, 1), (98, .ixor, 1), (99, .iastore, 1), (100, .aload_n 0, 1), (101, .getfield 7, 3), (104, .iload_n 2, 1), (105, .iconst 1, 1), (106, .iadd, 1), (107, .dup2, 1), (108, .iaload, 1), (109, .iload_n 3, 1), (110, .isub, 1), (111, .iastore, 1), (112, .iconst 1, 1), (113, .ireturn, 1)]
theorem dc_X12_comesBack : DEC prog_14_method_99_code pc_X12_comesBack dl_X12_comesBack := DEC_of (by decide +kernel)
abbrev rm_X12_comesBack : Room := { frames := 3, cells := 0, slots := 0, locals := 64 }
set_option maxRecDepth 20000 in
theorem sa_X12_comesBack (l : Launch) : SNDALL l prog_14_method_99_code "GivenUpModel" 4 (some .boolean) rm_X12_comesBack P_X12_comesBack pc_X12_comesBack := fun p e s m args below meth c cells slots Q D dA ad A RR hC hR => by
  have hM := RTX_room (R := rm_X12_comesBack) hR
  exact ⟨st_aload_n hC (n := 0) (k := 0) (dc_X12_comesBack 0 (0, .aload_n 0, 1) rfl rfl) rfl rfl,
    st_iload_n hC (n := 1) (k := 1) (dc_X12_comesBack 1 (1, .iload_n 1, 1) rfl rfl) rfl rfl,
    st_callV hC (n := 2) (k := 12) (na := 1) (con_X12_ownerOf l) (dc_X12_comesBack 2 (2, .invokevirtual 274, 3) rfl rfl) rfl wd_1896 wd_160 (by decide) ⟨rfl, rfl, by decide, by decide⟩ hM wd_1893 wd_1895 wd_87 clf_12,
    st_callS hC (n := 3) (na := 1) (con_X12_suitorRow l) (dc_X12_comesBack 3 (5, .invokestatic 289, 3) rfl rfl) rfl wd_1888 wd_160 (by decide) ⟨rfl, rfl, by decide, by decide⟩ hM wd_1886 wd_1887,
    st_istore_n hC (n := 4) (k := 2) (dc_X12_comesBack 4 (8, .istore_n 2, 1) rfl rfl) rfl rfl (by decide),
    st_iconst hC (n := 5) (x := 1) (dc_X12_comesBack 5 (9, .iconst 1, 1) rfl rfl) rfl (by decide),
    st_aload_n hC (n := 6) (k := 0) (dc_X12_comesBack 6 (10, .aload_n 0, 1) rfl rfl) rfl rfl,
    st_getR hC (n := 7) (k := 12) (j := 0) (dc_X12_comesBack 7 (11, .getfield 7, 3) rfl rfl) rfl clf_12 (by decide) rfl (by decide) wd_1552,
    st_iload_n hC (n := 8) (k := 1) (dc_X12_comesBack 8 (14, .iload_n 1, 1) rfl rfl) rfl rfl,
    st_callS hC (n := 9) (na := 1) (con_X12_thingRow l) (dc_X12_comesBack 9 (15, .invokestatic 271, 3) rfl rfl) rfl wd_1899 wd_160 (by decide) ⟨rfl, rfl, by decide, by decide⟩ hM wd_1897 wd_1898,
    st_iconst hC (n := 10) (x := 1) (dc_X12_comesBack 10 (18, .iconst 1, 1) rfl rfl) rfl (by decide),
    st_iadd hC (n := 11) (dc_X12_comesBack 11 (19, .iadd, 1) rfl rfl) rfl,
    st_iald hC (n := 12) (dc_X12_comesBack 12 (20, .iaload, 1) rfl rfl) rfl,
    st_bipush hC (n := 13) (x := 9) (dc_X12_comesBack 13 (21, .bipush 9, 2) rfl rfl) rfl (by decide),
    st_iadd hC (n := 14) (dc_X12_comesBack 14 (23, .iadd, 1) rfl rfl) rfl,
    st_bipush hC (n := 15) (x := 10) (dc_X12_comesBack 15 (24, .bipush 10, 2) rfl rfl) rfl (by decide),
    st_idiv hC (n := 16) (dc_X12_comesBack 16 (26, .idiv, 1) rfl rfl) rfl,
    st_callS hC (n := 17) (na := 2) (con_J9_max_7cf53 l) (dc_X12_comesBack 17 (27, .invokestatic 349, 3) rfl rfl) rfl wd_1185 wd_162 (by decide) ⟨rfl, rfl, by decide, by decide⟩ hM wd_2058 wd_1184,
    st_istore_n hC (n := 18) (k := 3) (dc_X12_comesBack 18 (30, .istore_n 3, 1) rfl rfl) rfl rfl (by decide),
    st_aload_n hC (n := 19) (k := 0) (dc_X12_comesBack 19 (31, .aload_n 0, 1) rfl rfl) rfl rfl,
    st_callV hC (n := 20) (k := 12) (na := 0) (con_X12_isFair l) (dc_X12_comesBack 20 (32, .invokevirtual 352, 3) rfl rfl) rfl wd_2062 wd_160 (by decide) ⟨rfl, rfl, by decide, by decide⟩ hM wd_2059 wd_2061 wd_112 clf_12,
    st_ifeq hC (n := 21) (dc_X12_comesBack 21 (35, .ifCond .eq 50, 3) rfl rfl) rfl (by decide),
    st_aload_n hC (n := 22) (k := 0) (dc_X12_comesBack 22 (38, .aload_n 0, 1) rfl rfl) rfl rfl,
    st_aload_n hC (n := 23) (k := 0) (dc_X12_comesBack 23 (39, .aload_n 0, 1) rfl rfl) rfl rfl,
    st_iload_n hC (n := 24) (k := 1) (dc_X12_comesBack 24 (40, .iload_n 1, 1) rfl rfl) rfl rfl,
    st_callV hC (n := 25) (k := 12) (na := 1) (con_X12_ownerOf l) (dc_X12_comesBack 25 (41, .invokevirtual 274, 3) rfl rfl) rfl wd_1896 wd_160 (by decide) ⟨rfl, rfl, by decide, by decide⟩ hM wd_1893 wd_1895 wd_87 clf_12,
    st_callV hC (n := 26) (k := 12) (na := 1) (con_X12_hasWed l) (dc_X12_comesBack 26 (44, .invokevirtual 292, 3) rfl rfl) rfl wd_1985 wd_160 (by decide) ⟨rfl, rfl, by decide, by decide⟩ hM wd_1982 wd_1984 wd_102 clf_12,
    st_ifne hC (n := 27) (dc_X12_comesBack 27 (47, .ifCond .ne 38, 3) rfl rfl) rfl (by decide),
    st_aload_n hC (n := 28) (k := 0) (dc_X12_comesBack 28 (50, .aload_n 0, 1) rfl rfl) rfl rfl,
    st_aload_n hC (n := 29) (k := 0) (dc_X12_comesBack 29 (51, .aload_n 0, 1) rfl rfl) rfl rfl,
    st_getR hC (n := 30) (k := 12) (j := 0) (dc_X12_comesBack 30 (52, .getfield 7, 3) rfl rfl) rfl clf_12 (by decide) rfl (by decide) wd_1552,
    st_bipush hC (n := 31) (x := 8) (dc_X12_comesBack 31 (55, .bipush 8, 2) rfl rfl) rfl (by decide),
    st_iald hC (n := 32) (dc_X12_comesBack 32 (57, .iaload, 1) rfl rfl) rfl,
    st_iload_n hC (n := 33) (k := 1) (dc_X12_comesBack 33 (58, .iload_n 1, 1) rfl rfl) rfl rfl,
    st_callV hC (n := 34) (k := 12) (na := 2) (con_X12_isIn l) (dc_X12_comesBack 34 (59, .invokevirtual 277, 3) rfl rfl) rfl wd_1907 wd_160 (by decide) ⟨rfl, rfl, by decide, by decide⟩ hM wd_1904 wd_1906 wd_89 clf_12,
    st_ifeq hC (n := 35) (dc_X12_comesBack 35 (62, .ifCond .eq 23, 3) rfl rfl) rfl (by decide),
    st_aload_n hC (n := 36) (k := 0) (dc_X12_comesBack 36 (65, .aload_n 0, 1) rfl rfl) rfl rfl,
    st_getR hC (n := 37) (k := 12) (j := 0) (dc_X12_comesBack 37 (66, .getfield 7, 3) rfl rfl) rfl clf_12 (by decide) rfl (by decide) wd_1552,
    st_iload_n hC (n := 38) (k := 2) (dc_X12_comesBack 38 (69, .iload_n 2, 1) rfl rfl) rfl rfl,
    st_iconst hC (n := 39) (x := 1) (dc_X12_comesBack 39 (70, .iconst 1, 1) rfl rfl) rfl (by decide),
    st_iadd hC (n := 40) (dc_X12_comesBack 40 (71, .iadd, 1) rfl rfl) rfl,
    st_iald hC (n := 41) (dc_X12_comesBack 41 (72, .iaload, 1) rfl rfl) rfl,
    st_iload_n hC (n := 42) (k := 3) (dc_X12_comesBack 42 (73, .iload_n 3, 1) rfl rfl) rfl rfl,
    st_iclt hC (n := 43) (dc_X12_comesBack 43 (74, .if_icmp .lt 11, 3) rfl rfl) rfl (by decide),
    st_aload_n hC (n := 44) (k := 0) (dc_X12_comesBack 44 (77, .aload_n 0, 1) rfl rfl) rfl rfl,
    st_iload_n hC (n := 45) (k := 1) (dc_X12_comesBack 45 (78, .iload_n 1, 1) rfl rfl) rfl rfl,
    st_callV hC (n := 46) (k := 12) (na := 1) (con_X12_behindIt l) (dc_X12_comesBack 46 (79, .invokevirtual 355, 3) rfl rfl) rfl wd_2066 wd_160 (by decide) ⟨rfl, rfl, by decide, by decide⟩ hM wd_2063 wd_2065 wd_113 clf_12,
    st_ifeq hC (n := 47) (dc_X12_comesBack 47 (82, .ifCond .eq 5, 3) rfl rfl) rfl (by decide),
    st_iconst hC (n := 48) (x := 0) (dc_X12_comesBack 48 (85, .iconst 0, 1) rfl rfl) rfl (by decide),
    st_zret hC (n := 49) hR (dc_X12_comesBack 49 (86, .ireturn, 1) rfl rfl),
    st_aload_n hC (n := 50) (k := 0) (dc_X12_comesBack 50 (87, .aload_n 0, 1) rfl rfl) rfl rfl,
    st_getR hC (n := 51) (k := 12) (j := 0) (dc_X12_comesBack 51 (88, .getfield 7, 3) rfl rfl) rfl clf_12 (by decide) rfl (by decide) wd_1552,
    st_bipush hC (n := 52) (x := 8) (dc_X12_comesBack 52 (91, .bipush 8, 2) rfl rfl) rfl (by decide),
    st_dup2 hC (n := 53) (dc_X12_comesBack 53 (93, .dup2, 1) rfl rfl) rfl,
    st_iald hC (n := 54) (dc_X12_comesBack 54 (94, .iaload, 1) rfl rfl) rfl,
    st_iconst hC (n := 55) (x := 1) (dc_X12_comesBack 55 (95, .iconst 1, 1) rfl rfl) rfl (by decide),
    st_iload_n hC (n := 56) (k := 1) (dc_X12_comesBack 56 (96, .iload_n 1, 1) rfl rfl) rfl rfl,
    st_ishl hC (n := 57) (dc_X12_comesBack 57 (97, .ishl, 1) rfl rfl) rfl,
    st_ixor hC (n := 58) (dc_X12_comesBack 58 (98, .ixor, 1) rfl rfl) rfl,
    st_iast hC (n := 59) (dc_X12_comesBack 59 (99, .iastore, 1) rfl rfl) rfl,
    st_aload_n hC (n := 60) (k := 0) (dc_X12_comesBack 60 (100, .aload_n 0, 1) rfl rfl) rfl rfl,
    st_getR hC (n := 61) (k := 12) (j := 0) (dc_X12_comesBack 61 (101, .getfield 7, 3) rfl rfl) rfl clf_12 (by decide) rfl (by decide) wd_1552,
    st_iload_n hC (n := 62) (k := 2) (dc_X12_comesBack 62 (104, .iload_n 2, 1) rfl rfl) rfl rfl,
    st_iconst hC (n := 63) (x := 1) (dc_X12_comesBack 63 (105, .iconst 1, 1) rfl rfl) rfl (by decide),
    st_iadd hC (n := 64) (dc_X12_comesBack 64 (106, .iadd, 1) rfl rfl) rfl,
    st_dup2 hC (n := 65) (dc_X12_comesBack 65 (107, .dup2, 1) rfl rfl) rfl,
    st_iald hC (n := 66) (dc_X12_comesBack 66 (108, .iaload, 1) rfl rfl) rfl,
    st_iload_n hC (n := 67) (k := 3) (dc_X12_comesBack 67 (109, .iload_n 3, 1) rfl rfl) rfl rfl,
    st_isub hC (n := 68) (dc_X12_comesBack 68 (110, .isub, 1) rfl rfl) rfl,
    st_iast hC (n := 69) (dc_X12_comesBack 69 (111, .iastore, 1) rfl rfl) rfl,
    st_iconst hC (n := 70) (x := 1) (dc_X12_comesBack 70 (112, .iconst 1, 1) rfl rfl) rfl (by decide),
    st_zret hC (n := 71) hR (dc_X12_comesBack 71 (113, .ireturn, 1) rfl rfl), trivial⟩
theorem vc_X12_comesBack : VC P_X12_comesBack 4 Pre_X12_comesBack Fn_X12_comesBack := by
  rintro mm as hom hoa ⟨ns, nm, nt, j, hV, hj, rfl⟩
  refine ⟨Nat.le_of_ble_eq_true rfl, fun X h => ?_⟩
  have hM : VM mm := ⟨ns, nm, nt, hV⟩
  have hns : ns ≤ 4 := hV.1.2
  have hnt : nt ≤ 12 := hV.2.2.1.2
  have ej : (nI j).toNatClampNeg = j := nI_clamp (by omega)
  obtain ⟨hlt, hown⟩ := owA_at hV hj
  have hown' : mm.1 54 0 (44 + 3 * (nI j).toNatClampNeg) = nI (owA (mm.1 54 0) j) := by rw [ej]; exact hown
  have eo : (nI (owA (mm.1 54 0) j)).toNatClampNeg = owA (mm.1 54 0) j := nI_clamp (by omega)
  have eF : Fn_X12_comesBack mm [vR 12 0, vI (nI j)] = (some (vI (bI (cbP (mm.1 54 0) j))), mite (cbP (mm.1 54 0) j) (atM mm (cbA (mm.1 54 0) j)) mm) := by
    simp only [Fn_X12_comesBack, ej]
  rw [eF] at h
  have x1 : (44 + 3 * nI j + 1).toNatClampNeg = 45 + 3 * j := by simp (disch := omega) only [li, pk_mul, nI_add, nI_clamp]; omega
  have b1 : inb (44 + 3 * nI j + 1) (alen 54) = true := inb_o 3060 rfl rfl (by simp (disch := omega) only [li, pk_mul, nI_add, nI_clamp]; rfl) (by omega)
  have x2 : (12 + 4 * nI (owA (mm.1 54 0) j) + 1).toNatClampNeg = 13 + 4 * owA (mm.1 54 0) j := by simp (disch := omega) only [li, pk_mul, nI_add, nI_clamp]; omega
  have b2 : inb (12 + 4 * nI (owA (mm.1 54 0) j) + 1) (alen 54) = true := inb_o 3060 rfl rfl (by simp (disch := omega) only [li, pk_mul, nI_add, nI_clamp]; rfl) (by omega)
  have no : ∀ L : LsT, ¬ cbP (mm.1 54 0) j → X 48 L [] mm := by
    intro L hn
    refine h (fun _ => false) 3000 48 _ _ _ ?_
    refine And.intro (Or.inl rfl) ?_
    exact rit_f hn
  refine h (fun i => Nat.beq i 3) 3000 0 _ _ _ ?_
  refine And.intro ⟨j, by omega, rfl⟩ ?_
  show X 3 [some (vR 12 0), some (vI (nI j)), none, none] [vI (mm.1 54 0 (44 + 3 * (nI j).toNatClampNeg))] mm
  rw [hown']
  refine h (fun i => Nat.beq i 19) 3000 3 _ _ _ ?_
  refine And.intro ⟨_, rfl⟩ ?_
  refine And.intro ⟨_, rfl⟩ ?_
  refine And.intro b1 ?_
  refine And.intro (by decide) ?_
  refine And.intro ⟨_, _, rfl⟩ ?_
  show X 19 [some (vR 12 0), some (vI (nI j)), some (vI (12 + 4 * nI (owA (mm.1 54 0) j))), some (vI (if 1 < (mm.1 54 0 (44 + 3 * nI j + 1).toNatClampNeg + 9) / 10 then (mm.1 54 0 (44 + 3 * nI j + 1).toNatClampNeg + 9) / 10 else 1))] [] mm
  rw [x1]
  show X 19 [some (vR 12 0), some (vI (nI j)), some (vI (12 + 4 * nI (owA (mm.1 54 0) j))), some (vI (ckA (mm.1 54 0) j))] [] mm
  refine h (fun i => Nat.beq i 22 || Nat.beq i 48) 3000 19 _ _ _ ?_
  refine And.intro ⟨hM, rfl⟩ ?_
  refine br_c (fun h1 => ?_) (fun h1 => ?_)
  · exact no _ (fun z => bI_0.mp h1 z.1)
  replace h1 := bI_n0.mp h1
  refine h (fun i => Nat.beq i 26) 3000 22 _ _ _ ?_
  refine And.intro ⟨j, by omega, rfl⟩ ?_
  show X 26 [some (vR 12 0), some (vI (nI j)), some (vI (12 + 4 * nI (owA (mm.1 54 0) j))), some (vI (ckA (mm.1 54 0) j))] [vI (mm.1 54 0 (44 + 3 * (nI j).toNatClampNeg)), vR 12 0] mm
  rw [hown']
  refine h (fun i => Nat.beq i 48 || Nat.beq i 50) 3000 26 _ _ _ ?_
  refine And.intro ⟨owA (mm.1 54 0) j, by omega, rfl⟩ ?_
  refine brn_c (fun h2 => ?_) (fun h2 => ?_)
  · replace h2 := bI_n0.mp h2
    rw [eo] at h2
    exact no _ (fun z => h2 z.2.1)
  replace h2 := bI_0.mp h2
  rw [eo, Decidable.not_not] at h2
  refine And.intro rfl ?_
  refine And.intro ⟨_, _, rfl⟩ ?_
  refine br_c (fun h3 => ?_) (fun h3 => ?_)
  · exact no _ (fun z => bI_0.mp h3 z.2.2.1)
  replace h3 := bI_n0.mp h3
  refine And.intro b2 ?_
  refine br_c (fun h4 => ?_) (fun h4 => ?_)
  · have h4' : mm.1 54 0 (12 + 4 * nI (owA (mm.1 54 0) j) + 1).toNatClampNeg < ckA (mm.1 54 0) j := h4
    rw [x2] at h4'
    exact no _ (fun z => z.2.2.2.1 h4')
  have h4' : ¬ mm.1 54 0 (12 + 4 * nI (owA (mm.1 54 0) j) + 1).toNatClampNeg < ckA (mm.1 54 0) j := h4
  rw [x2] at h4'
  refine And.intro ⟨hM, j, by omega, rfl⟩ ?_
  refine br_c (fun h5 => ?_) (fun h5 => ?_)
  · have h5' : bhA (mm.1 54 0) (nI j).toNatClampNeg (mm.1 54 0 2).toNatClampNeg = 0 := h5
    rw [ej] at h5'
    have hc : cbP (mm.1 54 0) j := ⟨h1, h2, h3, h4', h5'⟩
    show X 50 [some (vR 12 0), some (vI (nI j)), some (vI (12 + 4 * nI (owA (mm.1 54 0) j))), some (vI (ckA (mm.1 54 0) j))] [] mm
    refine h (fun _ => false) 3000 50 _ _ _ ?_
    refine And.intro rfl ?_
    refine And.intro rfl ?_
    refine And.intro b2 ?_
    refine And.intro b2 ?_
    refine And.intro (Or.inr rfl) ?_
    refine Eq.trans ?_ (rit_t hc)
    refine Prod.ext rfl ?_
    show mI (mI mm 54 0 8 (mm.1 54 0 8 ^^^ 1 <<< (nI j &&& 31))) 54 0 (12 + 4 * nI (owA (mm.1 54 0) j) + 1).toNatClampNeg (upd (mm.1 54 0) 8 (mm.1 54 0 8 ^^^ 1 <<< (nI j &&& 31)) (12 + 4 * nI (owA (mm.1 54 0) j) + 1).toNatClampNeg - ckA (mm.1 54 0) j) = _
    rw [x2]
    have e9 : upd (mm.1 54 0) 8 (mm.1 54 0 8 ^^^ 1 <<< (nI j &&& 31)) (13 + 4 * owA (mm.1 54 0) j) = mm.1 54 0 (13 + 4 * owA (mm.1 54 0) j) := upd_ne (by omega)
    rw [e9]
    simp only [mI, mRow2, mRow_row]
    rfl
  · have h5' : ¬ bhA (mm.1 54 0) (nI j).toNatClampNeg (mm.1 54 0 2).toNatClampNeg = 0 := h5
    rw [ej] at h5'
    exact no _ (fun z => h5' z.2.2.2.2)
theorem con_X12_comesBack (l : Launch) : CON l y_X12_comesBack prog_14_method_99_code 4 (some .boolean) rm_X12_comesBack Pre_X12_comesBack Fn_X12_comesBack := CON_of (by decide) rfl rfl (sa_X12_comesBack l) vc_X12_comesBack
def Pre_X12_prefers : PreT := fun m as => VM m ∧ ∃ (d i : Nat) (x : Int32), d < 4 ∧ i < 4 ∧ (x = -1 ∨ ∃ o, o < 4 ∧ x = nI o) ∧ as = [vR 12 0, vI (nI d), vI (nI i), vI x]
def Fn_X12_prefers : FnT := fun m as => match as with
  | [_, Sum.inl d, Sum.inl i, Sum.inl x] => (some (vI (bI (x = -1 ∨ pfP (m.1 54 0) d.toNatClampNeg i.toNatClampNeg x.toNatClampNeg))), m)
  | _ => (none, m)
abbrev y_X12_prefers : MethodName := ⟨"GivenUpModel", "prefers", "(III)Z"⟩
def P_X12_prefers : List StpT := [s_iload 3, s_ic (-1), s_icne 5, s_ic (1), s_zret, s_aload 0, s_iload 2, s_iload 1, s_callV 12 2 Pre_X12_heardOf Fn_X12_heardOf, s_aload 0, s_iload 3, s_iload 1, s_callV 12 2 Pre_X12_heardOf Fn_X12_heardOf, s_isub, s_istore 4, s_aload 0, s_getR 12 0 54, s_iload 2, s_callS 1 Pre_X12_suitorRow Fn_X12_suitorRow, s_iald, s_aload 0, s_getR 12 0 54, s_iload 3, s_callS 1 Pre_X12_suitorRow Fn_X12_suitorRow, s_iald, s_isub, s_istore 5, s_iload 4, s_ifgt 38, s_iload 4, s_ifne 40, s_iload 5, s_ifgt 38, s_iload 5, s_ifne 40, s_iload 2, s_iload 3, s_icge 40, s_ic (1), s_goto 41, s_ic (0), s_zret]
def pc_X12_prefers : Nat → Nat := fun i => [0, 1, 2, 5, 6, 7, 8, 9, 10, 13, 14, 15, 16, 19, 20, 22, 23, 26, 27, 30, 31, 32, 35, 36, 39, 40, 41, 43, 45, 48, 50, 53, 55, 58, 60, 63, 64, 65, 68, 69, 72, 73].getD i 0
def dl_X12_prefers : List (Nat × Instr × Nat) := [(0, .iload_n 3, 1), (1, .iconst (-1), 1), (2, .if_icmp .ne 5, 3), (5, .iconst 1, 1), (6, .ireturn, 1), (7, .aload_n 0, 1), (8, .iload_n 2, 1), (9, .iload_n 1, 1), (10, .invokevirtual 298, 3), (13, .aload_n 0, 1), (14, .iload_n 3, 1), (15, .iload_n 1, 1), (16, .invokevirtual 298, 3), (19, .isub, 1), (20, .istore 4, 2), (22, .aload_n 0, 1), (23, .getfield 7, 3), (26, .iload_n 2, 1), (27, .invokestatic 289, 3), (30, .iaload, 1), (31, .aload_n 0, 1), (32, .getfield 7, 3), (35, .iload_n 3, 1), (36, .invokestatic 289, 3), (39, .iaload, 1), (40, .isub, 1), (41, .istore 5, 2), (43, .iload 4, 2), (45, .ifCond .gt 23, 3), (48, .iload 4, 2), (50, .ifCond .ne 22, 3), (53, .iload 5, 2), (55, .ifCond .gt 13, 3), (58, .iload 5, 2), (60, .ifCond .ne 12, 3), (63, .iload_n 2, 1), (64, .iload_n 3, 1), (65, .if_icmp .ge 7, 3), (68, .iconst 1, 1), (69, .goto 4, 3), (72, .iconst 0, 1), (73, .ireturn, 1)]
theorem dc_X12_prefers : DEC prog_14_method_104_code pc_X12_prefers dl_X12_prefers := DEC_of (by decide +kernel)
abbrev rm_X12_prefers : Room := { frames := 4, cells := 0, slots := 0, locals := 86 }
set_option maxRecDepth 20000 in
theorem sa_X12_prefers (l : Launch) : SNDALL l prog_14_method_104_code "GivenUpModel" 6 (some .boolean) rm_X12_prefers P_X12_prefers pc_X12_prefers := fun p e s m args below meth c cells slots Q D dA ad A RR hC hR => by
  have hM := RTX_room (R := rm_X12_prefers) hR
  exact ⟨st_iload_n hC (n := 0) (k := 3) (dc_X12_prefers 0 (0, .iload_n 3, 1) rfl rfl) rfl rfl,
    st_iconst hC (n := 1) (x := (-1)) (dc_X12_prefers 1 (1, .iconst (-1), 1) rfl rfl) rfl (by decide),
    st_icne hC (n := 2) (dc_X12_prefers 2 (2, .if_icmp .ne 5, 3) rfl rfl) rfl (by decide),
    st_iconst hC (n := 3) (x := 1) (dc_X12_prefers 3 (5, .iconst 1, 1) rfl rfl) rfl (by decide),
    st_zret hC (n := 4) hR (dc_X12_prefers 4 (6, .ireturn, 1) rfl rfl),
    st_aload_n hC (n := 5) (k := 0) (dc_X12_prefers 5 (7, .aload_n 0, 1) rfl rfl) rfl rfl,
    st_iload_n hC (n := 6) (k := 2) (dc_X12_prefers 6 (8, .iload_n 2, 1) rfl rfl) rfl rfl,
    st_iload_n hC (n := 7) (k := 1) (dc_X12_prefers 7 (9, .iload_n 1, 1) rfl rfl) rfl rfl,
    st_callV hC (n := 8) (k := 12) (na := 2) (con_X12_heardOf l) (dc_X12_prefers 8 (10, .invokevirtual 298, 3) rfl rfl) rfl wd_2021 wd_160 (by decide) ⟨rfl, rfl, by decide, by decide⟩ hM wd_2018 wd_2020 wd_106 clf_12,
    st_aload_n hC (n := 9) (k := 0) (dc_X12_prefers 9 (13, .aload_n 0, 1) rfl rfl) rfl rfl,
    st_iload_n hC (n := 10) (k := 3) (dc_X12_prefers 10 (14, .iload_n 3, 1) rfl rfl) rfl rfl,
    st_iload_n hC (n := 11) (k := 1) (dc_X12_prefers 11 (15, .iload_n 1, 1) rfl rfl) rfl rfl,
    st_callV hC (n := 12) (k := 12) (na := 2) (con_X12_heardOf l) (dc_X12_prefers 12 (16, .invokevirtual 298, 3) rfl rfl) rfl wd_2021 wd_160 (by decide) ⟨rfl, rfl, by decide, by decide⟩ hM wd_2018 wd_2020 wd_106 clf_12,
    st_isub hC (n := 13) (dc_X12_prefers 13 (19, .isub, 1) rfl rfl) rfl,
    st_istore hC (n := 14) (dc_X12_prefers 14 (20, .istore 4, 2) rfl rfl) rfl (by decide),
    st_aload_n hC (n := 15) (k := 0) (dc_X12_prefers 15 (22, .aload_n 0, 1) rfl rfl) rfl rfl,
    st_getR hC (n := 16) (k := 12) (j := 0) (dc_X12_prefers 16 (23, .getfield 7, 3) rfl rfl) rfl clf_12 (by decide) rfl (by decide) wd_1552,
    st_iload_n hC (n := 17) (k := 2) (dc_X12_prefers 17 (26, .iload_n 2, 1) rfl rfl) rfl rfl,
    st_callS hC (n := 18) (na := 1) (con_X12_suitorRow l) (dc_X12_prefers 18 (27, .invokestatic 289, 3) rfl rfl) rfl wd_1888 wd_160 (by decide) ⟨rfl, rfl, by decide, by decide⟩ hM wd_1886 wd_1887,
    st_iald hC (n := 19) (dc_X12_prefers 19 (30, .iaload, 1) rfl rfl) rfl,
    st_aload_n hC (n := 20) (k := 0) (dc_X12_prefers 20 (31, .aload_n 0, 1) rfl rfl) rfl rfl,
    st_getR hC (n := 21) (k := 12) (j := 0) (dc_X12_prefers 21 (32, .getfield 7, 3) rfl rfl) rfl clf_12 (by decide) rfl (by decide) wd_1552,
    st_iload_n hC (n := 22) (k := 3) (dc_X12_prefers 22 (35, .iload_n 3, 1) rfl rfl) rfl rfl,
    st_callS hC (n := 23) (na := 1) (con_X12_suitorRow l) (dc_X12_prefers 23 (36, .invokestatic 289, 3) rfl rfl) rfl wd_1888 wd_160 (by decide) ⟨rfl, rfl, by decide, by decide⟩ hM wd_1886 wd_1887,
    st_iald hC (n := 24) (dc_X12_prefers 24 (39, .iaload, 1) rfl rfl) rfl,
    st_isub hC (n := 25) (dc_X12_prefers 25 (40, .isub, 1) rfl rfl) rfl,
    st_istore hC (n := 26) (dc_X12_prefers 26 (41, .istore 5, 2) rfl rfl) rfl (by decide),
    st_iload hC (n := 27) (dc_X12_prefers 27 (43, .iload 4, 2) rfl rfl) rfl,
    st_ifgt hC (n := 28) (dc_X12_prefers 28 (45, .ifCond .gt 23, 3) rfl rfl) rfl (by decide),
    st_iload hC (n := 29) (dc_X12_prefers 29 (48, .iload 4, 2) rfl rfl) rfl,
    st_ifne hC (n := 30) (dc_X12_prefers 30 (50, .ifCond .ne 22, 3) rfl rfl) rfl (by decide),
    st_iload hC (n := 31) (dc_X12_prefers 31 (53, .iload 5, 2) rfl rfl) rfl,
    st_ifgt hC (n := 32) (dc_X12_prefers 32 (55, .ifCond .gt 13, 3) rfl rfl) rfl (by decide),
    st_iload hC (n := 33) (dc_X12_prefers 33 (58, .iload 5, 2) rfl rfl) rfl,
    st_ifne hC (n := 34) (dc_X12_prefers 34 (60, .ifCond .ne 12, 3) rfl rfl) rfl (by decide),
    st_iload_n hC (n := 35) (k := 2) (dc_X12_prefers 35 (63, .iload_n 2, 1) rfl rfl) rfl rfl,
    st_iload_n hC (n := 36) (k := 3) (dc_X12_prefers 36 (64, .iload_n 3, 1) rfl rfl) rfl rfl,
    st_icge hC (n := 37) (dc_X12_prefers 37 (65, .if_icmp .ge 7, 3) rfl rfl) rfl (by decide),
    st_iconst hC (n := 38) (x := 1) (dc_X12_prefers 38 (68, .iconst 1, 1) rfl rfl) rfl (by decide),
    st_goto hC (n := 39) (dc_X12_prefers 39 (69, .goto 4, 3) rfl rfl) (by decide),
    st_iconst hC (n := 40) (x := 0) (dc_X12_prefers 40 (72, .iconst 0, 1) rfl rfl) rfl (by decide),
    st_zret hC (n := 41) hR (dc_X12_prefers 41 (73, .ireturn, 1) rfl rfl), trivial⟩
theorem vc_X12_prefers : VC P_X12_prefers 6 Pre_X12_prefers Fn_X12_prefers := by
  rintro mm as hom hoa ⟨hV, d, i, x, hd, hi, hx, rfl⟩
  refine ⟨Nat.le_of_ble_eq_true rfl, fun X h => ?_⟩
  have ed : (nI d).toNatClampNeg = d := nI_clamp (by omega)
  have ei : (nI i).toNatClampNeg = i := nI_clamp (by omega)
  rcases hx with rfl | ⟨o, ho, rfl⟩
  · refine h (fun _ => false) 3000 0 _ _ _ ?_
    refine brn_f rfl ?_
    refine And.intro (Or.inr rfl) ?_
    exact ret_t (Or.inl rfl)
  · have eo : (nI o).toNatClampNeg = o := nI_clamp (by omega)
    have hne : ¬ nI o = -1 := fun e => (gu_m1 (by omega)).mp e
    have eF : Fn_X12_prefers mm [vR 12 0, vI (nI d), vI (nI i), vI (nI o)] = (some (vI (bI (nI o = -1 ∨ pfP (mm.1 54 0) d i o))), mm) := by
      simp only [Fn_X12_prefers, ed, ei, eo]
    rw [eF] at h
    have x1 : (12 + 4 * nI i).toNatClampNeg = 12 + 4 * i := by simp (disch := omega) only [li, pk_mul, nI_add, nI_clamp]
    have x2 : (12 + 4 * nI o).toNatClampNeg = 12 + 4 * o := by simp (disch := omega) only [li, pk_mul, nI_add, nI_clamp]
    refine h (fun i => Nat.beq i 27) 3000 0 _ _ _ ?_
    refine brn_t hne ?_
    refine And.intro ⟨hV, _, d, hd, rfl⟩ ?_
    refine And.intro ⟨hV, _, d, hd, rfl⟩ ?_
    refine And.intro ⟨_, rfl⟩ ?_
    refine And.intro (inb_o 3060 rfl rfl (by simp (disch := omega) only [li, pk_mul, nI_add, nI_clamp]; rfl) (by omega)) ?_
    refine And.intro ⟨_, rfl⟩ ?_
    refine And.intro (inb_o 3060 rfl rfl (by simp (disch := omega) only [li, pk_mul, nI_add, nI_clamp]; rfl) (by omega)) ?_
    show X 27 [some (vR 12 0), some (vI (nI d)), some (vI (nI i)), some (vI (nI o)), some (vI (hdA (mm.1 54 0) (nI i) (nI d).toNatClampNeg - hdA (mm.1 54 0) (nI o) (nI d).toNatClampNeg)), some (vI (mm.1 54 0 (12 + 4 * nI i).toNatClampNeg - mm.1 54 0 (12 + 4 * nI o).toNatClampNeg))] [] mm
    rw [ed, x1, x2]
    refine h (fun _ => false) 3000 27 _ _ _ ?_
    refine br_c (fun h1 => ?_) (fun h1 => ?_)
    · refine And.intro (Or.inr rfl) ?_
      exact ret_t (Or.inr (Or.inl h1))
    refine brn_c (fun h2 => ?_) (fun h2 => ?_)
    · refine And.intro (Or.inl rfl) ?_
      exact ret_f (fun z => z.elim hne (fun z => z.elim h1 (fun z => h2 z.1)))
    refine br_c (fun h3 => ?_) (fun h3 => ?_)
    · refine And.intro (Or.inr rfl) ?_
      exact ret_t (Or.inr (Or.inr ⟨h2, Or.inl h3⟩))
    refine brn_c (fun h4 => ?_) (fun h4 => ?_)
    · refine And.intro (Or.inl rfl) ?_
      exact ret_f (fun z => z.elim hne (fun z => z.elim h1 (fun z => z.2.elim h3 (fun z => h4 z.1))))
    refine br_c (fun h5 => ?_) (fun h5 => ?_)
    · refine And.intro (Or.inl rfl) ?_
      exact ret_f (fun z => z.elim hne (fun z => z.elim h1 (fun z => z.2.elim h3 (fun z => z.2 h5))))
    · refine And.intro (Or.inr rfl) ?_
      exact ret_t (Or.inr (Or.inr ⟨h2, Or.inr ⟨h4, h5⟩⟩))
theorem con_X12_prefers (l : Launch) : CON l y_X12_prefers prog_14_method_104_code 6 (some .boolean) rm_X12_prefers Pre_X12_prefers Fn_X12_prefers := CON_of (by decide) rfl rfl (sa_X12_prefers l) vc_X12_prefers
def Pre_X12_weeksFor : PreT := fun m as => VM m ∧ ∃ (i : Nat) (x : Int32), i < 4 ∧ as = [vR 12 0, vI (nI i), vI x]
def Fn_X12_weeksFor : FnT := fun m as => match as with
  | [_, Sum.inl i, Sum.inl x] => (some (vI (vwA (m.1 54 0) i.toNatClampNeg x)), m)
  | _ => (none, m)
abbrev y_X12_weeksFor : MethodName := ⟨"GivenUpModel", "weeksFor", "(II)I"⟩
def P_X12_weeksFor : List StpT := [s_aload 0, s_getR 12 0 54, s_ic (4), s_iald, s_aload 0, s_getR 12 0 54, s_iload 1, s_callS 1 Pre_X12_suitorRow Fn_X12_suitorRow, s_ic (2), s_iadd, s_iald, s_isub, s_istore 3, s_iload 2, s_iload 3, s_icgt 18, s_ic (0), s_goto 33, s_iload 2, s_iload 3, s_isub, s_aload 0, s_getR 12 0 54, s_ic (4), s_iald, s_iadd, s_ic (1), s_isub, s_aload 0, s_getR 12 0 54, s_ic (4), s_iald, s_idiv, s_iret]
def pc_X12_weeksFor : Nat → Nat := fun i => [0, 1, 4, 5, 6, 7, 10, 11, 14, 15, 16, 17, 18, 19, 20, 21, 24, 25, 28, 29, 30, 31, 32, 35, 36, 37, 38, 39, 40, 41, 44, 45, 46, 47].getD i 0
def dl_X12_weeksFor : List (Nat × Instr × Nat) := [(0, .aload_n 0, 1), (1, .getfield 7, 3), (4, .iconst 4, 1), (5, .iaload, 1), (6, .aload_n 0, 1), (7, .getfield 7, 3), (10, .iload_n 1, 1), (11, .invokestatic 289, 3), (14, .iconst 2, 1), (15, .iadd, 1), (16, .iaload, 1), (17, .isub, 1), (18, .istore_n 3, 1), (19, .iload_n 2, 1), (20, .iload_n 3, 1), (21, .if_icmp .gt 7, 3), (24, .iconst 0, 1), (25, .goto 22, 3), (28, .iload_n 2, 1), (29, .iload_n 3, 1), (30, .isub, 1), (31, .aload_n 0, 1), (32, .getfield 7, 3), (35, .iconst 4, 1), (36, .iaload, 1), (37, .iadd, 1), (38, .iconst 1, 1), (39, .isub, 1), (40, .aload_n 0, 1), (41, .getfield 7, 3), (44, .iconst 4, 1), (45, .iaload, 1), (46, .idiv, 1), (47, .ireturn, 1)]
theorem dc_X12_weeksFor : DEC prog_14_method_112_code pc_X12_weeksFor dl_X12_weeksFor := DEC_of (by decide +kernel)
abbrev rm_X12_weeksFor : Room := { frames := 1, cells := 0, slots := 0, locals := 20 }
set_option maxRecDepth 20000 in
theorem sa_X12_weeksFor (l : Launch) : SNDALL l prog_14_method_112_code "GivenUpModel" 4 (some .int) rm_X12_weeksFor P_X12_weeksFor pc_X12_weeksFor := fun p e s m args below meth c cells slots Q D dA ad A RR hC hR => by
  have hM := RTX_room (R := rm_X12_weeksFor) hR
  exact ⟨st_aload_n hC (n := 0) (k := 0) (dc_X12_weeksFor 0 (0, .aload_n 0, 1) rfl rfl) rfl rfl,
    st_getR hC (n := 1) (k := 12) (j := 0) (dc_X12_weeksFor 1 (1, .getfield 7, 3) rfl rfl) rfl clf_12 (by decide) rfl (by decide) wd_1552,
    st_iconst hC (n := 2) (x := 4) (dc_X12_weeksFor 2 (4, .iconst 4, 1) rfl rfl) rfl (by decide),
    st_iald hC (n := 3) (dc_X12_weeksFor 3 (5, .iaload, 1) rfl rfl) rfl,
    st_aload_n hC (n := 4) (k := 0) (dc_X12_weeksFor 4 (6, .aload_n 0, 1) rfl rfl) rfl rfl,
    st_getR hC (n := 5) (k := 12) (j := 0) (dc_X12_weeksFor 5 (7, .getfield 7, 3) rfl rfl) rfl clf_12 (by decide) rfl (by decide) wd_1552,
    st_iload_n hC (n := 6) (k := 1) (dc_X12_weeksFor 6 (10, .iload_n 1, 1) rfl rfl) rfl rfl,
    st_callS hC (n := 7) (na := 1) (con_X12_suitorRow l) (dc_X12_weeksFor 7 (11, .invokestatic 289, 3) rfl rfl) rfl wd_1888 wd_160 (by decide) ⟨rfl, rfl, by decide, by decide⟩ hM wd_1886 wd_1887,
    st_iconst hC (n := 8) (x := 2) (dc_X12_weeksFor 8 (14, .iconst 2, 1) rfl rfl) rfl (by decide),
    st_iadd hC (n := 9) (dc_X12_weeksFor 9 (15, .iadd, 1) rfl rfl) rfl,
    st_iald hC (n := 10) (dc_X12_weeksFor 10 (16, .iaload, 1) rfl rfl) rfl,
    st_isub hC (n := 11) (dc_X12_weeksFor 11 (17, .isub, 1) rfl rfl) rfl,
    st_istore_n hC (n := 12) (k := 3) (dc_X12_weeksFor 12 (18, .istore_n 3, 1) rfl rfl) rfl rfl (by decide),
    st_iload_n hC (n := 13) (k := 2) (dc_X12_weeksFor 13 (19, .iload_n 2, 1) rfl rfl) rfl rfl,
    st_iload_n hC (n := 14) (k := 3) (dc_X12_weeksFor 14 (20, .iload_n 3, 1) rfl rfl) rfl rfl,
    st_icgt hC (n := 15) (dc_X12_weeksFor 15 (21, .if_icmp .gt 7, 3) rfl rfl) rfl (by decide),
    st_iconst hC (n := 16) (x := 0) (dc_X12_weeksFor 16 (24, .iconst 0, 1) rfl rfl) rfl (by decide),
    st_goto hC (n := 17) (dc_X12_weeksFor 17 (25, .goto 22, 3) rfl rfl) (by decide),
    st_iload_n hC (n := 18) (k := 2) (dc_X12_weeksFor 18 (28, .iload_n 2, 1) rfl rfl) rfl rfl,
    st_iload_n hC (n := 19) (k := 3) (dc_X12_weeksFor 19 (29, .iload_n 3, 1) rfl rfl) rfl rfl,
    st_isub hC (n := 20) (dc_X12_weeksFor 20 (30, .isub, 1) rfl rfl) rfl,
    st_aload_n hC (n := 21) (k := 0) (dc_X12_weeksFor 21 (31, .aload_n 0, 1) rfl rfl) rfl rfl,
    st_getR hC (n := 22) (k := 12) (j := 0) (dc_X12_weeksFor 22 (32, .getfield 7, 3) rfl rfl) rfl clf_12 (by decide) rfl (by decide) wd_1552,
    st_iconst hC (n := 23) (x := 4) (dc_X12_weeksFor 23 (35, .iconst 4, 1) rfl rfl) rfl (by decide),
    st_iald hC (n := 24) (dc_X12_weeksFor 24 (36, .iaload, 1) rfl rfl) rfl,
    st_iadd hC (n := 25) (dc_X12_weeksFor 25 (37, .iadd, 1) rfl rfl) rfl,
    st_iconst hC (n := 26) (x := 1) (dc_X12_weeksFor 26 (38, .iconst 1, 1) rfl rfl) rfl (by decide),
    st_isub hC (n := 27) (dc_X12_weeksFor 27 (39, .isub, 1) rfl rfl) rfl,
    st_aload_n hC (n := 28) (k := 0) (dc_X12_weeksFor 28 (40, .aload_n 0, 1) rfl rfl) rfl rfl,
    st_getR hC (n := 29) (k := 12) (j := 0) (dc_X12_weeksFor 29 (41, .getfield 7, 3) rfl rfl) rfl clf_12 (by decide) rfl (by decide) wd_1552,
    st_iconst hC (n := 30) (x := 4) (dc_X12_weeksFor 30 (44, .iconst 4, 1) rfl rfl) rfl (by decide),
    st_iald hC (n := 31) (dc_X12_weeksFor 31 (45, .iaload, 1) rfl rfl) rfl,
    st_idiv hC (n := 32) (dc_X12_weeksFor 32 (46, .idiv, 1) rfl rfl) rfl,
    st_iret hC (n := 33) hR (dc_X12_weeksFor 33 (47, .ireturn, 1) rfl rfl), trivial⟩
theorem vc_X12_weeksFor : VC P_X12_weeksFor 4 Pre_X12_weeksFor Fn_X12_weeksFor := by
  rintro mm as hom hoa ⟨⟨ns, nm, nt, hV⟩, i, x, hi, rfl⟩
  refine ⟨Nat.le_of_ble_eq_true rfl, fun X h => ?_⟩
  have ei : (nI i).toNatClampNeg = i := nI_clamp (by omega)
  have x1 : (12 + 4 * nI i + 2).toNatClampNeg = 14 + 4 * i := by simp (disch := omega) only [li, pk_mul, nI_add, nI_clamp]; omega
  have eF : Fn_X12_weeksFor mm [vR 12 0, vI (nI i), vI x] = (some (vI (vwA (mm.1 54 0) i x)), mm) := by
    simp only [Fn_X12_weeksFor, ei]
  rw [eF] at h
  refine h (fun i => Nat.beq i 13) 3000 0 _ _ _ ?_
  refine And.intro rfl ?_
  refine And.intro ⟨_, rfl⟩ ?_
  refine And.intro (inb_o 3060 rfl rfl (by simp (disch := omega) only [li, pk_mul, nI_add, nI_clamp]; rfl) (by omega)) ?_
  show X 13 [some (vR 12 0), some (vI (nI i)), some (vI x), some (vI (mm.1 54 0 4 - mm.1 54 0 (12 + 4 * nI i + 2).toNatClampNeg))] [] mm
  rw [x1]
  refine h (fun _ => false) 3000 13 _ _ _ ?_
  refine br_c (fun h1 => ?_) (fun h1 => ?_)
  · refine And.intro rfl ?_
    refine And.intro rfl ?_
    refine And.intro (VA_w0 hV).1 ?_
    refine leaf ?_
    simp only [vwA, if_pos h1]
    rfl
  · refine leaf ?_
    simp only [vwA, if_neg h1]
theorem con_X12_weeksFor (l : Launch) : CON l y_X12_weeksFor prog_14_method_112_code 4 (some .int) rm_X12_weeksFor Pre_X12_weeksFor Fn_X12_weeksFor := CON_of (by decide) rfl rfl (sa_X12_weeksFor l) vc_X12_weeksFor
def Pre_X12_status : PreT := fun _ as => as = [vR 12 0]
def Fn_X12_status : FnT := fun m _ => (some (vI (m.1 12 0 2)), m)
abbrev y_X12_status : MethodName := ⟨"GivenUpModel", "status", "()I"⟩
def P_X12_status : List StpT := [s_aload 0, s_getI 12 2, s_iret]
def pc_X12_status : Nat → Nat := fun i => [0, 1, 4].getD i 0
def dl_X12_status : List (Nat × Instr × Nat) := [(0, .aload_n 0, 1), (1, .getfield 81, 3), (4, .ireturn, 1)]
theorem dc_X12_status : DEC prog_14_method_3_code pc_X12_status dl_X12_status := DEC_of (by decide +kernel)
abbrev rm_X12_status : Room := { frames := 0, cells := 0, slots := 0, locals := 0 }
set_option maxRecDepth 20000 in
theorem sa_X12_status (l : Launch) : SNDALL l prog_14_method_3_code "GivenUpModel" 1 (some .int) rm_X12_status P_X12_status pc_X12_status := fun p e s m args below meth c cells slots Q D dA ad A RR hC hR => by
  have hM := RTX_room (R := rm_X12_status) hR
  exact ⟨st_aload_n hC (n := 0) (k := 0) (dc_X12_status 0 (0, .aload_n 0, 1) rfl rfl) rfl rfl,
    st_getI hC (n := 1) (k := 12) (j := 2) (dc_X12_status 1 (1, .getfield 81, 3) rfl rfl) rfl clf_12 (by decide) rfl wd_1554,
    st_iret hC (n := 2) hR (dc_X12_status 2 (4, .ireturn, 1) rfl rfl), trivial⟩
theorem vc_X12_status : VC P_X12_status 1 Pre_X12_status Fn_X12_status := by
  rintro mm as hom hoa rfl
  refine ⟨Nat.le_of_ble_eq_true rfl, fun X h => ?_⟩
  refine h (fun _ => false) 3000 0 _ _ _ ?_
  exact rfl
theorem con_X12_status (l : Launch) : CON l y_X12_status prog_14_method_3_code 1 (some .int) rm_X12_status Pre_X12_status Fn_X12_status := CON_of (by decide) rfl rfl (sa_X12_status l) vc_X12_status
def Pre_X12_top : PreT := fun _ as => as = [vR 12 0]
def Fn_X12_top : FnT := fun m _ => (some (vL (m.2.1 12 0 3)), m)
abbrev y_X12_top : MethodName := ⟨"GivenUpModel", "top", "()J"⟩
def P_X12_top : List StpT := [s_aload 0, s_getL 12 3, s_lret]
def pc_X12_top : Nat → Nat := fun i => [0, 1, 4].getD i 0
def dl_X12_top : List (Nat × Instr × Nat) := [(0, .aload_n 0, 1), (1, .getfield 84, 3), (4, .lreturn, 1)]
theorem dc_X12_top : DEC prog_14_method_4_code pc_X12_top dl_X12_top := DEC_of (by decide +kernel)
abbrev rm_X12_top : Room := { frames := 0, cells := 0, slots := 0, locals := 0 }
set_option maxRecDepth 20000 in
theorem sa_X12_top (l : Launch) : SNDALL l prog_14_method_4_code "GivenUpModel" 1 (some .long) rm_X12_top P_X12_top pc_X12_top := fun p e s m args below meth c cells slots Q D dA ad A RR hC hR => by
  have hM := RTX_room (R := rm_X12_top) hR
  exact ⟨st_aload_n hC (n := 0) (k := 0) (dc_X12_top 0 (0, .aload_n 0, 1) rfl rfl) rfl rfl,
    st_getL hC (n := 1) (k := 12) (j := 3) (dc_X12_top 1 (1, .getfield 84, 3) rfl rfl) rfl clf_12 (by decide) rfl wd_1555,
    st_lret hC (n := 2) hR (dc_X12_top 2 (4, .lreturn, 1) rfl rfl), trivial⟩
theorem vc_X12_top : VC P_X12_top 1 Pre_X12_top Fn_X12_top := by
  rintro mm as hom hoa rfl
  refine ⟨Nat.le_of_ble_eq_true rfl, fun X h => ?_⟩
  refine h (fun _ => false) 3000 0 _ _ _ ?_
  exact rfl
theorem con_X12_top (l : Launch) : CON l y_X12_top prog_14_method_4_code 1 (some .long) rm_X12_top Pre_X12_top Fn_X12_top := CON_of (by decide) rfl rfl (sa_X12_top l) vc_X12_top
def Pre_X12_bottom : PreT := fun _ as => as = [vR 12 0]
def Fn_X12_bottom : FnT := fun m _ => (some (vL (m.2.1 12 0 4)), m)
abbrev y_X12_bottom : MethodName := ⟨"GivenUpModel", "bottom", "()J"⟩
def P_X12_bottom : List StpT := [s_aload 0, s_getL 12 4, s_lret]
def pc_X12_bottom : Nat → Nat := fun i => [0, 1, 4].getD i 0
def dl_X12_bottom : List (Nat × Instr × Nat) := [(0, .aload_n 0, 1), (1, .getfield 17, 3), (4, .lreturn, 1)]
theorem dc_X12_bottom : DEC prog_14_method_5_code pc_X12_bottom dl_X12_bottom := DEC_of (by decide +kernel)
abbrev rm_X12_bottom : Room := { frames := 0, cells := 0, slots := 0, locals := 0 }
set_option maxRecDepth 20000 in
theorem sa_X12_bottom (l : Launch) : SNDALL l prog_14_method_5_code "GivenUpModel" 1 (some .long) rm_X12_bottom P_X12_bottom pc_X12_bottom := fun p e s m args below meth c cells slots Q D dA ad A RR hC hR => by
  have hM := RTX_room (R := rm_X12_bottom) hR
  exact ⟨st_aload_n hC (n := 0) (k := 0) (dc_X12_bottom 0 (0, .aload_n 0, 1) rfl rfl) rfl rfl,
    st_getL hC (n := 1) (k := 12) (j := 4) (dc_X12_bottom 1 (1, .getfield 17, 3) rfl rfl) rfl clf_12 (by decide) rfl wd_1556,
    st_lret hC (n := 2) hR (dc_X12_bottom 2 (4, .lreturn, 1) rfl rfl), trivial⟩
theorem vc_X12_bottom : VC P_X12_bottom 1 Pre_X12_bottom Fn_X12_bottom := by
  rintro mm as hom hoa rfl
  refine ⟨Nat.le_of_ble_eq_true rfl, fun X h => ?_⟩
  refine h (fun _ => false) 3000 0 _ _ _ ?_
  exact rfl
theorem con_X12_bottom (l : Launch) : CON l y_X12_bottom prog_14_method_5_code 1 (some .long) rm_X12_bottom Pre_X12_bottom Fn_X12_bottom := CON_of (by decide) rfl rfl (sa_X12_bottom l) vc_X12_bottom
def Pre_X12_told : PreT := fun _ as => ∃ x : Int32, as = [vR 12 0, vI x]
def Fn_X12_told : FnT := fun m as => match as with
  | [_, Sum.inl x] => if ¬ x < 0 ∧ x ≤ 9 then gvM m (m.1 54 0 x.toNatClampNeg) else rfM m 1
  | _ => (none, m)
abbrev y_X12_told : MethodName := ⟨"GivenUpModel", "told", "(I)I"⟩
def P_X12_told : List StpT := [s_iload 1, s_iflt 5, s_iload 1, s_ic (9), s_icle 9, s_aload 0, s_ic (1), s_callV 12 1 Pre_X12_refuse Fn_X12_refuse, s_goto 15, s_aload 0, s_aload 0, s_getR 12 0 54, s_iload 1, s_iald, s_callV 12 1 Pre_X12_gives Fn_X12_gives, s_iret]
def pc_X12_told : Nat → Nat := fun i => [0, 1, 4, 5, 7, 10, 11, 12, 15, 18, 19, 20, 23, 24, 25, 28].getD i 0
def dl_X12_told : List (Nat × Instr × Nat) := [(0, .iload_n 1, 1), (1, .ifCond .lt 9, 3), (4, .iload_n 1, 1), (5, .bipush 9, 2), (7, .if_icmp .le 11, 3), (10, .aload_n 0, 1), (11, .iconst 1, 1), (12, .invokevirtual 87, 3), (15, .goto 13, 3), (18, .aload_n 0, 1), (19, .aload_n 0, 1), (20, .getfield 7, 3), (23, .iload_n 1, 1), (24, .iaload, 1), (25, .invokevirtual 91, 3), (28, .ireturn, 1)]
theorem dc_X12_told : DEC prog_14_method_75_code pc_X12_told dl_X12_told := DEC_of (by decide +kernel)
abbrev rm_X12_told : Room := { frames := 1, cells := 0, slots := 0, locals := 21 }
set_option maxRecDepth 20000 in
theorem sa_X12_told (l : Launch) : SNDALL l prog_14_method_75_code "GivenUpModel" 2 (some .int) rm_X12_told P_X12_told pc_X12_told := fun p e s m args below meth c cells slots Q D dA ad A RR hC hR => by
  have hM := RTX_room (R := rm_X12_told) hR
  exact ⟨st_iload_n hC (n := 0) (k := 1) (dc_X12_told 0 (0, .iload_n 1, 1) rfl rfl) rfl rfl,
    st_iflt hC (n := 1) (dc_X12_told 1 (1, .ifCond .lt 9, 3) rfl rfl) rfl (by decide),
    st_iload_n hC (n := 2) (k := 1) (dc_X12_told 2 (4, .iload_n 1, 1) rfl rfl) rfl rfl,
    st_bipush hC (n := 3) (x := 9) (dc_X12_told 3 (5, .bipush 9, 2) rfl rfl) rfl (by decide),
    st_icle hC (n := 4) (dc_X12_told 4 (7, .if_icmp .le 11, 3) rfl rfl) rfl (by decide),
    st_aload_n hC (n := 5) (k := 0) (dc_X12_told 5 (10, .aload_n 0, 1) rfl rfl) rfl rfl,
    st_iconst hC (n := 6) (x := 1) (dc_X12_told 6 (11, .iconst 1, 1) rfl rfl) rfl (by decide),
    st_callV hC (n := 7) (k := 12) (na := 1) (con_X12_refuse l) (dc_X12_told 7 (12, .invokevirtual 87, 3) rfl rfl) rfl wd_1758 wd_160 (by decide) ⟨rfl, rfl, by decide, by decide⟩ hM wd_1755 wd_1757 wd_57 clf_12,
    st_goto hC (n := 8) (dc_X12_told 8 (15, .goto 13, 3) rfl rfl) (by decide),
    st_aload_n hC (n := 9) (k := 0) (dc_X12_told 9 (18, .aload_n 0, 1) rfl rfl) rfl rfl,
    st_aload_n hC (n := 10) (k := 0) (dc_X12_told 10 (19, .aload_n 0, 1) rfl rfl) rfl rfl,
    st_getR hC (n := 11) (k := 12) (j := 0) (dc_X12_told 11 (20, .getfield 7, 3) rfl rfl) rfl clf_12 (by decide) rfl (by decide) wd_1552,
    st_iload_n hC (n := 12) (k := 1) (dc_X12_told 12 (23, .iload_n 1, 1) rfl rfl) rfl rfl,
    st_iald hC (n := 13) (dc_X12_told 13 (24, .iaload, 1) rfl rfl) rfl,
    st_callV hC (n := 14) (k := 12) (na := 1) (con_X12_gives l) (dc_X12_told 14 (25, .invokevirtual 91, 3) rfl rfl) rfl wd_1849 wd_160 (by decide) ⟨rfl, rfl, by decide, by decide⟩ hM wd_1846 wd_1848 wd_79 clf_12,
    st_iret hC (n := 15) hR (dc_X12_told 15 (28, .ireturn, 1) rfl rfl), trivial⟩
theorem vc_X12_told : VC P_X12_told 2 Pre_X12_told Fn_X12_told := by
  rintro mm as hom hoa ⟨x, rfl⟩
  refine ⟨Nat.le_of_ble_eq_true rfl, fun X h => ?_⟩
  refine h (fun _ => false) 3000 0 _ _ _ ?_
  refine br_c (fun h1 => ?_) (fun h1 => ?_)
  · refine And.intro ⟨_, rfl⟩ ?_
    exact (if_neg (fun z => z.1 h1)).symm
  refine br_c (fun h2 => ?_) (fun h2 => ?_)
  · obtain ⟨j, hj, rfl⟩ := nI_of2 (n := 9) (by decide) h1 h2
    refine And.intro (inb_o 3060 rfl rfl rfl (by omega)) ?_
    refine And.intro ⟨_, rfl⟩ ?_
    exact (if_pos ⟨h1, h2⟩).symm
  · refine And.intro ⟨_, rfl⟩ ?_
    exact (if_neg (fun z => h2 z.2)).symm
theorem con_X12_told (l : Launch) : CON l y_X12_told prog_14_method_75_code 2 (some .int) rm_X12_told Pre_X12_told Fn_X12_told := CON_of (by decide) rfl rfl (sa_X12_told l) vc_X12_told
def Pre_X12_says : PreT := fun m as => VM m ∧ ∃ x y : Int32, as = [vR 12 0, vI x, vI y]
def Fn_X12_says : FnT := fun m as => match as with
  | [_, Sum.inl x, Sum.inl y] => if tgP (m.1 54 0) x ∧ maP (m.1 54 0) y then gvM m (m.1 54 0 (80 + 4 * x.toNatClampNeg + y.toNatClampNeg)) else rfM m 1
  | _ => (none, m)
abbrev y_X12_says : MethodName := ⟨"GivenUpModel", "says", "(II)I"⟩
def P_X12_says : List StpT := [s_aload 0, s_iload 1, s_callV 12 1 Pre_X12_isThing Fn_X12_isThing, s_ifeq 21, s_aload 0, s_iload 2, s_callV 12 1 Pre_X12_isMaid Fn_X12_isMaid, s_ifeq 21, s_aload 0, s_aload 0, s_getR 12 0 54, s_ic (80), s_ic (4), s_iload 1, s_imul, s_iadd, s_iload 2, s_iadd, s_iald, s_callV 12 1 Pre_X12_gives Fn_X12_gives, s_goto 24, s_aload 0, s_ic (1), s_callV 12 1 Pre_X12_refuse Fn_X12_refuse, s_iret]
def pc_X12_says : Nat → Nat := fun i => [0, 1, 2, 5, 8, 9, 10, 13, 16, 17, 18, 21, 23, 24, 25, 26, 27, 28, 29, 30, 33, 36, 37, 38, 41].getD i 0
def dl_X12_says : List (Nat × Instr × Nat) := [(0, .aload_n 0, 1), (1, .iload_n 1, 1), (2, .invokevirtual 313, 3), (5, .ifCond .eq 31, 3), (8, .aload_n 0, 1), (9, .iload_n 2, 1), (10, .invokevirtual 268, 3), (13, .ifCond .eq 23, 3), (16, .aload_n 0, 1), (17, .aload_n 0, 1), (18, .getfield 7, 3), (21, .bipush 80, 2), (23, .iconst 4, 1), (24, .iload_n 1, 1), (25, .imul, 1), (26, .iadd, 1), (27, .iload_n 2, 1), (28, .iadd, 1), (29, .iaload, 1), (30, .invokevirtual 91, 3), (33, .goto 8, 3), (36, .aload_n 0, 1), (37, .iconst 1, 1), (38, .invokevirtual 87, 3), (41, .ireturn, 1)]
theorem dc_X12_says : DEC prog_14_method_80_code pc_X12_says dl_X12_says := DEC_of (by decide +kernel)
abbrev rm_X12_says : Room := { frames := 1, cells := 0, slots := 0, locals := 21 }
set_option maxRecDepth 20000 in
theorem sa_X12_says (l : Launch) : SNDALL l prog_14_method_80_code "GivenUpModel" 3 (some .int) rm_X12_says P_X12_says pc_X12_says := fun p e s m args below meth c cells slots Q D dA ad A RR hC hR => by
  have hM := RTX_room (R := rm_X12_says) hR
  exact ⟨st_aload_n hC (n := 0) (k := 0) (dc_X12_says 0 (0, .aload_n 0, 1) rfl rfl) rfl rfl,
    st_iload_n hC (n := 1) (k := 1) (dc_X12_says 1 (1, .iload_n 1, 1) rfl rfl) rfl rfl,
    st_callV hC (n := 2) (k := 12) (na := 1) (con_X12_isThing l) (dc_X12_says 2 (2, .invokevirtual 313, 3) rfl rfl) rfl wd_1938 wd_160 (by decide) ⟨rfl, rfl, by decide, by decide⟩ hM wd_1935 wd_1937 wd_94 clf_12,
    st_ifeq hC (n := 3) (dc_X12_says 3 (5, .ifCond .eq 31, 3) rfl rfl) rfl (by decide),
    st_aload_n hC (n := 4) (k := 0) (dc_X12_says 4 (8, .aload_n 0, 1) rfl rfl) rfl rfl,
    st_iload_n hC (n := 5) (k := 2) (dc_X12_says 5 (9, .iload_n 2, 1) rfl rfl) rfl rfl,
    st_callV hC (n := 6) (k := 12) (na := 1) (con_X12_isMaid l) (dc_X12_says 6 (10, .invokevirtual 268, 3) rfl rfl) rfl wd_1923 wd_160 (by decide) ⟨rfl, rfl, by decide, by decide⟩ hM wd_1920 wd_1922 wd_92 clf_12,
    st_ifeq hC (n := 7) (dc_X12_says 7 (13, .ifCond .eq 23, 3) rfl rfl) rfl (by decide),
    st_aload_n hC (n := 8) (k := 0) (dc_X12_says 8 (16, .aload_n 0, 1) rfl rfl) rfl rfl,
    st_aload_n hC (n := 9) (k := 0) (dc_X12_says 9 (17, .aload_n 0, 1) rfl rfl) rfl rfl,
    st_getR hC (n := 10) (k := 12) (j := 0) (dc_X12_says 10 (18, .getfield 7, 3) rfl rfl) rfl clf_12 (by decide) rfl (by decide) wd_1552,
    st_bipush hC (n := 11) (x := 80) (dc_X12_says 11 (21, .bipush 80, 2) rfl rfl) rfl (by decide),
    st_iconst hC (n := 12) (x := 4) (dc_X12_says 12 (23, .iconst 4, 1) rfl rfl) rfl (by decide),
    st_iload_n hC (n := 13) (k := 1) (dc_X12_says 13 (24, .iload_n 1, 1) rfl rfl) rfl rfl,
    st_imul hC (n := 14) (dc_X12_says 14 (25, .imul, 1) rfl rfl) rfl,
    st_iadd hC (n := 15) (dc_X12_says 15 (26, .iadd, 1) rfl rfl) rfl,
    st_iload_n hC (n := 16) (k := 2) (dc_X12_says 16 (27, .iload_n 2, 1) rfl rfl) rfl rfl,
    st_iadd hC (n := 17) (dc_X12_says 17 (28, .iadd, 1) rfl rfl) rfl,
    st_iald hC (n := 18) (dc_X12_says 18 (29, .iaload, 1) rfl rfl) rfl,
    st_callV hC (n := 19) (k := 12) (na := 1) (con_X12_gives l) (dc_X12_says 19 (30, .invokevirtual 91, 3) rfl rfl) rfl wd_1849 wd_160 (by decide) ⟨rfl, rfl, by decide, by decide⟩ hM wd_1846 wd_1848 wd_79 clf_12,
    st_goto hC (n := 20) (dc_X12_says 20 (33, .goto 8, 3) rfl rfl) (by decide),
    st_aload_n hC (n := 21) (k := 0) (dc_X12_says 21 (36, .aload_n 0, 1) rfl rfl) rfl rfl,
    st_iconst hC (n := 22) (x := 1) (dc_X12_says 22 (37, .iconst 1, 1) rfl rfl) rfl (by decide),
    st_callV hC (n := 23) (k := 12) (na := 1) (con_X12_refuse l) (dc_X12_says 23 (38, .invokevirtual 87, 3) rfl rfl) rfl wd_1758 wd_160 (by decide) ⟨rfl, rfl, by decide, by decide⟩ hM wd_1755 wd_1757 wd_57 clf_12,
    st_iret hC (n := 24) hR (dc_X12_says 24 (41, .ireturn, 1) rfl rfl), trivial⟩
theorem vc_X12_says : VC P_X12_says 3 Pre_X12_says Fn_X12_says := by
  rintro mm as hom hoa ⟨⟨ns, nm, nt, hV⟩, x, y, rfl⟩
  refine ⟨Nat.le_of_ble_eq_true rfl, fun X h => ?_⟩
  refine h (fun _ => false) 3000 0 _ _ _ ?_
  refine And.intro ⟨_, rfl⟩ ?_
  refine br_c (fun h1 => ?_) (fun h1 => ?_)
  · replace h1 := bI_0.mp h1
    refine And.intro ⟨_, rfl⟩ ?_
    exact (if_neg (fun z => h1 z.1)).symm
  replace h1 := bI_n0.mp h1
  refine And.intro ⟨_, rfl⟩ ?_
  refine br_c (fun h2 => ?_) (fun h2 => ?_)
  · replace h2 := bI_0.mp h2
    refine And.intro ⟨_, rfl⟩ ?_
    exact (if_neg (fun z => h2 z.2)).symm
  replace h2 := bI_n0.mp h2
  obtain ⟨j, hj, rfl⟩ := tg_in hV h1
  obtain ⟨d, hd, rfl⟩ := ma_in hV h2
  have hnm : nm ≤ 4 := hV.2.1.2
  have hnt : nt ≤ 12 := hV.2.2.1.2
  refine And.intro (inb_o 3060 rfl rfl (by simp (disch := omega) only [li, pk_mul, nI_add, nI_clamp]; rfl) (by omega)) ?_
  refine And.intro ⟨_, rfl⟩ ?_
  refine Eq.trans ?_ (if_pos ⟨h1, h2⟩).symm
  have e : (80 + 4 * nI j + nI d).toNatClampNeg = 80 + 4 * (nI j).toNatClampNeg + (nI d).toNatClampNeg := by simp (disch := omega) only [li, pk_mul, nI_add, nI_clamp]
  rw [← e]
  rfl
theorem con_X12_says (l : Launch) : CON l y_X12_says prog_14_method_80_code 3 (some .int) rm_X12_says Pre_X12_says Fn_X12_says := CON_of (by decide) rfl rfl (sa_X12_says l) vc_X12_says
def Pre_X12_likes : PreT := fun m as => VM m ∧ ∃ x y : Int32, as = [vR 12 0, vI x, vI y]
def Fn_X12_likes : FnT := fun m as => match as with
  | [_, Sum.inl x, Sum.inl y] => if suP (m.1 54 0) x ∧ maP (m.1 54 0) y then gvM m (m.1 54 0 (128 + 4 * x.toNatClampNeg + y.toNatClampNeg)) else rfM m 1
  | _ => (none, m)
abbrev y_X12_likes : MethodName := ⟨"GivenUpModel", "likes", "(II)I"⟩
def P_X12_likes : List StpT := [s_aload 0, s_iload 1, s_iload 2, s_callV 12 2 Pre_X12_areBoth Fn_X12_areBoth, s_ifeq 18, s_aload 0, s_aload 0, s_getR 12 0 54, s_ic (128), s_ic (4), s_iload 1, s_imul, s_iadd, s_iload 2, s_iadd, s_iald, s_callV 12 1 Pre_X12_gives Fn_X12_gives, s_goto 21, s_aload 0, s_ic (1), s_callV 12 1 Pre_X12_refuse Fn_X12_refuse, s_iret]
def pc_X12_likes : Nat → Nat := fun i => [0, 1, 2, 3, 6, 9, 10, 11, 14, 17, 18, 19, 20, 21, 22, 23, 24, 27, 30, 31, 32, 35].getD i 0
def dl_X12_likes : List (Nat × Instr × Nat) := [(0, .aload_n 0, 1), (1, .iload_n 1, 1), (2, .iload_n 2, 1), (3, .invokevirtual 322, 3), (6, .ifCond .eq 24, 3), (9, .aload_n 0, 1), (10, .aload_n 0, 1), (11, .getfield 7, 3), (14, .sipush 128, 3), (17, .iconst 4, 1), (18, .iload_n 1, 1), (19, .imul, 1), (20, .iadd, 1), (21, .iload_n 2, 1), (22, .iadd, 1), (23, .iaload, 1), (24, .invokevirtual 91, 3), (27, .goto 8, 3), (30, .aload_n 0, 1), (31, .iconst 1, 1), (32, .invokevirtual 87, 3), (35, .ireturn, 1)]
theorem dc_X12_likes : DEC prog_14_method_81_code pc_X12_likes dl_X12_likes := DEC_of (by decide +kernel)
abbrev rm_X12_likes : Room := { frames := 2, cells := 0, slots := 0, locals := 43 }
set_option maxRecDepth 20000 in
theorem sa_X12_likes (l : Launch) : SNDALL l prog_14_method_81_code "GivenUpModel" 3 (some .int) rm_X12_likes P_X12_likes pc_X12_likes := fun p e s m args below meth c cells slots Q D dA ad A RR hC hR => by
  have hM := RTX_room (R := rm_X12_likes) hR
  exact ⟨st_aload_n hC (n := 0) (k := 0) (dc_X12_likes 0 (0, .aload_n 0, 1) rfl rfl) rfl rfl,
    st_iload_n hC (n := 1) (k := 1) (dc_X12_likes 1 (1, .iload_n 1, 1) rfl rfl) rfl rfl,
    st_iload_n hC (n := 2) (k := 2) (dc_X12_likes 2 (2, .iload_n 2, 1) rfl rfl) rfl rfl,
    st_callV hC (n := 3) (k := 12) (na := 2) (con_X12_areBoth l) (dc_X12_likes 3 (3, .invokevirtual 322, 3) rfl rfl) rfl wd_1969 wd_160 (by decide) ⟨rfl, rfl, by decide, by decide⟩ hM wd_1966 wd_1968 wd_99 clf_12,
    st_ifeq hC (n := 4) (dc_X12_likes 4 (6, .ifCond .eq 24, 3) rfl rfl) rfl (by decide),
    st_aload_n hC (n := 5) (k := 0) (dc_X12_likes 5 (9, .aload_n 0, 1) rfl rfl) rfl rfl,
    st_aload_n hC (n := 6) (k := 0) (dc_X12_likes 6 (10, .aload_n 0, 1) rfl rfl) rfl rfl,
    st_getR hC (n := 7) (k := 12) (j := 0) (dc_X12_likes 7 (11, .getfield 7, 3) rfl rfl) rfl clf_12 (by decide) rfl (by decide) wd_1552,
    st_sipush hC (n := 8) (x := 128) (dc_X12_likes 8 (14, .sipush 128, 3) rfl rfl) rfl (by decide),
    st_iconst hC (n := 9) (x := 4) (dc_X12_likes 9 (17, .iconst 4, 1) rfl rfl) rfl (by decide),
    st_iload_n hC (n := 10) (k := 1) (dc_X12_likes 10 (18, .iload_n 1, 1) rfl rfl) rfl rfl,
    st_imul hC (n := 11) (dc_X12_likes 11 (19, .imul, 1) rfl rfl) rfl,
    st_iadd hC (n := 12) (dc_X12_likes 12 (20, .iadd, 1) rfl rfl) rfl,
    st_iload_n hC (n := 13) (k := 2) (dc_X12_likes 13 (21, .iload_n 2, 1) rfl rfl) rfl rfl,
    st_iadd hC (n := 14) (dc_X12_likes 14 (22, .iadd, 1) rfl rfl) rfl,
    st_iald hC (n := 15) (dc_X12_likes 15 (23, .iaload, 1) rfl rfl) rfl,
    st_callV hC (n := 16) (k := 12) (na := 1) (con_X12_gives l) (dc_X12_likes 16 (24, .invokevirtual 91, 3) rfl rfl) rfl wd_1849 wd_160 (by decide) ⟨rfl, rfl, by decide, by decide⟩ hM wd_1846 wd_1848 wd_79 clf_12,
    st_goto hC (n := 17) (dc_X12_likes 17 (27, .goto 8, 3) rfl rfl) (by decide),
    st_aload_n hC (n := 18) (k := 0) (dc_X12_likes 18 (30, .aload_n 0, 1) rfl rfl) rfl rfl,
    st_iconst hC (n := 19) (x := 1) (dc_X12_likes 19 (31, .iconst 1, 1) rfl rfl) rfl (by decide),
    st_callV hC (n := 20) (k := 12) (na := 1) (con_X12_refuse l) (dc_X12_likes 20 (32, .invokevirtual 87, 3) rfl rfl) rfl wd_1758 wd_160 (by decide) ⟨rfl, rfl, by decide, by decide⟩ hM wd_1755 wd_1757 wd_57 clf_12,
    st_iret hC (n := 21) hR (dc_X12_likes 21 (35, .ireturn, 1) rfl rfl), trivial⟩
theorem vc_X12_likes : VC P_X12_likes 3 Pre_X12_likes Fn_X12_likes := by
  rintro mm as hom hoa ⟨⟨ns, nm, nt, hV⟩, x, y, rfl⟩
  refine ⟨Nat.le_of_ble_eq_true rfl, fun X h => ?_⟩
  refine h (fun _ => false) 3000 0 _ _ _ ?_
  refine And.intro ⟨_, _, rfl⟩ ?_
  refine br_c (fun h1 => ?_) (fun h1 => ?_)
  · replace h1 := bI_0.mp h1
    refine And.intro ⟨_, rfl⟩ ?_
    exact (if_neg h1).symm
  replace h1 := bI_n0.mp h1
  obtain ⟨j, hj, rfl⟩ := su_in hV h1.1
  obtain ⟨d, hd, rfl⟩ := ma_in hV h1.2
  have hnm : nm ≤ 4 := hV.2.1.2
  have hns : ns ≤ 4 := hV.1.2
  refine And.intro (inb_o 3060 rfl rfl (by simp (disch := omega) only [li, pk_mul, nI_add, nI_clamp]; rfl) (by omega)) ?_
  refine And.intro ⟨_, rfl⟩ ?_
  refine Eq.trans ?_ (if_pos h1).symm
  have e : (128 + 4 * nI j + nI d).toNatClampNeg = 128 + 4 * (nI j).toNatClampNeg + (nI d).toNatClampNeg := by simp (disch := omega) only [li, pk_mul, nI_add, nI_clamp]
  rw [← e]
  rfl
theorem con_X12_likes (l : Launch) : CON l y_X12_likes prog_14_method_81_code 3 (some .int) rm_X12_likes Pre_X12_likes Fn_X12_likes := CON_of (by decide) rfl rfl (sa_X12_likes l) vc_X12_likes
def Pre_X12_heard : PreT := fun m as => VM m ∧ ∃ x y : Int32, as = [vR 12 0, vI x, vI y]
def Fn_X12_heard : FnT := fun m as => match as with
  | [_, Sum.inl x, Sum.inl y] => if suP (m.1 54 0) x ∧ maP (m.1 54 0) y then gvM m (hdA (m.1 54 0) x y.toNatClampNeg) else rfM m 1
  | _ => (none, m)
abbrev y_X12_heard : MethodName := ⟨"GivenUpModel", "heard", "(II)I"⟩
def P_X12_heard : List StpT := [s_aload 0, s_iload 1, s_iload 2, s_callV 12 2 Pre_X12_areBoth Fn_X12_areBoth, s_ifeq 12, s_aload 0, s_aload 0, s_iload 1, s_iload 2, s_callV 12 2 Pre_X12_heardOf Fn_X12_heardOf, s_callV 12 1 Pre_X12_gives Fn_X12_gives, s_goto 15, s_aload 0, s_ic (1), s_callV 12 1 Pre_X12_refuse Fn_X12_refuse, s_iret]
def pc_X12_heard : Nat → Nat := fun i => [0, 1, 2, 3, 6, 9, 10, 11, 12, 13, 16, 19, 22, 23, 24, 27].getD i 0
def dl_X12_heard : List (Nat × Instr × Nat) := [(0, .aload_n 0, 1), (1, .iload_n 1, 1), (2, .iload_n 2, 1), (3, .invokevirtual 322, 3), (6, .ifCond .eq 16, 3), (9, .aload_n 0, 1), (10, .aload_n 0, 1), (11, .iload_n 1, 1), (12, .iload_n 2, 1), (13, .invokevirtual 298, 3), (16, .invokevirtual 91, 3), (19, .goto 8, 3), (22, .aload_n 0, 1), (23, .iconst 1, 1), (24, .invokevirtual 87, 3), (27, .ireturn, 1)]
theorem dc_X12_heard : DEC prog_14_method_92_code pc_X12_heard dl_X12_heard := DEC_of (by decide +kernel)
abbrev rm_X12_heard : Room := { frames := 4, cells := 0, slots := 0, locals := 86 }
set_option maxRecDepth 20000 in
theorem sa_X12_heard (l : Launch) : SNDALL l prog_14_method_92_code "GivenUpModel" 3 (some .int) rm_X12_heard P_X12_heard pc_X12_heard := fun p e s m args below meth c cells slots Q D dA ad A RR hC hR => by
  have hM := RTX_room (R := rm_X12_heard) hR
  exact ⟨st_aload_n hC (n := 0) (k := 0) (dc_X12_heard 0 (0, .aload_n 0, 1) rfl rfl) rfl rfl,
    st_iload_n hC (n := 1) (k := 1) (dc_X12_heard 1 (1, .iload_n 1, 1) rfl rfl) rfl rfl,
    st_iload_n hC (n := 2) (k := 2) (dc_X12_heard 2 (2, .iload_n 2, 1) rfl rfl) rfl rfl,
    st_callV hC (n := 3) (k := 12) (na := 2) (con_X12_areBoth l) (dc_X12_heard 3 (3, .invokevirtual 322, 3) rfl rfl) rfl wd_1969 wd_160 (by decide) ⟨rfl, rfl, by decide, by decide⟩ hM wd_1966 wd_1968 wd_99 clf_12,
    st_ifeq hC (n := 4) (dc_X12_heard 4 (6, .ifCond .eq 16, 3) rfl rfl) rfl (by decide),
    st_aload_n hC (n := 5) (k := 0) (dc_X12_heard 5 (9, .aload_n 0, 1) rfl rfl) rfl rfl,
    st_aload_n hC (n := 6) (k := 0) (dc_X12_heard 6 (10, .aload_n 0, 1) rfl rfl) rfl rfl,
    st_iload_n hC (n := 7) (k := 1) (dc_X12_heard 7 (11, .iload_n 1, 1) rfl rfl) rfl rfl,
    st_iload_n hC (n := 8) (k := 2) (dc_X12_heard 8 (12, .iload_n 2, 1) rfl rfl) rfl rfl,
    st_callV hC (n := 9) (k := 12) (na := 2) (con_X12_heardOf l) (dc_X12_heard 9 (13, .invokevirtual 298, 3) rfl rfl) rfl wd_2021 wd_160 (by decide) ⟨rfl, rfl, by decide, by decide⟩ hM wd_2018 wd_2020 wd_106 clf_12,
    st_callV hC (n := 10) (k := 12) (na := 1) (con_X12_gives l) (dc_X12_heard 10 (16, .invokevirtual 91, 3) rfl rfl) rfl wd_1849 wd_160 (by decide) ⟨rfl, rfl, by decide, by decide⟩ hM wd_1846 wd_1848 wd_79 clf_12,
    st_goto hC (n := 11) (dc_X12_heard 11 (19, .goto 8, 3) rfl rfl) (by decide),
    st_aload_n hC (n := 12) (k := 0) (dc_X12_heard 12 (22, .aload_n 0, 1) rfl rfl) rfl rfl,
    st_iconst hC (n := 13) (x := 1) (dc_X12_heard 13 (23, .iconst 1, 1) rfl rfl) rfl (by decide),
    st_callV hC (n := 14) (k := 12) (na := 1) (con_X12_refuse l) (dc_X12_heard 14 (24, .invokevirtual 87, 3) rfl rfl) rfl wd_1758 wd_160 (by decide) ⟨rfl, rfl, by decide, by decide⟩ hM wd_1755 wd_1757 wd_57 clf_12,
    st_iret hC (n := 15) hR (dc_X12_heard 15 (27, .ireturn, 1) rfl rfl), trivial⟩
theorem vc_X12_heard : VC P_X12_heard 3 Pre_X12_heard Fn_X12_heard := by
  rintro mm as hom hoa ⟨⟨ns, nm, nt, hV⟩, x, y, rfl⟩
  refine ⟨Nat.le_of_ble_eq_true rfl, fun X h => ?_⟩
  refine h (fun _ => false) 3000 0 _ _ _ ?_
  refine And.intro ⟨_, _, rfl⟩ ?_
  refine br_c (fun h1 => ?_) (fun h1 => ?_)
  · replace h1 := bI_0.mp h1
    refine And.intro ⟨_, rfl⟩ ?_
    exact (if_neg h1).symm
  replace h1 := bI_n0.mp h1
  obtain ⟨d, hd, rfl⟩ := ma_in hV h1.2
  have hnm : nm ≤ 4 := hV.2.1.2
  refine And.intro ⟨⟨ns, nm, nt, hV⟩, _, d, by omega, rfl⟩ ?_
  refine And.intro ⟨_, rfl⟩ ?_
  exact (if_pos h1).symm
theorem con_X12_heard (l : Launch) : CON l y_X12_heard prog_14_method_92_code 3 (some .int) rm_X12_heard Pre_X12_heard Fn_X12_heard := CON_of (by decide) rfl rfl (sa_X12_heard l) vc_X12_heard
def Pre_X12_may : PreT := fun m as => VM m ∧ ∃ x : Int32, as = [vR 12 0, vI x]
def Fn_X12_may : FnT := fun m as => match as with
  | [_, Sum.inl x] => if suP (m.1 54 0) x then gvM m (myA (m.1 54 0) x (m.1 54 0 2).toNatClampNeg) else rfM m 1
  | _ => (none, m)
abbrev y_X12_may : MethodName := ⟨"GivenUpModel", "may", "(I)I"⟩
def P_X12_may : List StpT := [s_aload 0, s_iload 1, s_callV 12 1 Pre_X12_isSuitor Fn_X12_isSuitor, s_ifeq 10, s_aload 0, s_aload 0, s_iload 1, s_callV 12 1 Pre_X12_mayOf Fn_X12_mayOf, s_callV 12 1 Pre_X12_gives Fn_X12_gives, s_goto 13, s_aload 0, s_ic (1), s_callV 12 1 Pre_X12_refuse Fn_X12_refuse, s_iret]
def pc_X12_may : Nat → Nat := fun i => [0, 1, 2, 5, 8, 9, 10, 11, 14, 17, 20, 21, 22, 25].getD i 0
def dl_X12_may : List (Nat × Instr × Nat) := [(0, .aload_n 0, 1), (1, .iload_n 1, 1), (2, .invokevirtual 265, 3), (5, .ifCond .eq 15, 3), (8, .aload_n 0, 1), (9, .aload_n 0, 1), (10, .iload_n 1, 1), (11, .invokevirtual 337, 3), (14, .invokevirtual 91, 3), (17, .goto 8, 3), (20, .aload_n 0, 1), (21, .iconst 1, 1), (22, .invokevirtual 87, 3), (25, .ireturn, 1)]
theorem dc_X12_may : DEC prog_14_method_89_code pc_X12_may dl_X12_may := DEC_of (by decide +kernel)
abbrev rm_X12_may : Room := { frames := 4, cells := 0, slots := 0, locals := 86 }
set_option maxRecDepth 20000 in
theorem sa_X12_may (l : Launch) : SNDALL l prog_14_method_89_code "GivenUpModel" 2 (some .int) rm_X12_may P_X12_may pc_X12_may := fun p e s m args below meth c cells slots Q D dA ad A RR hC hR => by
  have hM := RTX_room (R := rm_X12_may) hR
  exact ⟨st_aload_n hC (n := 0) (k := 0) (dc_X12_may 0 (0, .aload_n 0, 1) rfl rfl) rfl rfl,
    st_iload_n hC (n := 1) (k := 1) (dc_X12_may 1 (1, .iload_n 1, 1) rfl rfl) rfl rfl,
    st_callV hC (n := 2) (k := 12) (na := 1) (con_X12_isSuitor l) (dc_X12_may 2 (2, .invokevirtual 265, 3) rfl rfl) rfl wd_1885 wd_160 (by decide) ⟨rfl, rfl, by decide, by decide⟩ hM wd_1882 wd_1884 wd_85 clf_12,
    st_ifeq hC (n := 3) (dc_X12_may 3 (5, .ifCond .eq 15, 3) rfl rfl) rfl (by decide),
    st_aload_n hC (n := 4) (k := 0) (dc_X12_may 4 (8, .aload_n 0, 1) rfl rfl) rfl rfl,
    st_aload_n hC (n := 5) (k := 0) (dc_X12_may 5 (9, .aload_n 0, 1) rfl rfl) rfl rfl,
    st_iload_n hC (n := 6) (k := 1) (dc_X12_may 6 (10, .iload_n 1, 1) rfl rfl) rfl rfl,
    st_callV hC (n := 7) (k := 12) (na := 1) (con_X12_mayOf l) (dc_X12_may 7 (11, .invokevirtual 337, 3) rfl rfl) rfl wd_2005 wd_160 (by decide) ⟨rfl, rfl, by decide, by decide⟩ hM wd_2002 wd_2004 wd_104 clf_12,
    st_callV hC (n := 8) (k := 12) (na := 1) (con_X12_gives l) (dc_X12_may 8 (14, .invokevirtual 91, 3) rfl rfl) rfl wd_1849 wd_160 (by decide) ⟨rfl, rfl, by decide, by decide⟩ hM wd_1846 wd_1848 wd_79 clf_12,
    st_goto hC (n := 9) (dc_X12_may 9 (17, .goto 8, 3) rfl rfl) (by decide),
    st_aload_n hC (n := 10) (k := 0) (dc_X12_may 10 (20, .aload_n 0, 1) rfl rfl) rfl rfl,
    st_iconst hC (n := 11) (x := 1) (dc_X12_may 11 (21, .iconst 1, 1) rfl rfl) rfl (by decide),
    st_callV hC (n := 12) (k := 12) (na := 1) (con_X12_refuse l) (dc_X12_may 12 (22, .invokevirtual 87, 3) rfl rfl) rfl wd_1758 wd_160 (by decide) ⟨rfl, rfl, by decide, by decide⟩ hM wd_1755 wd_1757 wd_57 clf_12,
    st_iret hC (n := 13) hR (dc_X12_may 13 (25, .ireturn, 1) rfl rfl), trivial⟩
theorem vc_X12_may : VC P_X12_may 2 Pre_X12_may Fn_X12_may := by
  rintro mm as hom hoa ⟨⟨ns, nm, nt, hV⟩, x, rfl⟩
  refine ⟨Nat.le_of_ble_eq_true rfl, fun X h => ?_⟩
  refine h (fun _ => false) 3000 0 _ _ _ ?_
  refine And.intro ⟨_, rfl⟩ ?_
  refine br_c (fun h1 => ?_) (fun h1 => ?_)
  · replace h1 := bI_0.mp h1
    refine And.intro ⟨_, rfl⟩ ?_
    exact (if_neg h1).symm
  replace h1 := bI_n0.mp h1
  refine And.intro ⟨⟨ns, nm, nt, hV⟩, _, rfl⟩ ?_
  refine And.intro ⟨_, rfl⟩ ?_
  exact (if_pos h1).symm
theorem con_X12_may (l : Launch) : CON l y_X12_may prog_14_method_89_code 2 (some .int) rm_X12_may Pre_X12_may Fn_X12_may := CON_of (by decide) rfl rfl (sa_X12_may l) vc_X12_may
def Pre_X12_yes : PreT := fun m as => VM m ∧ ∃ x y : Int32, as = [vR 12 0, vI x, vI y]
def Fn_X12_yes : FnT := fun m as => match as with
  | [_, Sum.inl x, Sum.inl y] => if suP (m.1 54 0) x ∧ maP (m.1 54 0) y then gvM m (bI (ysA (m.1 54 0) x.toNatClampNeg y.toNatClampNeg)) else rfM m 1
  | _ => (none, m)
abbrev y_X12_yes : MethodName := ⟨"GivenUpModel", "yes", "(II)I"⟩
def P_X12_yes : List StpT := [s_aload 0, s_iload 1, s_iload 2, s_callV 12 2 Pre_X12_areBoth Fn_X12_areBoth, s_ifeq 16, s_aload 0, s_aload 0, s_iload 1, s_iload 2, s_callV 12 2 Pre_X12_saysYes Fn_X12_saysYes, s_ifeq 13, s_ic (1), s_goto 14, s_ic (0), s_callV 12 1 Pre_X12_gives Fn_X12_gives, s_goto 19, s_aload 0, s_ic (1), s_callV 12 1 Pre_X12_refuse Fn_X12_refuse, s_iret]
def pc_X12_yes : Nat → Nat := fun i => [0, 1, 2, 3, 6, 9, 10, 11, 12, 13, 16, 19, 20, 23, 24, 27, 30, 31, 32, 35].getD i 0
def dl_X12_yes : List (Nat × Instr × Nat) := [(0, .aload_n 0, 1), (1, .iload_n 1, 1), (2, .iload_n 2, 1), (3, .invokevirtual 322, 3), (6, .ifCond .eq 24, 3), (9, .aload_n 0, 1), (10, .aload_n 0, 1), (11, .iload_n 1, 1), (12, .iload_n 2, 1), (13, .invokevirtual 343, 3), (16, .ifCond .eq 7, 3), (19, .iconst 1, 1), (20, .goto 4, 3), (23, .iconst 0, 1), (24, .invokevirtual 91, 3), (27, .goto 8, 3), (30, .aload_n 0, 1), (31, .iconst 1, 1), (32, .invokevirtual 87, 3), (35, .ireturn, 1)]
theorem dc_X12_yes : DEC prog_14_method_93_code pc_X12_yes dl_X12_yes := DEC_of (by decide +kernel)
abbrev rm_X12_yes : Room := { frames := 5, cells := 0, slots := 0, locals := 108 }
set_option maxRecDepth 20000 in
theorem sa_X12_yes (l : Launch) : SNDALL l prog_14_method_93_code "GivenUpModel" 3 (some .int) rm_X12_yes P_X12_yes pc_X12_yes := fun p e s m args below meth c cells slots Q D dA ad A RR hC hR => by
  have hM := RTX_room (R := rm_X12_yes) hR
  exact ⟨st_aload_n hC (n := 0) (k := 0) (dc_X12_yes 0 (0, .aload_n 0, 1) rfl rfl) rfl rfl,
    st_iload_n hC (n := 1) (k := 1) (dc_X12_yes 1 (1, .iload_n 1, 1) rfl rfl) rfl rfl,
    st_iload_n hC (n := 2) (k := 2) (dc_X12_yes 2 (2, .iload_n 2, 1) rfl rfl) rfl rfl,
    st_callV hC (n := 3) (k := 12) (na := 2) (con_X12_areBoth l) (dc_X12_yes 3 (3, .invokevirtual 322, 3) rfl rfl) rfl wd_1969 wd_160 (by decide) ⟨rfl, rfl, by decide, by decide⟩ hM wd_1966 wd_1968 wd_99 clf_12,
    st_ifeq hC (n := 4) (dc_X12_yes 4 (6, .ifCond .eq 24, 3) rfl rfl) rfl (by decide),
    st_aload_n hC (n := 5) (k := 0) (dc_X12_yes 5 (9, .aload_n 0, 1) rfl rfl) rfl rfl,
    st_aload_n hC (n := 6) (k := 0) (dc_X12_yes 6 (10, .aload_n 0, 1) rfl rfl) rfl rfl,
    st_iload_n hC (n := 7) (k := 1) (dc_X12_yes 7 (11, .iload_n 1, 1) rfl rfl) rfl rfl,
    st_iload_n hC (n := 8) (k := 2) (dc_X12_yes 8 (12, .iload_n 2, 1) rfl rfl) rfl rfl,
    st_callV hC (n := 9) (k := 12) (na := 2) (con_X12_saysYes l) (dc_X12_yes 9 (13, .invokevirtual 343, 3) rfl rfl) rfl wd_2033 wd_160 (by decide) ⟨rfl, rfl, by decide, by decide⟩ hM wd_2030 wd_2032 wd_108 clf_12,
    st_ifeq hC (n := 10) (dc_X12_yes 10 (16, .ifCond .eq 7, 3) rfl rfl) rfl (by decide),
    st_iconst hC (n := 11) (x := 1) (dc_X12_yes 11 (19, .iconst 1, 1) rfl rfl) rfl (by decide),
    st_goto hC (n := 12) (dc_X12_yes 12 (20, .goto 4, 3) rfl rfl) (by decide),
    st_iconst hC (n := 13) (x := 0) (dc_X12_yes 13 (23, .iconst 0, 1) rfl rfl) rfl (by decide),
    st_callV hC (n := 14) (k := 12) (na := 1) (con_X12_gives l) (dc_X12_yes 14 (24, .invokevirtual 91, 3) rfl rfl) rfl wd_1849 wd_160 (by decide) ⟨rfl, rfl, by decide, by decide⟩ hM wd_1846 wd_1848 wd_79 clf_12,
    st_goto hC (n := 15) (dc_X12_yes 15 (27, .goto 8, 3) rfl rfl) (by decide),
    st_aload_n hC (n := 16) (k := 0) (dc_X12_yes 16 (30, .aload_n 0, 1) rfl rfl) rfl rfl,
    st_iconst hC (n := 17) (x := 1) (dc_X12_yes 17 (31, .iconst 1, 1) rfl rfl) rfl (by decide),
    st_callV hC (n := 18) (k := 12) (na := 1) (con_X12_refuse l) (dc_X12_yes 18 (32, .invokevirtual 87, 3) rfl rfl) rfl wd_1758 wd_160 (by decide) ⟨rfl, rfl, by decide, by decide⟩ hM wd_1755 wd_1757 wd_57 clf_12,
    st_iret hC (n := 19) hR (dc_X12_yes 19 (35, .ireturn, 1) rfl rfl), trivial⟩
theorem vc_X12_yes : VC P_X12_yes 3 Pre_X12_yes Fn_X12_yes := by
  rintro mm as hom hoa ⟨⟨ns, nm, nt, hV⟩, x, y, rfl⟩
  refine ⟨Nat.le_of_ble_eq_true rfl, fun X h => ?_⟩
  refine h (fun _ => false) 3000 0 _ _ _ ?_
  refine And.intro ⟨_, _, rfl⟩ ?_
  refine br_c (fun h1 => ?_) (fun h1 => ?_)
  · replace h1 := bI_0.mp h1
    refine And.intro ⟨_, rfl⟩ ?_
    exact (if_neg h1).symm
  replace h1 := bI_n0.mp h1
  obtain ⟨j, hj, rfl⟩ := su_in hV h1.1
  obtain ⟨d, hd, rfl⟩ := ma_in hV h1.2
  have hnm : nm ≤ 4 := hV.2.1.2
  have hns : ns ≤ 4 := hV.1.2
  refine And.intro ⟨⟨ns, nm, nt, hV⟩, j, d, by omega, by omega, rfl⟩ ?_
  refine br_c (fun h2 => ?_) (fun h2 => ?_)
  · refine And.intro ⟨_, rfl⟩ ?_
    refine Eq.trans ?_ (if_pos h1).symm
    exact gv_bf (m := mm) (p := ysA (mm.1 54 0) (nI j).toNatClampNeg (nI d).toNatClampNeg) (bI_0.mp h2)
  · refine And.intro ⟨_, rfl⟩ ?_
    refine Eq.trans ?_ (if_pos h1).symm
    exact gv_bt (m := mm) (p := ysA (mm.1 54 0) (nI j).toNatClampNeg (nI d).toNatClampNeg) (bI_n0.mp h2)
theorem con_X12_yes (l : Launch) : CON l y_X12_yes prog_14_method_93_code 3 (some .int) rm_X12_yes Pre_X12_yes Fn_X12_yes := CON_of (by decide) rfl rfl (sa_X12_yes l) vc_X12_yes
def Pre_X12_lacks : PreT := fun m as => VM m ∧ ∃ x y : Int32, as = [vR 12 0, vI x, vI y]
def Fn_X12_lacks : FnT := fun m as => match as with
  | [_, Sum.inl x, Sum.inl y] => if suP (m.1 54 0) x ∧ maP (m.1 54 0) y then gvM m (brA (m.1 54 0) y.toNatClampNeg (m.1 54 0 6) - hdA (m.1 54 0) x y.toNatClampNeg) else rfM m 1
  | _ => (none, m)
abbrev y_X12_lacks : MethodName := ⟨"GivenUpModel", "lacks", "(II)I"⟩
def P_X12_lacks : List StpT := [s_aload 0, s_iload 1, s_iload 2, s_callV 12 2 Pre_X12_areBoth Fn_X12_areBoth, s_ifeq 20, s_aload 0, s_aload 0, s_iload 2, s_aload 0, s_getR 12 0 54, s_ic (6), s_iald, s_callV 12 2 Pre_X12_barIn Fn_X12_barIn, s_aload 0, s_iload 1, s_iload 2, s_callV 12 2 Pre_X12_heardOf Fn_X12_heardOf, s_isub, s_callV 12 1 Pre_X12_gives Fn_X12_gives, s_goto 23, s_aload 0, s_ic (1), s_callV 12 1 Pre_X12_refuse Fn_X12_refuse, s_iret]
def pc_X12_lacks : Nat → Nat := fun i => [0, 1, 2, 3, 6, 9, 10, 11, 12, 13, 16, 18, 19, 22, 23, 24, 25, 28, 29, 32, 35, 36, 37, 40].getD i 0
def dl_X12_lacks : List (Nat × Instr × Nat) := [(0, .aload_n 0, 1), (1, .iload_n 1, 1), (2, .iload_n 2, 1), (3, .invokevirtual 322, 3), (6, .ifCond .eq 29, 3), (9, .aload_n 0, 1), (10, .aload_n 0, 1), (11, .iload_n 2, 1), (12, .aload_n 0, 1), (13, .getfield 7, 3), (16, .bipush 6, 2), (18, .iaload, 1), (19, .invokevirtual 301, 3), (22, .aload_n 0, 1), (23, .iload_n 1, 1), (24, .iload_n 2, 1), (25, .invokevirtual 298, 3), (28, .isub, 1), (29, .invokevirtual 91, 3), (32, .goto 8, 3), (35, .aload_n 0, 1), (36, .iconst 1, 1), (37, .invokevirtual 87, 3), (40, .ireturn, 1)]
theorem dc_X12_lacks : DEC prog_14_method_94_code pc_X12_lacks dl_X12_lacks := DEC_of (by decide +kernel)
abbrev rm_X12_lacks : Room := { frames := 4, cells := 0, slots := 0, locals := 86 }
set_option maxRecDepth 20000 in
theorem sa_X12_lacks (l : Launch) : SNDALL l prog_14_method_94_code "GivenUpModel" 3 (some .int) rm_X12_lacks P_X12_lacks pc_X12_lacks := fun p e s m args below meth c cells slots Q D dA ad A RR hC hR => by
  have hM := RTX_room (R := rm_X12_lacks) hR
  exact ⟨st_aload_n hC (n := 0) (k := 0) (dc_X12_lacks 0 (0, .aload_n 0, 1) rfl rfl) rfl rfl,
    st_iload_n hC (n := 1) (k := 1) (dc_X12_lacks 1 (1, .iload_n 1, 1) rfl rfl) rfl rfl,
    st_iload_n hC (n := 2) (k := 2) (dc_X12_lacks 2 (2, .iload_n 2, 1) rfl rfl) rfl rfl,
    st_callV hC (n := 3) (k := 12) (na := 2) (con_X12_areBoth l) (dc_X12_lacks 3 (3, .invokevirtual 322, 3) rfl rfl) rfl wd_1969 wd_160 (by decide) ⟨rfl, rfl, by decide, by decide⟩ hM wd_1966 wd_1968 wd_99 clf_12,
    st_ifeq hC (n := 4) (dc_X12_lacks 4 (6, .ifCond .eq 29, 3) rfl rfl) rfl (by decide),
    st_aload_n hC (n := 5) (k := 0) (dc_X12_lacks 5 (9, .aload_n 0, 1) rfl rfl) rfl rfl,
    st_aload_n hC (n := 6) (k := 0) (dc_X12_lacks 6 (10, .aload_n 0, 1) rfl rfl) rfl rfl,
    st_iload_n hC (n := 7) (k := 2) (dc_X12_lacks 7 (11, .iload_n 2, 1) rfl rfl) rfl rfl,
    st_aload_n hC (n := 8) (k := 0) (dc_X12_lacks 8 (12, .aload_n 0, 1) rfl rfl) rfl rfl,
    st_getR hC (n := 9) (k := 12) (j := 0) (dc_X12_lacks 9 (13, .getfield 7, 3) rfl rfl) rfl clf_12 (by decide) rfl (by decide) wd_1552,
    st_bipush hC (n := 10) (x := 6) (dc_X12_lacks 10 (16, .bipush 6, 2) rfl rfl) rfl (by decide),
    st_iald hC (n := 11) (dc_X12_lacks 11 (18, .iaload, 1) rfl rfl) rfl,
    st_callV hC (n := 12) (k := 12) (na := 2) (con_X12_barIn l) (dc_X12_lacks 12 (19, .invokevirtual 301, 3) rfl rfl) rfl wd_1930 wd_160 (by decide) ⟨rfl, rfl, by decide, by decide⟩ hM wd_1927 wd_1929 wd_93 clf_12,
    st_aload_n hC (n := 13) (k := 0) (dc_X12_lacks 13 (22, .aload_n 0, 1) rfl rfl) rfl rfl,
    st_iload_n hC (n := 14) (k := 1) (dc_X12_lacks 14 (23, .iload_n 1, 1) rfl rfl) rfl rfl,
    st_iload_n hC (n := 15) (k := 2) (dc_X12_lacks 15 (24, .iload_n 2, 1) rfl rfl) rfl rfl,
    st_callV hC (n := 16) (k := 12) (na := 2) (con_X12_heardOf l) (dc_X12_lacks 16 (25, .invokevirtual 298, 3) rfl rfl) rfl wd_2021 wd_160 (by decide) ⟨rfl, rfl, by decide, by decide⟩ hM wd_2018 wd_2020 wd_106 clf_12,
    st_isub hC (n := 17) (dc_X12_lacks 17 (28, .isub, 1) rfl rfl) rfl,
    st_callV hC (n := 18) (k := 12) (na := 1) (con_X12_gives l) (dc_X12_lacks 18 (29, .invokevirtual 91, 3) rfl rfl) rfl wd_1849 wd_160 (by decide) ⟨rfl, rfl, by decide, by decide⟩ hM wd_1846 wd_1848 wd_79 clf_12,
    st_goto hC (n := 19) (dc_X12_lacks 19 (32, .goto 8, 3) rfl rfl) (by decide),
    st_aload_n hC (n := 20) (k := 0) (dc_X12_lacks 20 (35, .aload_n 0, 1) rfl rfl) rfl rfl,
    st_iconst hC (n := 21) (x := 1) (dc_X12_lacks 21 (36, .iconst 1, 1) rfl rfl) rfl (by decide),
    st_callV hC (n := 22) (k := 12) (na := 1) (con_X12_refuse l) (dc_X12_lacks 22 (37, .invokevirtual 87, 3) rfl rfl) rfl wd_1758 wd_160 (by decide) ⟨rfl, rfl, by decide, by decide⟩ hM wd_1755 wd_1757 wd_57 clf_12,
    st_iret hC (n := 23) hR (dc_X12_lacks 23 (40, .ireturn, 1) rfl rfl), trivial⟩
theorem vc_X12_lacks : VC P_X12_lacks 3 Pre_X12_lacks Fn_X12_lacks := by
  rintro mm as hom hoa ⟨⟨ns, nm, nt, hV⟩, x, y, rfl⟩
  refine ⟨Nat.le_of_ble_eq_true rfl, fun X h => ?_⟩
  refine h (fun _ => false) 3000 0 _ _ _ ?_
  refine And.intro ⟨_, _, rfl⟩ ?_
  refine br_c (fun h1 => ?_) (fun h1 => ?_)
  · replace h1 := bI_0.mp h1
    refine And.intro ⟨_, rfl⟩ ?_
    exact (if_neg h1).symm
  replace h1 := bI_n0.mp h1
  obtain ⟨d, hd, rfl⟩ := ma_in hV h1.2
  have hnm : nm ≤ 4 := hV.2.1.2
  refine And.intro rfl ?_
  refine And.intro ⟨d, _, by omega, rfl⟩ ?_
  refine And.intro ⟨⟨ns, nm, nt, hV⟩, _, d, by omega, rfl⟩ ?_
  refine And.intro ⟨_, rfl⟩ ?_
  exact (if_pos h1).symm
theorem con_X12_lacks (l : Launch) : CON l y_X12_lacks prog_14_method_94_code 3 (some .int) rm_X12_lacks Pre_X12_lacks Fn_X12_lacks := CON_of (by decide) rfl rfl (sa_X12_lacks l) vc_X12_lacks
def Pre_X12_toFair : PreT := fun m as => VM m ∧ as = [vR 12 0]
def Fn_X12_toFair : FnT := fun m _ => gvM m (if frP (m.1 54 0) then 0 else m.1 54 0 5 - (m.1 54 0 6 - m.1 54 0 6 / m.1 54 0 5 * m.1 54 0 5))
abbrev y_X12_toFair : MethodName := ⟨"GivenUpModel", "toFair", "()I"⟩
def P_X12_toFair : List StpT := [s_aload 0, s_aload 0, s_callV 12 0 Pre_X12_isFair Fn_X12_isFair, s_ifeq 6, s_ic (0), s_goto 20, s_aload 0, s_getR 12 0 54, s_ic (5), s_iald, s_aload 0, s_getR 12 0 54, s_ic (6), s_iald, s_aload 0, s_getR 12 0 54, s_ic (5), s_iald, s_irem, s_isub, s_callV 12 1 Pre_X12_gives Fn_X12_gives, s_iret]
def pc_X12_toFair : Nat → Nat := fun i => [0, 1, 2, 5, 8, 9, 12, 13, 16, 17, 18, 19, 22, 24, 25, 26, 29, 30, 31, 32, 33, 36].getD i 0
def dl_X12_toFair : List (Nat × Instr × Nat) := [(0, .aload_n 0, 1), (1, .aload_n 0, 1), (2, .invokevirtual 352, 3), (5, .ifCond .eq 7, 3), (8, .iconst 0, 1), (9, .goto 24, 3), (12, .aload_n 0, 1), (13, .getfield 7, 3), (16, .iconst 5, 1), (17, .iaload, 1), (18, .aload_n 0, 1), (19, .getfield 7, 3), (22, .bipush 6, 2), (24, .iaload, 1), (25, .aload_n 0, 1), (26, .getfield 7, 3), (29, .iconst 5, 1), (30, .iaload, 1), (31, .irem, 1), (32, .isub, 1), (33, .invokevirtual 91, 3), (36, .ireturn, 1)]
theorem dc_X12_toFair : DEC prog_14_method_101_code pc_X12_toFair dl_X12_toFair := DEC_of (by decide +kernel)
abbrev rm_X12_toFair : Room := { frames := 1, cells := 0, slots := 0, locals := 21 }
set_option maxRecDepth 20000 in
theorem sa_X12_toFair (l : Launch) : SNDALL l prog_14_method_101_code "GivenUpModel" 1 (some .int) rm_X12_toFair P_X12_toFair pc_X12_toFair := fun p e s m args below meth c cells slots Q D dA ad A RR hC hR => by
  have hM := RTX_room (R := rm_X12_toFair) hR
  exact ⟨st_aload_n hC (n := 0) (k := 0) (dc_X12_toFair 0 (0, .aload_n 0, 1) rfl rfl) rfl rfl,
    st_aload_n hC (n := 1) (k := 0) (dc_X12_toFair 1 (1, .aload_n 0, 1) rfl rfl) rfl rfl,
    st_callV hC (n := 2) (k := 12) (na := 0) (con_X12_isFair l) (dc_X12_toFair 2 (2, .invokevirtual 352, 3) rfl rfl) rfl wd_2062 wd_160 (by decide) ⟨rfl, rfl, by decide, by decide⟩ hM wd_2059 wd_2061 wd_112 clf_12,
    st_ifeq hC (n := 3) (dc_X12_toFair 3 (5, .ifCond .eq 7, 3) rfl rfl) rfl (by decide),
    st_iconst hC (n := 4) (x := 0) (dc_X12_toFair 4 (8, .iconst 0, 1) rfl rfl) rfl (by decide),
    st_goto hC (n := 5) (dc_X12_toFair 5 (9, .goto 24, 3) rfl rfl) (by decide),
    st_aload_n hC (n := 6) (k := 0) (dc_X12_toFair 6 (12, .aload_n 0, 1) rfl rfl) rfl rfl,
    st_getR hC (n := 7) (k := 12) (j := 0) (dc_X12_toFair 7 (13, .getfield 7, 3) rfl rfl) rfl clf_12 (by decide) rfl (by decide) wd_1552,
    st_iconst hC (n := 8) (x := 5) (dc_X12_toFair 8 (16, .iconst 5, 1) rfl rfl) rfl (by decide),
    st_iald hC (n := 9) (dc_X12_toFair 9 (17, .iaload, 1) rfl rfl) rfl,
    st_aload_n hC (n := 10) (k := 0) (dc_X12_toFair 10 (18, .aload_n 0, 1) rfl rfl) rfl rfl,
    st_getR hC (n := 11) (k := 12) (j := 0) (dc_X12_toFair 11 (19, .getfield 7, 3) rfl rfl) rfl clf_12 (by decide) rfl (by decide) wd_1552,
    st_bipush hC (n := 12) (x := 6) (dc_X12_toFair 12 (22, .bipush 6, 2) rfl rfl) rfl (by decide),
    st_iald hC (n := 13) (dc_X12_toFair 13 (24, .iaload, 1) rfl rfl) rfl,
    st_aload_n hC (n := 14) (k := 0) (dc_X12_toFair 14 (25, .aload_n 0, 1) rfl rfl) rfl rfl,
    st_getR hC (n := 15) (k := 12) (j := 0) (dc_X12_toFair 15 (26, .getfield 7, 3) rfl rfl) rfl clf_12 (by decide) rfl (by decide) wd_1552,
    st_iconst hC (n := 16) (x := 5) (dc_X12_toFair 16 (29, .iconst 5, 1) rfl rfl) rfl (by decide),
    st_iald hC (n := 17) (dc_X12_toFair 17 (30, .iaload, 1) rfl rfl) rfl,
    st_irem hC (n := 18) (dc_X12_toFair 18 (31, .irem, 1) rfl rfl) rfl,
    st_isub hC (n := 19) (dc_X12_toFair 19 (32, .isub, 1) rfl rfl) rfl,
    st_callV hC (n := 20) (k := 12) (na := 1) (con_X12_gives l) (dc_X12_toFair 20 (33, .invokevirtual 91, 3) rfl rfl) rfl wd_1849 wd_160 (by decide) ⟨rfl, rfl, by decide, by decide⟩ hM wd_1846 wd_1848 wd_79 clf_12,
    st_iret hC (n := 21) hR (dc_X12_toFair 21 (36, .ireturn, 1) rfl rfl), trivial⟩
theorem vc_X12_toFair : VC P_X12_toFair 1 Pre_X12_toFair Fn_X12_toFair := by
  rintro mm as hom hoa ⟨⟨ns, nm, nt, hV⟩, rfl⟩
  refine ⟨Nat.le_of_ble_eq_true rfl, fun X h => ?_⟩
  refine h (fun _ => false) 3000 0 _ _ _ ?_
  refine And.intro ⟨⟨ns, nm, nt, hV⟩, rfl⟩ ?_
  refine br_c (fun h1 => ?_) (fun h1 => ?_)
  · replace h1 := bI_0.mp h1
    refine And.intro rfl ?_
    refine And.intro rfl ?_
    refine And.intro rfl ?_
    refine And.intro (VA_w0 hV).2 ?_
    refine And.intro ⟨_, rfl⟩ ?_
    exact congrArg (gvM mm) (if_neg h1).symm
  · replace h1 := bI_n0.mp h1
    refine And.intro ⟨_, rfl⟩ ?_
    exact congrArg (gvM mm) (if_pos h1).symm
theorem con_X12_toFair (l : Launch) : CON l y_X12_toFair prog_14_method_101_code 1 (some .int) rm_X12_toFair Pre_X12_toFair Fn_X12_toFair := CON_of (by decide) rfl rfl (sa_X12_toFair l) vc_X12_toFair
def Pre_X12_bare : PreT := fun m as => VM m ∧ ∃ x : Int32, as = [vR 12 0, vI x]
def Fn_X12_bare : FnT := fun m as => match as with
  | [_, Sum.inl x] => if suP (m.1 54 0) x then gvM m (bI (thA (m.1 54 0) x &&& (m.1 54 0 8 ^^^ -1) = 0)) else rfM m 1
  | _ => (none, m)
abbrev y_X12_bare : MethodName := ⟨"GivenUpModel", "bare", "(I)I"⟩
def P_X12_bare : List StpT := [s_aload 0, s_iload 1, s_callV 12 1 Pre_X12_isSuitor Fn_X12_isSuitor, s_ifeq 14, s_aload 0, s_aload 0, s_iload 1, s_callV 12 1 Pre_X12_isBare Fn_X12_isBare, s_ifeq 11, s_ic (1), s_goto 12, s_ic (0), s_callV 12 1 Pre_X12_gives Fn_X12_gives, s_goto 17, s_aload 0, s_ic (1), s_callV 12 1 Pre_X12_refuse Fn_X12_refuse, s_iret]
def pc_X12_bare : Nat → Nat := fun i => [0, 1, 2, 5, 8, 9, 10, 11, 14, 17, 18, 21, 22, 25, 28, 29, 30, 33].getD i 0
def dl_X12_bare : List (Nat × Instr × Nat) := [(0, .aload_n 0, 1), (1, .iload_n 1, 1), (2, .invokevirtual 265, 3), (5, .ifCond .eq 23, 3), (8, .aload_n 0, 1), (9, .aload_n 0, 1), (10, .iload_n 1, 1), (11, .invokevirtual 361, 3), (14, .ifCond .eq 7, 3), (17, .iconst 1, 1), (18, .goto 4, 3), (21, .iconst 0, 1), (22, .invokevirtual 91, 3), (25, .goto 8, 3), (28, .aload_n 0, 1), (29, .iconst 1, 1), (30, .invokevirtual 87, 3), (33, .ireturn, 1)]
theorem dc_X12_bare : DEC prog_14_method_103_code pc_X12_bare dl_X12_bare := DEC_of (by decide +kernel)
abbrev rm_X12_bare : Room := { frames := 4, cells := 0, slots := 0, locals := 85 }
set_option maxRecDepth 20000 in
theorem sa_X12_bare (l : Launch) : SNDALL l prog_14_method_103_code "GivenUpModel" 2 (some .int) rm_X12_bare P_X12_bare pc_X12_bare := fun p e s m args below meth c cells slots Q D dA ad A RR hC hR => by
  have hM := RTX_room (R := rm_X12_bare) hR
  exact ⟨st_aload_n hC (n := 0) (k := 0) (dc_X12_bare 0 (0, .aload_n 0, 1) rfl rfl) rfl rfl,
    st_iload_n hC (n := 1) (k := 1) (dc_X12_bare 1 (1, .iload_n 1, 1) rfl rfl) rfl rfl,
    st_callV hC (n := 2) (k := 12) (na := 1) (con_X12_isSuitor l) (dc_X12_bare 2 (2, .invokevirtual 265, 3) rfl rfl) rfl wd_1885 wd_160 (by decide) ⟨rfl, rfl, by decide, by decide⟩ hM wd_1882 wd_1884 wd_85 clf_12,
    st_ifeq hC (n := 3) (dc_X12_bare 3 (5, .ifCond .eq 23, 3) rfl rfl) rfl (by decide),
    st_aload_n hC (n := 4) (k := 0) (dc_X12_bare 4 (8, .aload_n 0, 1) rfl rfl) rfl rfl,
    st_aload_n hC (n := 5) (k := 0) (dc_X12_bare 5 (9, .aload_n 0, 1) rfl rfl) rfl rfl,
    st_iload_n hC (n := 6) (k := 1) (dc_X12_bare 6 (10, .iload_n 1, 1) rfl rfl) rfl rfl,
    st_callV hC (n := 7) (k := 12) (na := 1) (con_X12_isBare l) (dc_X12_bare 7 (11, .invokevirtual 361, 3) rfl rfl) rfl wd_2078 wd_160 (by decide) ⟨rfl, rfl, by decide, by decide⟩ hM wd_2075 wd_2077 wd_114 clf_12,
    st_ifeq hC (n := 8) (dc_X12_bare 8 (14, .ifCond .eq 7, 3) rfl rfl) rfl (by decide),
    st_iconst hC (n := 9) (x := 1) (dc_X12_bare 9 (17, .iconst 1, 1) rfl rfl) rfl (by decide),
    st_goto hC (n := 10) (dc_X12_bare 10 (18, .goto 4, 3) rfl rfl) (by decide),
    st_iconst hC (n := 11) (x := 0) (dc_X12_bare 11 (21, .iconst 0, 1) rfl rfl) rfl (by decide),
    st_callV hC (n := 12) (k := 12) (na := 1) (con_X12_gives l) (dc_X12_bare 12 (22, .invokevirtual 91, 3) rfl rfl) rfl wd_1849 wd_160 (by decide) ⟨rfl, rfl, by decide, by decide⟩ hM wd_1846 wd_1848 wd_79 clf_12,
    st_goto hC (n := 13) (dc_X12_bare 13 (25, .goto 8, 3) rfl rfl) (by decide),
    st_aload_n hC (n := 14) (k := 0) (dc_X12_bare 14 (28, .aload_n 0, 1) rfl rfl) rfl rfl,
    st_iconst hC (n := 15) (x := 1) (dc_X12_bare 15 (29, .iconst 1, 1) rfl rfl) rfl (by decide),
    st_callV hC (n := 16) (k := 12) (na := 1) (con_X12_refuse l) (dc_X12_bare 16 (30, .invokevirtual 87, 3) rfl rfl) rfl wd_1758 wd_160 (by decide) ⟨rfl, rfl, by decide, by decide⟩ hM wd_1755 wd_1757 wd_57 clf_12,
    st_iret hC (n := 17) hR (dc_X12_bare 17 (33, .ireturn, 1) rfl rfl), trivial⟩
theorem vc_X12_bare : VC P_X12_bare 2 Pre_X12_bare Fn_X12_bare := by
  rintro mm as hom hoa ⟨⟨ns, nm, nt, hV⟩, x, rfl⟩
  refine ⟨Nat.le_of_ble_eq_true rfl, fun X h => ?_⟩
  refine h (fun _ => false) 3000 0 _ _ _ ?_
  refine And.intro ⟨_, rfl⟩ ?_
  refine br_c (fun h1 => ?_) (fun h1 => ?_)
  · replace h1 := bI_0.mp h1
    refine And.intro ⟨_, rfl⟩ ?_
    exact (if_neg h1).symm
  replace h1 := bI_n0.mp h1
  refine And.intro ⟨⟨ns, nm, nt, hV⟩, _, rfl⟩ ?_
  refine br_c (fun h2 => ?_) (fun h2 => ?_)
  · refine And.intro ⟨_, rfl⟩ ?_
    refine Eq.trans ?_ (if_pos h1).symm
    exact gv_bf (m := mm) (p := thA (mm.1 54 0) x &&& (mm.1 54 0 8 ^^^ -1) = 0) (bI_0.mp h2)
  · refine And.intro ⟨_, rfl⟩ ?_
    refine Eq.trans ?_ (if_pos h1).symm
    exact gv_bt (m := mm) (p := thA (mm.1 54 0) x &&& (mm.1 54 0 8 ^^^ -1) = 0) (bI_n0.mp h2)
theorem con_X12_bare (l : Launch) : CON l y_X12_bare prog_14_method_103_code 2 (some .int) rm_X12_bare Pre_X12_bare Fn_X12_bare := CON_of (by decide) rfl rfl (sa_X12_bare l) vc_X12_bare
