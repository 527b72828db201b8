/-! PART 25: the model: likings, bars, giving, wedding, coming back -/

theorem VM_st {m : MM} {ns nm nt : Nat} {x : Int32} (h : VMx m ns nm nt) : VMx (stM m x) ns nm nt := h
def isM (m : MM) (x : Int32) : Option MV × MM := (some (vI (bI (x = 0))), stM m x)

def Pre_X12_like : PreT := fun m as => VM m ∧ ∃ x y z : Int32, as = [vR 12 0, vI x, vI y, vI z]
abbrev i99 (z : Int32) (b : Int64) : Prop := ¬ lg_cmp z.toInt64 0 < 0 ∧ ¬ 0 < lg_cmp z.toInt64 b
def Fn_X12_like : FnT := fun m as => match as with
  | [_, Sum.inl x, Sum.inl y, Sum.inl z] => if (suP (m.1 54 0) x ∧ maP (m.1 54 0) y) ∧ i99 z 99 then (some (vI 1), stM (mI m 54 0 (128 + 4 * x.toNatClampNeg + y.toNatClampNeg) z) 0) else (some (vI 0), stM m 1)
  | _ => (none, m)
abbrev y_X12_like : MethodName := ⟨"GivenUpModel", "like", "(III)Z"⟩
def P_X12_like : List StpT := [s_aload 0, s_iload 1, s_iload 2, s_callV 12 2 Pre_X12_areBoth Fn_X12_areBoth, s_ifeq 11, s_iload 3, s_i2l, s_lc 0, s_lc (99), s_callS 3 Pre_X12_isFrom Fn_X12_isFrom, s_ifne 15, s_aload 0, s_ic (1), s_callV 12 1 Pre_X12_is Fn_X12_is, s_zret, s_aload 0, s_getR 12 0 54, s_ic (128), s_ic (4), s_iload 1, s_imul, s_iadd, s_iload 2, s_iadd, s_iload 3, s_iast, s_aload 0, s_ic (0), s_callV 12 1 Pre_X12_is Fn_X12_is, s_zret]
def pc_X12_like : Nat → Nat := fun i => [0, 1, 2, 3, 6, 9, 10, 11, 12, 15, 18, 21, 22, 23, 26, 27, 28, 31, 34, 35, 36, 37, 38, 39, 40, 41, 42, 43, 44, 47].getD i 0
def dl_X12_like : List (Nat × Instr × Nat) := [(0, .aload_n 0, 1), (1, .iload_n 1, 1), (2, .iload_n 2, 1), (3, .invokevirtual 322, 3), (6, .ifCond .eq 15, 3), (9, .iload_n 3, 1), (10, .i2l, 1), (11, .lconst 0, 1), (12, .ldc2_w 371, 3), (15, .invokestatic 373, 3), (18, .ifCond .ne 9, 3), (21, .aload_n 0, 1), (22, .iconst 1, 1), (23, .invokevirtual 94, 3), (26, .ireturn, 1), (27, .aload_n 0, 1), (28, .getfield 7, 3), (31, .sipush 128, 3), (34, .iconst 4, 1), (35, .iload_n 1, 1), (36, .imul, 1), (37, .iadd, 1), (38, .iload_n 2, 1), (39, .iadd, 1), (40, .iload_n 3, 1), (41, .iastore, 1), (42, .aload_n 0, 1), (43, .iconst 0, 1), (44, .invokevirtual 94, 3), (47, .ireturn, 1)]
theorem dc_X12_like : DEC prog_14_method_109_code pc_X12_like dl_X12_like := DEC_of (by decide +kernel)
abbrev rm_X12_like : Room := { frames := 2, cells := 0, slots := 0, locals := 43 }
set_option maxRecDepth 20000 in
theorem sa_X12_like (l : Launch) : SNDALL l prog_14_method_109_code "GivenUpModel" 4 (some .boolean) rm_X12_like P_X12_like pc_X12_like := fun p e s m args below meth c cells slots Q D dA ad A RR hC hR => by
  have hM := RTX_room (R := rm_X12_like) hR
  exact ⟨st_aload_n hC (n := 0) (k := 0) (dc_X12_like 0 (0, .aload_n 0, 1) rfl rfl) rfl rfl,
    st_iload_n hC (n := 1) (k := 1) (dc_X12_like 1 (1, .iload_n 1, 1) rfl rfl) rfl rfl,
    st_iload_n hC (n := 2) (k := 2) (dc_X12_like 2 (2, .iload_n 2, 1) rfl rfl) rfl rfl,
    st_callV hC (n := 3) (k := 12) (na := 2) (con_X12_areBoth l) (dc_X12_like 3 (3, .invokevirtual 322, 3) rfl rfl) rfl wd_1969 wd_160 (by decide) ⟨rfl, rfl, by decide, by decide⟩ hM wd_1966 wd_1968 wd_99 clf_12,
    st_ifeq hC (n := 4) (dc_X12_like 4 (6, .ifCond .eq 15, 3) rfl rfl) rfl (by decide),
    st_iload_n hC (n := 5) (k := 3) (dc_X12_like 5 (9, .iload_n 3, 1) rfl rfl) rfl rfl,
    st_i2l hC (n := 6) (dc_X12_like 6 (10, .i2l, 1) rfl rfl) rfl,
    st_lconst hC (n := 7) (x := 0) (dc_X12_like 7 (11, .lconst 0, 1) rfl rfl) rfl (by decide),
    st_ldc2 hC (n := 8) (x := 99) (dc_X12_like 8 (12, .ldc2_w 371, 3) rfl rfl) rfl wd_2107,
    st_callS hC (n := 9) (na := 3) (con_X12_isFrom l) (dc_X12_like 9 (15, .invokestatic 373, 3) rfl rfl) rfl wd_2110 wd_160 (by decide) ⟨rfl, rfl, by decide, by decide⟩ hM wd_2108 wd_2109,
    st_ifne hC (n := 10) (dc_X12_like 10 (18, .ifCond .ne 9, 3) rfl rfl) rfl (by decide),
    st_aload_n hC (n := 11) (k := 0) (dc_X12_like 11 (21, .aload_n 0, 1) rfl rfl) rfl rfl,
    st_iconst hC (n := 12) (x := 1) (dc_X12_like 12 (22, .iconst 1, 1) rfl rfl) rfl (by decide),
    st_callV hC (n := 13) (k := 12) (na := 1) (con_X12_is l) (dc_X12_like 13 (23, .invokevirtual 94, 3) rfl rfl) rfl wd_1698 wd_160 (by decide) ⟨rfl, rfl, by decide, by decide⟩ hM wd_1695 wd_1697 wd_51 clf_12,
    st_zret hC (n := 14) hR (dc_X12_like 14 (26, .ireturn, 1) rfl rfl),
    st_aload_n hC (n := 15) (k := 0) (dc_X12_like 15 (27, .aload_n 0, 1) rfl rfl) rfl rfl,
    st_getR hC (n := 16) (k := 12) (j := 0) (dc_X12_like 16 (28, .getfield 7, 3) rfl rfl) rfl clf_12 (by decide) rfl (by decide) wd_1552,
    st_sipush hC (n := 17) (x := 128) (dc_X12_like 17 (31, .sipush 128, 3) rfl rfl) rfl (by decide),
    st_iconst hC (n := 18) (x := 4) (dc_X12_like 18 (34, .iconst 4, 1) rfl rfl) rfl (by decide),
    st_iload_n hC (n := 19) (k := 1) (dc_X12_like 19 (35, .iload_n 1, 1) rfl rfl) rfl rfl,
    st_imul hC (n := 20) (dc_X12_like 20 (36, .imul, 1) rfl rfl) rfl,
    st_iadd hC (n := 21) (dc_X12_like 21 (37, .iadd, 1) rfl rfl) rfl,
    st_iload_n hC (n := 22) (k := 2) (dc_X12_like 22 (38, .iload_n 2, 1) rfl rfl) rfl rfl,
    st_iadd hC (n := 23) (dc_X12_like 23 (39, .iadd, 1) rfl rfl) rfl,
    st_iload_n hC (n := 24) (k := 3) (dc_X12_like 24 (40, .iload_n 3, 1) rfl rfl) rfl rfl,
    st_iast hC (n := 25) (dc_X12_like 25 (41, .iastore, 1) rfl rfl) rfl,
    st_aload_n hC (n := 26) (k := 0) (dc_X12_like 26 (42, .aload_n 0, 1) rfl rfl) rfl rfl,
    st_iconst hC (n := 27) (x := 0) (dc_X12_like 27 (43, .iconst 0, 1) rfl rfl) rfl (by decide),
    st_callV hC (n := 28) (k := 12) (na := 1) (con_X12_is l) (dc_X12_like 28 (44, .invokevirtual 94, 3) rfl rfl) rfl wd_1698 wd_160 (by decide) ⟨rfl, rfl, by decide, by decide⟩ hM wd_1695 wd_1697 wd_51 clf_12,
    st_zret hC (n := 29) hR (dc_X12_like 29 (47, .ireturn, 1) rfl rfl), trivial⟩
theorem vc_X12_like : VC P_X12_like 4 Pre_X12_like Fn_X12_like := by
  rintro mm as hom hoa ⟨⟨ns, nm, nt, hV⟩, x, y, z, rfl⟩
  refine ⟨Nat.le_of_ble_eq_true rfl, fun X h => ?_⟩
  refine h (fun _ => false) 3000 0 _ _ _ ?_
  refine And.intro ⟨_, _, rfl⟩ ?_
  refine br_c (fun h1 => ?_) (fun h1 => ?_)
  · replace h1 := bI_0.mp h1
    refine And.intro ⟨_, rfl⟩ ?_
    refine And.intro (Or.inl rfl) ?_
    exact (if_neg (fun z => h1 z.1)).symm
  replace h1 := bI_n0.mp h1
  obtain ⟨j, hj, rfl⟩ := su_in hV h1.1
  obtain ⟨d, hd, rfl⟩ := ma_in hV h1.2
  have hnm : nm ≤ 4 := hV.2.1.2
  have hns : ns ≤ 4 := hV.1.2
  refine And.intro ⟨_, _, _, rfl⟩ ?_
  refine brn_c (fun h2 => ?_) (fun h2 => ?_)
  · replace h2 := bI_n0.mp h2
    refine And.intro (inb_o 3060 rfl rfl (by simp (disch := omega) only [li, pk_mul, nI_add, nI_clamp]; rfl) (by omega)) ?_
    refine And.intro ⟨_, rfl⟩ ?_
    refine And.intro (Or.inr rfl) ?_
    refine Eq.trans ?_ (if_pos ⟨h1, h2⟩).symm
    have e : (128 + 4 * nI j + nI d).toNatClampNeg = 128 + 4 * (nI j).toNatClampNeg + (nI d).toNatClampNeg := by simp (disch := omega) only [li, pk_mul, nI_add, nI_clamp]
    rw [← e]
    rfl
  · replace h2 := bI_0.mp h2
    refine And.intro ⟨_, rfl⟩ ?_
    refine And.intro (Or.inl rfl) ?_
    exact (if_neg (fun z => h2 z.2)).symm
theorem con_X12_like (l : Launch) : CON l y_X12_like prog_14_method_109_code 4 (some .boolean) rm_X12_like Pre_X12_like Fn_X12_like := CON_of (by decide) rfl rfl (sa_X12_like l) vc_X12_like
def Pre_X12_bar : PreT := fun m as => VM m ∧ ∃ y z : Int32, as = [vR 12 0, vI y, vI z]
def Fn_X12_bar : FnT := fun m as => match as with
  | [_, Sum.inl y, Sum.inl z] => if maP (m.1 54 0) y ∧ i99 z 999 then (some (vI 1), stM (mI m 54 0 (28 + 4 * y.toNatClampNeg) z) 0) else (some (vI 0), stM m 1)
  | _ => (none, m)
abbrev y_X12_bar : MethodName := ⟨"GivenUpModel", "bar", "(II)Z"⟩
def P_X12_bar : List StpT := [s_aload 0, s_iload 1, s_callV 12 1 Pre_X12_isMaid Fn_X12_isMaid, s_ifeq 10, s_iload 2, s_i2l, s_lc 0, s_lc (999), s_callS 3 Pre_X12_isFrom Fn_X12_isFrom, s_ifne 14, s_aload 0, s_ic (1), s_callV 12 1 Pre_X12_is Fn_X12_is, s_zret, s_aload 0, s_getR 12 0 54, s_iload 1, s_callS 1 Pre_X12_maidRow Fn_X12_maidRow, s_iload 2, s_iast, s_aload 0, s_ic (0), s_callV 12 1 Pre_X12_is Fn_X12_is, s_zret]
def pc_X12_bar : Nat → Nat := fun i => [0, 1, 2, 5, 8, 9, 10, 11, 14, 17, 20, 21, 22, 25, 26, 27, 30, 31, 34, 35, 36, 37, 38, 41].getD i 0
def dl_X12_bar : List (Nat × Instr × Nat) := [(0, .aload_n 0, 1), (1, .iload_n 1, 1), (2, .invokevirtual 268, 3), (5, .ifCond .eq 15, 3), (8, .iload_n 2, 1), (9, .i2l, 1), (10, .lconst 0, 1), (11, .ldc2_w 377, 3), (14, .invokestatic 373, 3), (17, .ifCond .ne 9, 3), (20, .aload_n 0, 1), (21, .iconst 1, 1), (22, .invokevirtual 94, 3), (25, .ireturn, 1), (26, .aload_n 0, 1), (27, .getfield 7, 3), (30, .iload_n 1, 1), (31, .invokestatic 286, 3), (34, .iload_n 2, 1), (35, .iastore, 1), (36, .aload_n 0, 1), (37, .iconst 0, 1), (38, .invokevirtual 94, 3), (41, .ireturn, 1)]
theorem dc_X12_bar : DEC prog_14_method_110_code pc_X12_bar dl_X12_bar := DEC_of (by decide +kernel)
abbrev rm_X12_bar : Room := { frames := 1, cells := 0, slots := 0, locals := 25 }
set_option maxRecDepth 20000 in
theorem sa_X12_bar (l : Launch) : SNDALL l prog_14_method_110_code "GivenUpModel" 3 (some .boolean) rm_X12_bar P_X12_bar pc_X12_bar := fun p e s m args below meth c cells slots Q D dA ad A RR hC hR => by
  have hM := RTX_room (R := rm_X12_bar) hR
  exact ⟨st_aload_n hC (n := 0) (k := 0) (dc_X12_bar 0 (0, .aload_n 0, 1) rfl rfl) rfl rfl,
    st_iload_n hC (n := 1) (k := 1) (dc_X12_bar 1 (1, .iload_n 1, 1) rfl rfl) rfl rfl,
    st_callV hC (n := 2) (k := 12) (na := 1) (con_X12_isMaid l) (dc_X12_bar 2 (2, .invokevirtual 268, 3) rfl rfl) rfl wd_1923 wd_160 (by decide) ⟨rfl, rfl, by decide, by decide⟩ hM wd_1920 wd_1922 wd_92 clf_12,
    st_ifeq hC (n := 3) (dc_X12_bar 3 (5, .ifCond .eq 15, 3) rfl rfl) rfl (by decide),
    st_iload_n hC (n := 4) (k := 2) (dc_X12_bar 4 (8, .iload_n 2, 1) rfl rfl) rfl rfl,
    st_i2l hC (n := 5) (dc_X12_bar 5 (9, .i2l, 1) rfl rfl) rfl,
    st_lconst hC (n := 6) (x := 0) (dc_X12_bar 6 (10, .lconst 0, 1) rfl rfl) rfl (by decide),
    st_ldc2 hC (n := 7) (x := 999) (dc_X12_bar 7 (11, .ldc2_w 377, 3) rfl rfl) rfl wd_2115,
    st_callS hC (n := 8) (na := 3) (con_X12_isFrom l) (dc_X12_bar 8 (14, .invokestatic 373, 3) rfl rfl) rfl wd_2110 wd_160 (by decide) ⟨rfl, rfl, by decide, by decide⟩ hM wd_2108 wd_2109,
    st_ifne hC (n := 9) (dc_X12_bar 9 (17, .ifCond .ne 9, 3) rfl rfl) rfl (by decide),
    st_aload_n hC (n := 10) (k := 0) (dc_X12_bar 10 (20, .aload_n 0, 1) rfl rfl) rfl rfl,
    st_iconst hC (n := 11) (x := 1) (dc_X12_bar 11 (21, .iconst 1, 1) rfl rfl) rfl (by decide),
    st_callV hC (n := 12) (k := 12) (na := 1) (con_X12_is l) (dc_X12_bar 12 (22, .invokevirtual 94, 3) rfl rfl) rfl wd_1698 wd_160 (by decide) ⟨rfl, rfl, by decide, by decide⟩ hM wd_1695 wd_1697 wd_51 clf_12,
    st_zret hC (n := 13) hR (dc_X12_bar 13 (25, .ireturn, 1) rfl rfl),
    st_aload_n hC (n := 14) (k := 0) (dc_X12_bar 14 (26, .aload_n 0, 1) rfl rfl) rfl rfl,
    st_getR hC (n := 15) (k := 12) (j := 0) (dc_X12_bar 15 (27, .getfield 7, 3) rfl rfl) rfl clf_12 (by decide) rfl (by decide) wd_1552,
    st_iload_n hC (n := 16) (k := 1) (dc_X12_bar 16 (30, .iload_n 1, 1) rfl rfl) rfl rfl,
    st_callS hC (n := 17) (na := 1) (con_X12_maidRow l) (dc_X12_bar 17 (31, .invokestatic 286, 3) rfl rfl) rfl wd_1926 wd_160 (by decide) ⟨rfl, rfl, by decide, by decide⟩ hM wd_1924 wd_1925,
    st_iload_n hC (n := 18) (k := 2) (dc_X12_bar 18 (34, .iload_n 2, 1) rfl rfl) rfl rfl,
    st_iast hC (n := 19) (dc_X12_bar 19 (35, .iastore, 1) rfl rfl) rfl,
    st_aload_n hC (n := 20) (k := 0) (dc_X12_bar 20 (36, .aload_n 0, 1) rfl rfl) rfl rfl,
    st_iconst hC (n := 21) (x := 0) (dc_X12_bar 21 (37, .iconst 0, 1) rfl rfl) rfl (by decide),
    st_callV hC (n := 22) (k := 12) (na := 1) (con_X12_is l) (dc_X12_bar 22 (38, .invokevirtual 94, 3) rfl rfl) rfl wd_1698 wd_160 (by decide) ⟨rfl, rfl, by decide, by decide⟩ hM wd_1695 wd_1697 wd_51 clf_12,
    st_zret hC (n := 23) hR (dc_X12_bar 23 (41, .ireturn, 1) rfl rfl), trivial⟩
theorem vc_X12_bar : VC P_X12_bar 3 Pre_X12_bar Fn_X12_bar := by
  rintro mm as hom hoa ⟨⟨ns, nm, nt, hV⟩, y, z, rfl⟩
  refine ⟨Nat.le_of_ble_eq_true rfl, fun X h => ?_⟩
  refine h (fun _ => false) 3000 0 _ _ _ ?_
  refine And.intro ⟨_, rfl⟩ ?_
  refine br_c (fun h1 => ?_) (fun h1 => ?_)
  · replace h1 := bI_0.mp h1
    refine And.intro ⟨_, rfl⟩ ?_
    refine And.intro (Or.inl rfl) ?_
    exact (if_neg (fun z => h1 z.1)).symm
  replace h1 := bI_n0.mp h1
  obtain ⟨d, hd, rfl⟩ := ma_in hV h1
  have hnm : nm ≤ 4 := hV.2.1.2
  refine And.intro ⟨_, _, _, rfl⟩ ?_
  refine brn_c (fun h2 => ?_) (fun h2 => ?_)
  · replace h2 := bI_n0.mp h2
    refine And.intro ⟨_, rfl⟩ ?_
    refine And.intro (inb_o 3060 rfl rfl (by simp (disch := omega) only [li, pk_mul, nI_add, nI_clamp]; rfl) (by omega)) ?_
    refine And.intro ⟨_, rfl⟩ ?_
    refine And.intro (Or.inr rfl) ?_
    refine Eq.trans ?_ (if_pos ⟨h1, h2⟩).symm
    have e : (28 + 4 * nI d).toNatClampNeg = 28 + 4 * (nI d).toNatClampNeg := by simp (disch := omega) only [li, pk_mul, nI_add, nI_clamp]
    rw [← e]
    rfl
  · replace h2 := bI_0.mp h2
    refine And.intro ⟨_, rfl⟩ ?_
    refine And.intro (Or.inl rfl) ?_
    exact (if_neg (fun z => h2 z.2)).symm
theorem con_X12_bar (l : Launch) : CON l y_X12_bar prog_14_method_110_code 3 (some .boolean) rm_X12_bar Pre_X12_bar Fn_X12_bar := CON_of (by decide) rfl rfl (sa_X12_bar l) vc_X12_bar
theorem VA_of {a b : Nat → Int32} {ns nm nt : Nat} (h : VA a ns nm nt) (e : ∀ i, i < 6 ∨ (∃ j, j < 12 ∧ i = 44 + 3 * j) → b i = a i) : VA b ns nm nt := by
  obtain ⟨h1, h2, h3, h4, h5, h6⟩ := h
  refine ⟨?_, ?_, ?_, ?_, ?_, ?_⟩
  · rw [e 0 (Or.inl (by omega))]; exact h1
  · rw [e 1 (Or.inl (by omega))]; exact h2
  · rw [e 2 (Or.inl (by omega))]; exact h3
  · intro j hj
    rw [e _ (Or.inr ⟨j, by omega, rfl⟩)]
    exact h4 j hj
  · rw [e 4 (Or.inl (by omega))]; exact h5
  · rw [e 5 (Or.inl (by omega))]; exact h6
theorem putA_at (m : MM) (how j : Nat) : (putA m how j).1 54 0 = upd (upd (m.1 54 0) how (m.1 54 0 how ||| 1 <<< (nI j &&& 31))) (14 + 4 * owA (m.1 54 0) j) (m.1 54 0 (14 + 4 * owA (m.1 54 0) j) + 1) := rfl
theorem VM_put {m : MM} {ns nm nt how j : Nat} (h : VMx m ns nm nt) (hh : how = 8 ∨ how = 9) (hj : j < nt) : VMx (putA m how j) ns nm nt := by
  have h4 : ns ≤ 4 := h.1.2
  obtain ⟨ho, -⟩ := owA_at h hj
  refine VA_of h (fun i hi => ?_)
  rw [putA_at]
  rw [upd_ne (by omega), upd_ne (by omega)]
theorem put_ow {m : MM} {ns nm nt how j k : Nat} (h : VMx m ns nm nt) (hh : how = 8 ∨ how = 9) (hj : j < nt) : (putA m how j).1 54 0 (44 + 3 * k) = m.1 54 0 (44 + 3 * k) := by
  obtain ⟨ho, -⟩ := owA_at h hj
  have h4 : ns ≤ 4 := h.1.2
  rw [putA_at]
  rw [upd_ne (by omega), upd_ne (by omega)]

def Pre_X12_give : PreT := fun m as => VM m ∧ ∃ x : Int32, as = [vR 12 0, vI x]
def gvR (m : MM) (j : Nat) : Option MV × MM := if mgA (m.1 54 0) j then gvM (putA m 8 j) (lsA' ((putA m 8 j).1 54 0) (m.1 54 0 (44 + 3 * j))) else rfM m 7
def Fn_X12_give : FnT := fun m as => match as with
  | [_, Sum.inl x] => if tgP (m.1 54 0) x then gvR m x.toNatClampNeg else rfM m 1
  | _ => (none, m)
abbrev y_X12_give : MethodName := ⟨"GivenUpModel", "give", "(I)I"⟩
def P_X12_give : List StpT := [s_aload 0, s_iload 1, s_callV 12 1 Pre_X12_isThing Fn_X12_isThing, s_ifne 8, s_aload 0, s_ic (1), s_callV 12 1 Pre_X12_refuse Fn_X12_refuse, s_goto 24, s_aload 0, s_iload 1, s_ic (8), s_callV 12 2 Pre_X12_parts Fn_X12_parts, s_ifeq 21, s_aload 0, s_aload 0, s_aload 0, s_iload 1, s_callV 12 1 Pre_X12_ownerOf Fn_X12_ownerOf, s_callV 12 1 Pre_X12_lossOf Fn_X12_lossOf, s_callV 12 1 Pre_X12_gives Fn_X12_gives, s_goto 24, s_aload 0, s_ic (7), s_callV 12 1 Pre_X12_refuse Fn_X12_refuse, s_iret]
def pc_X12_give : Nat → Nat := fun i => [0, 1, 2, 5, 8, 9, 10, 13, 16, 17, 18, 20, 23, 26, 27, 28, 29, 30, 33, 36, 39, 42, 43, 45, 48].getD i 0
def dl_X12_give : List (Nat × Instr × Nat) := [(0, .aload_n 0, 1), (1, .iload_n 1, 1), (2, .invokevirtual 313, 3), (5, .ifCond .ne 11, 3), (8, .aload_n 0, 1), (9, .iconst 1, 1), (10, .invokevirtual 87, 3), (13, .goto 35, 3), (16, .aload_n 0, 1), (17, .iload_n 1, 1), (18, .bipush 8, 2), (20, .invokevirtual 328, 3), (23, .ifCond .eq 19, 3), (26, .aload_n 0, 1), (27, .aload_n 0, 1), (28, .aload_n 0, 1), (29, .iload_n 1, 1), (30, .invokevirtual 274, 3), (33, .invokevirtual 307, 3), (36, .invokevirtual 91, 3), (39, .goto 9, 3), (42, .aload_n 0, 1), (43, .bipush 7, 2), (45, .invokevirtual 87, 3), (48, .ireturn, 1)]
theorem dc_X12_give : DEC prog_14_method_84_code pc_X12_give dl_X12_give := DEC_of (by decide +kernel)
abbrev rm_X12_give : Room := { frames := 4, cells := 0, slots := 0, locals := 85 }
set_option maxRecDepth 20000 in
theorem sa_X12_give (l : Launch) : SNDALL l prog_14_method_84_code "GivenUpModel" 2 (some .int) rm_X12_give P_X12_give pc_X12_give := fun p e s m args below meth c cells slots Q D dA ad A RR hC hR => by
  have hM := RTX_room (R := rm_X12_give) hR
  exact ⟨st_aload_n hC (n := 0) (k := 0) (dc_X12_give 0 (0, .aload_n 0, 1) rfl rfl) rfl rfl,
    st_iload_n hC (n := 1) (k := 1) (dc_X12_give 1 (1, .iload_n 1, 1) rfl rfl) rfl rfl,
    st_callV hC (n := 2) (k := 12) (na := 1) (con_X12_isThing l) (dc_X12_give 2 (2, .invokevirtual 313, 3) rfl rfl) rfl wd_1938 wd_160 (by decide) ⟨rfl, rfl, by decide, by decide⟩ hM wd_1935 wd_1937 wd_94 clf_12,
    st_ifne hC (n := 3) (dc_X12_give 3 (5, .ifCond .ne 11, 3) rfl rfl) rfl (by decide),
    st_aload_n hC (n := 4) (k := 0) (dc_X12_give 4 (8, .aload_n 0, 1) rfl rfl) rfl rfl,
    st_iconst hC (n := 5) (x := 1) (dc_X12_give 5 (9, .iconst 1, 1) rfl rfl) rfl (by decide),
    st_callV hC (n := 6) (k := 12) (na := 1) (con_X12_refuse l) (dc_X12_give 6 (10, .invokevirtual 87, 3) rfl rfl) rfl wd_1758 wd_160 (by decide) ⟨rfl, rfl, by decide, by decide⟩ hM wd_1755 wd_1757 wd_57 clf_12,
    st_goto hC (n := 7) (dc_X12_give 7 (13, .goto 35, 3) rfl rfl) (by decide),
    st_aload_n hC (n := 8) (k := 0) (dc_X12_give 8 (16, .aload_n 0, 1) rfl rfl) rfl rfl,
    st_iload_n hC (n := 9) (k := 1) (dc_X12_give 9 (17, .iload_n 1, 1) rfl rfl) rfl rfl,
    st_bipush hC (n := 10) (x := 8) (dc_X12_give 10 (18, .bipush 8, 2) rfl rfl) rfl (by decide),
    st_callV hC (n := 11) (k := 12) (na := 2) (con_X12_parts l) (dc_X12_give 11 (20, .invokevirtual 328, 3) rfl rfl) rfl wd_1977 wd_160 (by decide) ⟨rfl, rfl, by decide, by decide⟩ hM wd_1974 wd_1976 wd_100 clf_12,
    st_ifeq hC (n := 12) (dc_X12_give 12 (23, .ifCond .eq 19, 3) rfl rfl) rfl (by decide),
    st_aload_n hC (n := 13) (k := 0) (dc_X12_give 13 (26, .aload_n 0, 1) rfl rfl) rfl rfl,
    st_aload_n hC (n := 14) (k := 0) (dc_X12_give 14 (27, .aload_n 0, 1) rfl rfl) rfl rfl,
    st_aload_n hC (n := 15) (k := 0) (dc_X12_give 15 (28, .aload_n 0, 1) rfl rfl) rfl rfl,
    st_iload_n hC (n := 16) (k := 1) (dc_X12_give 16 (29, .iload_n 1, 1) rfl rfl) rfl rfl,
    st_callV hC (n := 17) (k := 12) (na := 1) (con_X12_ownerOf l) (dc_X12_give 17 (30, .invokevirtual 274, 3) rfl rfl) rfl wd_1896 wd_160 (by decide) ⟨rfl, rfl, by decide, by decide⟩ hM wd_1893 wd_1895 wd_87 clf_12,
    st_callV hC (n := 18) (k := 12) (na := 1) (con_X12_lossOf l) (dc_X12_give 18 (33, .invokevirtual 307, 3) rfl rfl) rfl wd_1911 wd_160 (by decide) ⟨rfl, rfl, by decide, by decide⟩ hM wd_1908 wd_1910 wd_90 clf_12,
    st_callV hC (n := 19) (k := 12) (na := 1) (con_X12_gives l) (dc_X12_give 19 (36, .invokevirtual 91, 3) rfl rfl) rfl wd_1849 wd_160 (by decide) ⟨rfl, rfl, by decide, by decide⟩ hM wd_1846 wd_1848 wd_79 clf_12,
    st_goto hC (n := 20) (dc_X12_give 20 (39, .goto 9, 3) rfl rfl) (by decide),
    st_aload_n hC (n := 21) (k := 0) (dc_X12_give 21 (42, .aload_n 0, 1) rfl rfl) rfl rfl,
    st_bipush hC (n := 22) (x := 7) (dc_X12_give 22 (43, .bipush 7, 2) rfl rfl) rfl (by decide),
    st_callV hC (n := 23) (k := 12) (na := 1) (con_X12_refuse l) (dc_X12_give 23 (45, .invokevirtual 87, 3) rfl rfl) rfl wd_1758 wd_160 (by decide) ⟨rfl, rfl, by decide, by decide⟩ hM wd_1755 wd_1757 wd_57 clf_12,
    st_iret hC (n := 24) hR (dc_X12_give 24 (48, .ireturn, 1) rfl rfl), trivial⟩
theorem vc_X12_give : VC P_X12_give 2 Pre_X12_give Fn_X12_give := by
  rintro mm as hom hoa ⟨⟨ns, nm, nt, hV⟩, x, rfl⟩
  refine ⟨Nat.le_of_ble_eq_true rfl, fun X h => ?_⟩
  refine h (fun i => Nat.beq i 8) 3000 0 _ _ _ ?_
  refine And.intro ⟨_, rfl⟩ ?_
  refine brn_c (fun h1 => ?_) (fun h1 => ?_)
  · replace h1 := bI_n0.mp h1
    obtain ⟨j, hj, rfl⟩ := tg_in hV h1
    have hnt : nt ≤ 12 := hV.2.2.1.2
    have ej : (nI j).toNatClampNeg = j := nI_clamp (by omega)
    have eF : Fn_X12_give mm [vR 12 0, vI (nI j)] = gvR mm j := by
      show (if tgP (mm.1 54 0) (nI j) then gvR mm (nI j).toNatClampNeg else rfM mm 1) = _
      rw [if_pos h1, ej]
    rw [eF] at h
    show X 8 [some (vR 12 0), some (vI (nI j))] [] mm
    refine h (fun i => Nat.beq i 13) 3000 8 _ _ _ ?_
    refine And.intro ⟨ns, nm, nt, j, 8, hV, hj, Or.inl rfl, rfl⟩ ?_
    refine br_c (fun h2 => ?_) (fun h2 => ?_)
    · replace h2 := bI_0.mp h2
      rw [ej] at h2
      refine And.intro ⟨_, rfl⟩ ?_
      refine Eq.trans ?_ (if_neg h2).symm
      show (some (vI (-1)), stM (mite (mgA (mm.1 54 0) (nI j).toNatClampNeg) (putA mm 8 (nI j).toNatClampNeg) mm) 7) = _
      rw [ej, mite_f h2]
      rfl
    · replace h2 := bI_n0.mp h2
      rw [ej] at h2
      show X 13 [some (vR 12 0), some (vI (nI j))] [] (mite (mgA (mm.1 54 0) (nI j).toNatClampNeg) (putA mm 8 (nI j).toNatClampNeg) mm)
      rw [ej, mite_t h2]
      refine h (fun _ => false) 3000 13 _ _ _ ?_
      refine And.intro ⟨j, by omega, rfl⟩ ?_
      refine And.intro ⟨⟨ns, nm, nt, VM_put hV (Or.inl rfl) hj⟩, _, rfl⟩ ?_
      refine And.intro ⟨_, rfl⟩ ?_
      refine Eq.trans ?_ (if_pos h2).symm
      rw [← put_ow (k := j) hV (Or.inl rfl) hj]
      have e : (putA mm 8 j).1 54 0 (44 + 3 * (nI j).toNatClampNeg) = (putA mm 8 j).1 54 0 (44 + 3 * j) := by rw [ej]
      rw [← e]
      rfl
  · replace h1 := bI_0.mp h1
    refine And.intro ⟨_, rfl⟩ ?_
    exact (if_neg h1).symm
theorem con_X12_give (l : Launch) : CON l y_X12_give prog_14_method_84_code 2 (some .int) rm_X12_give Pre_X12_give Fn_X12_give := CON_of (by decide) rfl rfl (sa_X12_give l) vc_X12_give
def Pre_X12_feign : PreT := fun m as => VM m ∧ (∀ s : Int32, ∀ j : Nat, ∃ n, n < 4096 ∧ thA ((putA m 9 j).1 54 0) s &&& (putA m 9 j).1 54 0 9 = nI n) ∧ ∃ x : Int32, as = [vR 12 0, vI x]
def fgR (m : MM) (j : Nat) : Option MV × MM := if mgA (m.1 54 0) j then gvM (putA m 9 j) (nI (pcN (thA ((putA m 9 j).1 54 0) (m.1 54 0 (44 + 3 * j)) &&& (putA m 9 j).1 54 0 9).toNatClampNeg)) else rfM m 7
def Fn_X12_feign : FnT := fun m as => match as with
  | [_, Sum.inl x] => if tgP (m.1 54 0) x then fgR m x.toNatClampNeg else rfM m 1
  | _ => (none, m)
abbrev y_X12_feign : MethodName := ⟨"GivenUpModel", "feign", "(I)I"⟩
def P_X12_feign : List StpT := [s_aload 0, s_iload 1, s_callV 12 1 Pre_X12_isThing Fn_X12_isThing, s_ifne 8, s_aload 0, s_ic (1), s_callV 12 1 Pre_X12_refuse Fn_X12_refuse, s_goto 24, s_aload 0, s_iload 1, s_ic (9), s_callV 12 2 Pre_X12_parts Fn_X12_parts, s_ifeq 21, s_aload 0, s_aload 0, s_aload 0, s_iload 1, s_callV 12 1 Pre_X12_ownerOf Fn_X12_ownerOf, s_callV 12 1 Pre_X12_feignedBy Fn_X12_feignedBy, s_callV 12 1 Pre_X12_gives Fn_X12_gives, s_goto 24, s_aload 0, s_ic (7), s_callV 12 1 Pre_X12_refuse Fn_X12_refuse, s_iret]
def pc_X12_feign : Nat → Nat := fun i => [0, 1, 2, 5, 8, 9, 10, 13, 16, 17, 18, 20, 23, 26, 27, 28, 29, 30, 33, 36, 39, 42, 43, 45, 48].getD i 0
def dl_X12_feign : List (Nat × Instr × Nat) := [(0, .aload_n 0, 1), (1, .iload_n 1, 1), (2, .invokevirtual 313, 3), (5, .ifCond .ne 11, 3), (8, .aload_n 0, 1), (9, .iconst 1, 1), (10, .invokevirtual 87, 3), (13, .goto 35, 3), (16, .aload_n 0, 1), (17, .iload_n 1, 1), (18, .bipush 9, 2), (20, .invokevirtual 328, 3), (23, .ifCond .eq 19, 3), (26, .aload_n 0, 1), (27, .aload_n 0, 1), (28, .aload_n 0, 1), (29, .iload_n 1, 1), (30, .invokevirtual 274, 3), (33, .invokevirtual 334, 3), (36, .invokevirtual 91, 3), (39, .goto 9, 3), (42, .aload_n 0, 1), (43, .bipush 7, 2), (45, .invokevirtual 87, 3), (48, .ireturn, 1)]
theorem dc_X12_feign : DEC prog_14_method_86_code pc_X12_feign dl_X12_feign := DEC_of (by decide +kernel)
abbrev rm_X12_feign : Room := { frames := 4, cells := 0, slots := 0, locals := 85 }
set_option maxRecDepth 20000 in
theorem sa_X12_feign (l : Launch) : SNDALL l prog_14_method_86_code "GivenUpModel" 2 (some .int) rm_X12_feign P_X12_feign pc_X12_feign := fun p e s m args below meth c cells slots Q D dA ad A RR hC hR => by
  have hM := RTX_room (R := rm_X12_feign) hR
  exact ⟨st_aload_n hC (n := 0) (k := 0) (dc_X12_feign 0 (0, .aload_n 0, 1) rfl rfl) rfl rfl,
    st_iload_n hC (n := 1) (k := 1) (dc_X12_feign 1 (1, .iload_n 1, 1) rfl rfl) rfl rfl,
    st_callV hC (n := 2) (k := 12) (na := 1) (con_X12_isThing l) (dc_X12_feign 2 (2, .invokevirtual 313, 3) rfl rfl) rfl wd_1938 wd_160 (by decide) ⟨rfl, rfl, by decide, by decide⟩ hM wd_1935 wd_1937 wd_94 clf_12,
    st_ifne hC (n := 3) (dc_X12_feign 3 (5, .ifCond .ne 11, 3) rfl rfl) rfl (by decide),
    st_aload_n hC (n := 4) (k := 0) (dc_X12_feign 4 (8, .aload_n 0, 1) rfl rfl) rfl rfl,
    st_iconst hC (n := 5) (x := 1) (dc_X12_feign 5 (9, .iconst 1, 1) rfl rfl) rfl (by decide),
    st_callV hC (n := 6) (k := 12) (na := 1) (con_X12_refuse l) (dc_X12_feign 6 (10, .invokevirtual 87, 3) rfl rfl) rfl wd_1758 wd_160 (by decide) ⟨rfl, rfl, by decide, by decide⟩ hM wd_1755 wd_1757 wd_57 clf_12,
    st_goto hC (n := 7) (dc_X12_feign 7 (13, .goto 35, 3) rfl rfl) (by decide),
    st_aload_n hC (n := 8) (k := 0) (dc_X12_feign 8 (16, .aload_n 0, 1) rfl rfl) rfl rfl,
    st_iload_n hC (n := 9) (k := 1) (dc_X12_feign 9 (17, .iload_n 1, 1) rfl rfl) rfl rfl,
    st_bipush hC (n := 10) (x := 9) (dc_X12_feign 10 (18, .bipush 9, 2) rfl rfl) rfl (by decide),
    st_callV hC (n := 11) (k := 12) (na := 2) (con_X12_parts l) (dc_X12_feign 11 (20, .invokevirtual 328, 3) rfl rfl) rfl wd_1977 wd_160 (by decide) ⟨rfl, rfl, by decide, by decide⟩ hM wd_1974 wd_1976 wd_100 clf_12,
    st_ifeq hC (n := 12) (dc_X12_feign 12 (23, .ifCond .eq 19, 3) rfl rfl) rfl (by decide),
    st_aload_n hC (n := 13) (k := 0) (dc_X12_feign 13 (26, .aload_n 0, 1) rfl rfl) rfl rfl,
    st_aload_n hC (n := 14) (k := 0) (dc_X12_feign 14 (27, .aload_n 0, 1) rfl rfl) rfl rfl,
    st_aload_n hC (n := 15) (k := 0) (dc_X12_feign 15 (28, .aload_n 0, 1) rfl rfl) rfl rfl,
    st_iload_n hC (n := 16) (k := 1) (dc_X12_feign 16 (29, .iload_n 1, 1) rfl rfl) rfl rfl,
    st_callV hC (n := 17) (k := 12) (na := 1) (con_X12_ownerOf l) (dc_X12_feign 17 (30, .invokevirtual 274, 3) rfl rfl) rfl wd_1896 wd_160 (by decide) ⟨rfl, rfl, by decide, by decide⟩ hM wd_1893 wd_1895 wd_87 clf_12,
    st_callV hC (n := 18) (k := 12) (na := 1) (con_X12_feignedBy l) (dc_X12_feign 18 (33, .invokevirtual 334, 3) rfl rfl) rfl wd_1993 wd_160 (by decide) ⟨rfl, rfl, by decide, by decide⟩ hM wd_1990 wd_1992 wd_103 clf_12,
    st_callV hC (n := 19) (k := 12) (na := 1) (con_X12_gives l) (dc_X12_feign 19 (36, .invokevirtual 91, 3) rfl rfl) rfl wd_1849 wd_160 (by decide) ⟨rfl, rfl, by decide, by decide⟩ hM wd_1846 wd_1848 wd_79 clf_12,
    st_goto hC (n := 20) (dc_X12_feign 20 (39, .goto 9, 3) rfl rfl) (by decide),
    st_aload_n hC (n := 21) (k := 0) (dc_X12_feign 21 (42, .aload_n 0, 1) rfl rfl) rfl rfl,
    st_bipush hC (n := 22) (x := 7) (dc_X12_feign 22 (43, .bipush 7, 2) rfl rfl) rfl (by decide),
    st_callV hC (n := 23) (k := 12) (na := 1) (con_X12_refuse l) (dc_X12_feign 23 (45, .invokevirtual 87, 3) rfl rfl) rfl wd_1758 wd_160 (by decide) ⟨rfl, rfl, by decide, by decide⟩ hM wd_1755 wd_1757 wd_57 clf_12,
    st_iret hC (n := 24) hR (dc_X12_feign 24 (48, .ireturn, 1) rfl rfl), trivial⟩
theorem vc_X12_feign : VC P_X12_feign 2 Pre_X12_feign Fn_X12_feign := by
  rintro mm as hom hoa ⟨⟨ns, nm, nt, hV⟩, hB, x, rfl⟩
  refine ⟨Nat.le_of_ble_eq_true rfl, fun X h => ?_⟩
  refine h (fun i => Nat.beq i 8) 3000 0 _ _ _ ?_
  refine And.intro ⟨_, rfl⟩ ?_
  refine brn_c (fun h1 => ?_) (fun h1 => ?_)
  · replace h1 := bI_n0.mp h1
    obtain ⟨j, hj, rfl⟩ := tg_in hV h1
    have hnt : nt ≤ 12 := hV.2.2.1.2
    have ej : (nI j).toNatClampNeg = j := nI_clamp (by omega)
    have eF : Fn_X12_feign mm [vR 12 0, vI (nI j)] = fgR mm j := by
      show (if tgP (mm.1 54 0) (nI j) then fgR mm (nI j).toNatClampNeg else rfM mm 1) = _
      rw [if_pos h1, ej]
    rw [eF] at h
    show X 8 [some (vR 12 0), some (vI (nI j))] [] mm
    refine h (fun i => Nat.beq i 13) 3000 8 _ _ _ ?_
    refine And.intro ⟨ns, nm, nt, j, 9, hV, hj, Or.inr rfl, rfl⟩ ?_
    refine br_c (fun h2 => ?_) (fun h2 => ?_)
    · replace h2 := bI_0.mp h2
      rw [ej] at h2
      refine And.intro ⟨_, rfl⟩ ?_
      refine Eq.trans ?_ (if_neg h2).symm
      show (some (vI (-1)), stM (mite (mgA (mm.1 54 0) (nI j).toNatClampNeg) (putA mm 9 (nI j).toNatClampNeg) mm) 7) = _
      rw [ej, mite_f h2]
      rfl
    · replace h2 := bI_n0.mp h2
      rw [ej] at h2
      show X 13 [some (vR 12 0), some (vI (nI j))] [] (mite (mgA (mm.1 54 0) (nI j).toNatClampNeg) (putA mm 9 (nI j).toNatClampNeg) mm)
      rw [ej, mite_t h2]
      refine h (fun i => Nat.beq i 18) 3000 13 _ _ _ ?_
      refine And.intro ⟨j, by omega, rfl⟩ ?_
      show X 18 [some (vR 12 0), some (vI (nI j))] [vI ((putA mm 9 j).1 54 0 (44 + 3 * (nI j).toNatClampNeg)), vR 12 0, vR 12 0] (putA mm 9 j)
      rw [ej, put_ow (k := j) hV (Or.inr rfl) hj]
      refine h (fun _ => false) 3000 18 _ _ _ ?_
      obtain ⟨n, hn, en⟩ := hB (mm.1 54 0 (44 + 3 * j)) j
      refine And.intro ⟨⟨ns, nm, nt, VM_put hV (Or.inr rfl) hj⟩, _, n, hn, en, rfl⟩ ?_
      refine And.intro ⟨_, rfl⟩ ?_
      exact (if_pos h2).symm
  · replace h1 := bI_0.mp h1
    refine And.intro ⟨_, rfl⟩ ?_
    exact (if_neg h1).symm
theorem con_X12_feign (l : Launch) : CON l y_X12_feign prog_14_method_86_code 2 (some .int) rm_X12_feign Pre_X12_feign Fn_X12_feign := CON_of (by decide) rfl rfl (sa_X12_feign l) vc_X12_feign
def fuM (m : MM) (j : Nat) : MM := mI m 54 0 9 (m.1 54 0 9 ^^^ 1 <<< (nI j &&& 31))

def Pre_X12_found : PreT := fun m as => VM m ∧ (∀ s : Int32, ∀ j : Nat, j < 12 → ∃ n, n < 4096 ∧ thA ((fuM m j).1 54 0) s &&& (fuM m j).1 54 0 9 = nI n) ∧ ∃ x : Int32, as = [vR 12 0, vI x]
def fuR (m : MM) (j : Nat) : Option MV × MM := if inS (m.1 54 0 9) (nI j) then gvM (fuM m j) (nI (pcN (thA ((fuM m j).1 54 0) (m.1 54 0 (44 + 3 * j)) &&& (fuM m j).1 54 0 9).toNatClampNeg)) else rfM m 7
def Fn_X12_found : FnT := fun m as => match as with
  | [_, Sum.inl x] => if tgP (m.1 54 0) x then fuR m x.toNatClampNeg else rfM m 1
  | _ => (none, m)
abbrev y_X12_found : MethodName := ⟨"GivenUpModel", "found", "(I)I"⟩
def P_X12_found : List StpT := [s_aload 0, s_iload 1, s_callV 12 1 Pre_X12_isThing Fn_X12_isThing, s_ifne 8, s_aload 0, s_ic (1), s_callV 12 1 Pre_X12_refuse Fn_X12_refuse, s_iret, s_aload 0, s_aload 0, s_getR 12 0 54, s_ic (9), s_iald, s_iload 1, s_callV 12 2 Pre_X12_isIn Fn_X12_isIn, s_ifne 20, s_aload 0, s_ic (7), s_callV 12 1 Pre_X12_refuse Fn_X12_refuse, s_iret, s_aload 0, s_getR 12 0 54, s_ic (9), s_dup2, s_iald, s_ic (1), s_iload 1, s_ishl, s_ixor, s_iast, s_aload 0, s_aload 0, s_aload 0, s_iload 1, s_callV 12 1 Pre_X12_ownerOf Fn_X12_ownerOf, s_callV 12 1 Pre_X12_feignedBy Fn_X12_feignedBy, s_callV 12 1 Pre_X12_gives Fn_X12_gives, s_iret]
def pc_X12_found : Nat → Nat := fun i => [0, 1, 2, 5, 8, 9, 10, 13, 14, 15, 16, 19, 21, 22, 23, 26, 29, 30, 32, 35, 36, 37, 40, 42, 43, 44, 45, 46, 47, 48, 49, 50, 51, 52, 53, 56, 59, 62].getD i 0
def dl_X12_found : List (Nat × Instr × Nat) := [(0, .aload_n 0, 1), (1, .iload_n 1, 1), (2, .invokevirtual 313, 3), (5, .ifCond .ne 9, 3), (8, .aload_n 0, 1), (9, .iconst 1, 1), (10, .invokevirtual 87, 3), (13, .ireturn, 1), (14, .aload_n 0, 1), (15, .aload_n 0, 1), (16, .getfield 7, 3), (19, .bipush 9, 2), (21, .iaload, 1), (22, .iload_n 1, 1), (23, .invokevirtual 277, 3), (26, .ifCond .ne 10, 3), (29, .aload_n 0, 1), (30, .bipush 7, 2), (32, .invokevirtual 87, 3), (35, .ireturn, 1), (36, .aload_n 0, 1), (37, .getfield 7, 3), (40, .bipush 9, 2), (42, .dup2, 1), (43, .iaload, 1), (44, .iconst 1, 1), (45, .iload_n 1, 1), (46, .ishl, 1), (47, .ixor, 1), (48, .iastore, 1), (49, .aload_n 0, 1), (50, .aload_n 0, 1), (51, .aload_n 0, 1), (52, .iload_n 1, 1), (53, .invokevirtual 274, 3), (56, .invokevirtual 334, 3), (59, .invokevirtual 91, 3), (62, .ireturn, 1)]
theorem dc_X12_found : DEC prog_14_method_87_code pc_X12_found dl_X12_found := DEC_of (by decide +kernel)
abbrev rm_X12_found : Room := { frames := 4, cells := 0, slots := 0, locals := 85 }
set_option maxRecDepth 20000 in
theorem sa_X12_found (l : Launch) : SNDALL l prog_14_method_87_code "GivenUpModel" 2 (some .int) rm_X12_found P_X12_found pc_X12_found := fun p e s m args below meth c cells slots Q D dA ad A RR hC hR => by
  have hM := RTX_room (R := rm_X12_found) hR
  exact ⟨st_aload_n hC (n := 0) (k := 0) (dc_X12_found 0 (0, .aload_n 0, 1) rfl rfl) rfl rfl,
    st_iload_n hC (n := 1) (k := 1) (dc_X12_found 1 (1, .iload_n 1, 1) rfl rfl) rfl rfl,
    st_callV hC (n := 2) (k := 12) (na := 1) (con_X12_isThing l) (dc_X12_found 2 (2, .invokevirtual 313, 3) rfl rfl) rfl wd_1938 wd_160 (by decide) ⟨rfl, rfl, by decide, by decide⟩ hM wd_1935 wd_1937 wd_94 clf_12,
    st_ifne hC (n := 3) (dc_X12_found 3 (5, .ifCond .ne 9, 3) rfl rfl) rfl (by decide),
    st_aload_n hC (n := 4) (k := 0) (dc_X12_found 4 (8, .aload_n 0, 1) rfl rfl) rfl rfl,
    st_iconst hC (n := 5) (x := 1) (dc_X12_found 5 (9, .iconst 1, 1) rfl rfl) rfl (by decide),
    st_callV hC (n := 6) (k := 12) (na := 1) (con_X12_refuse l) (dc_X12_found 6 (10, .invokevirtual 87, 3) rfl rfl) rfl wd_1758 wd_160 (by decide) ⟨rfl, rfl, by decide, by decide⟩ hM wd_1755 wd_1757 wd_57 clf_12,
    st_iret hC (n := 7) hR (dc_X12_found 7 (13, .ireturn, 1) rfl rfl),
    st_aload_n hC (n := 8) (k := 0) (dc_X12_found 8 (14, .aload_n 0, 1) rfl rfl) rfl rfl,
    st_aload_n hC (n := 9) (k := 0) (dc_X12_found 9 (15, .aload_n 0, 1) rfl rfl) rfl rfl,
    st_getR hC (n := 10) (k := 12) (j := 0) (dc_X12_found 10 (16, .getfield 7, 3) rfl rfl) rfl clf_12 (by decide) rfl (by decide) wd_1552,
    st_bipush hC (n := 11) (x := 9) (dc_X12_found 11 (19, .bipush 9, 2) rfl rfl) rfl (by decide),
    st_iald hC (n := 12) (dc_X12_found 12 (21, .iaload, 1) rfl rfl) rfl,
    st_iload_n hC (n := 13) (k := 1) (dc_X12_found 13 (22, .iload_n 1, 1) rfl rfl) rfl rfl,
    st_callV hC (n := 14) (k := 12) (na := 2) (con_X12_isIn l) (dc_X12_found 14 (23, .invokevirtual 277, 3) rfl rfl) rfl wd_1907 wd_160 (by decide) ⟨rfl, rfl, by decide, by decide⟩ hM wd_1904 wd_1906 wd_89 clf_12,
    st_ifne hC (n := 15) (dc_X12_found 15 (26, .ifCond .ne 10, 3) rfl rfl) rfl (by decide),
    st_aload_n hC (n := 16) (k := 0) (dc_X12_found 16 (29, .aload_n 0, 1) rfl rfl) rfl rfl,
    st_bipush hC (n := 17) (x := 7) (dc_X12_found 17 (30, .bipush 7, 2) rfl rfl) rfl (by decide),
    st_callV hC (n := 18) (k := 12) (na := 1) (con_X12_refuse l) (dc_X12_found 18 (32, .invokevirtual 87, 3) rfl rfl) rfl wd_1758 wd_160 (by decide) ⟨rfl, rfl, by decide, by decide⟩ hM wd_1755 wd_1757 wd_57 clf_12,
    st_iret hC (n := 19) hR (dc_X12_found 19 (35, .ireturn, 1) rfl rfl),
    st_aload_n hC (n := 20) (k := 0) (dc_X12_found 20 (36, .aload_n 0, 1) rfl rfl) rfl rfl,
    st_getR hC (n := 21) (k := 12) (j := 0) (dc_X12_found 21 (37, .getfield 7, 3) rfl rfl) rfl clf_12 (by decide) rfl (by decide) wd_1552,
    st_bipush hC (n := 22) (x := 9) (dc_X12_found 22 (40, .bipush 9, 2) rfl rfl) rfl (by decide),
    st_dup2 hC (n := 23) (dc_X12_found 23 (42, .dup2, 1) rfl rfl) rfl,
    st_iald hC (n := 24) (dc_X12_found 24 (43, .iaload, 1) rfl rfl) rfl,
    st_iconst hC (n := 25) (x := 1) (dc_X12_found 25 (44, .iconst 1, 1) rfl rfl) rfl (by decide),
    st_iload_n hC (n := 26) (k := 1) (dc_X12_found 26 (45, .iload_n 1, 1) rfl rfl) rfl rfl,
    st_ishl hC (n := 27) (dc_X12_found 27 (46, .ishl, 1) rfl rfl) rfl,
    st_ixor hC (n := 28) (dc_X12_found 28 (47, .ixor, 1) rfl rfl) rfl,
    st_iast hC (n := 29) (dc_X12_found 29 (48, .iastore, 1) rfl rfl) rfl,
    st_aload_n hC (n := 30) (k := 0) (dc_X12_found 30 (49, .aload_n 0, 1) rfl rfl) rfl rfl,
    st_aload_n hC (n := 31) (k := 0) (dc_X12_found 31 (50, .aload_n 0, 1) rfl rfl) rfl rfl,
    st_aload_n hC (n := 32) (k := 0) (dc_X12_found 32 (51, .aload_n 0, 1) rfl rfl) rfl rfl,
    st_iload_n hC (n := 33) (k := 1) (dc_X12_found 33 (52, .iload_n 1, 1) rfl rfl) rfl rfl,
    st_callV hC (n := 34) (k := 12) (na := 1) (con_X12_ownerOf l) (dc_X12_found 34 (53, .invokevirtual 274, 3) rfl rfl) rfl wd_1896 wd_160 (by decide) ⟨rfl, rfl, by decide, by decide⟩ hM wd_1893 wd_1895 wd_87 clf_12,
    st_callV hC (n := 35) (k := 12) (na := 1) (con_X12_feignedBy l) (dc_X12_found 35 (56, .invokevirtual 334, 3) rfl rfl) rfl wd_1993 wd_160 (by decide) ⟨rfl, rfl, by decide, by decide⟩ hM wd_1990 wd_1992 wd_103 clf_12,
    st_callV hC (n := 36) (k := 12) (na := 1) (con_X12_gives l) (dc_X12_found 36 (59, .invokevirtual 91, 3) rfl rfl) rfl wd_1849 wd_160 (by decide) ⟨rfl, rfl, by decide, by decide⟩ hM wd_1846 wd_1848 wd_79 clf_12,
    st_iret hC (n := 37) hR (dc_X12_found 37 (62, .ireturn, 1) rfl rfl), trivial⟩
theorem vc_X12_found : VC P_X12_found 2 Pre_X12_found Fn_X12_found := by
  rintro mm as hom hoa ⟨⟨ns, nm, nt, hV⟩, hB, x, rfl⟩
  refine ⟨Nat.le_of_ble_eq_true rfl, fun X h => ?_⟩
  refine h (fun i => Nat.beq i 8) 3000 0 _ _ _ ?_
  refine And.intro ⟨_, rfl⟩ ?_
  refine brn_c (fun h1 => ?_) (fun h1 => ?_)
  · replace h1 := bI_n0.mp h1
    obtain ⟨j, hj, rfl⟩ := tg_in hV h1
    have hnt : nt ≤ 12 := hV.2.2.1.2
    have ej : (nI j).toNatClampNeg = j := nI_clamp (by omega)
    have eF : Fn_X12_found mm [vR 12 0, vI (nI j)] = fuR mm j := by
      show (if tgP (mm.1 54 0) (nI j) then fuR mm (nI j).toNatClampNeg else rfM mm 1) = _
      rw [if_pos h1, ej]
    rw [eF] at h
    show X 8 [some (vR 12 0), some (vI (nI j))] [] mm
    refine h (fun i => Nat.beq i 20) 3000 8 _ _ _ ?_
    refine And.intro rfl ?_
    refine And.intro ⟨_, _, rfl⟩ ?_
    refine brn_c (fun h2 => ?_) (fun h2 => ?_)
    · replace h2 := bI_n0.mp h2
      show X 20 [some (vR 12 0), some (vI (nI j))] [] mm
      refine h (fun i => Nat.beq i 30) 3000 20 _ _ _ ?_
      refine And.intro rfl ?_
      refine And.intro rfl ?_
      show X 30 [some (vR 12 0), some (vI (nI j))] [] (fuM mm j)
      refine h (fun i => Nat.beq i 35) 3000 30 _ _ _ ?_
      refine And.intro ⟨j, by omega, rfl⟩ ?_
      show X 35 [some (vR 12 0), some (vI (nI j))] [vI ((fuM mm j).1 54 0 (44 + 3 * (nI j).toNatClampNeg)), vR 12 0, vR 12 0] (fuM mm j)
      have e : (fuM mm j).1 54 0 (44 + 3 * (nI j).toNatClampNeg) = mm.1 54 0 (44 + 3 * j) := by
        rw [ej]
        exact upd_ne (by omega)
      rw [e]
      refine h (fun _ => false) 3000 35 _ _ _ ?_
      obtain ⟨n, hn, en⟩ := hB (mm.1 54 0 (44 + 3 * j)) j (by omega)
      have hV2 : VMx (fuM mm j) ns nm nt := VA_of hV (fun i hi => upd_ne (by omega))
      refine And.intro ⟨⟨ns, nm, nt, hV2⟩, _, n, hn, en, rfl⟩ ?_
      refine And.intro ⟨_, rfl⟩ ?_
      exact (if_pos h2).symm
    · replace h2 := bI_0.mp h2
      refine And.intro ⟨_, rfl⟩ ?_
      exact (if_neg h2).symm
  · replace h1 := bI_0.mp h1
    refine And.intro ⟨_, rfl⟩ ?_
    exact (if_neg h1).symm
theorem con_X12_found (l : Launch) : CON l y_X12_found prog_14_method_87_code 2 (some .int) rm_X12_found Pre_X12_found Fn_X12_found := CON_of (by decide) rfl rfl (sa_X12_found l) vc_X12_found
def Pre_X12_week : PreT := fun m as => VM m ∧ as = [vR 12 0]
def Fn_X12_week : FnT := fun m _ => if ¬ m.1 54 0 6 = 999 then gvM (atM m (wkA (m.1 54 0))) (m.1 54 0 6 + 1) else rfM m 4
abbrev y_X12_week : MethodName := ⟨"GivenUpModel", "week", "()I"⟩
def P_X12_week : List StpT := [s_aload 0, s_callV 12 0 Pre_X12_goesBy Fn_X12_goesBy, s_ifeq 10, s_aload 0, s_aload 0, s_getR 12 0 54, s_ic (6), s_iald, s_callV 12 1 Pre_X12_gives Fn_X12_gives, s_goto 13, s_aload 0, s_ic (4), s_callV 12 1 Pre_X12_refuse Fn_X12_refuse, s_iret]
def pc_X12_week : Nat → Nat := fun i => [0, 1, 4, 7, 8, 9, 12, 14, 15, 18, 21, 22, 23, 26].getD i 0
def dl_X12_week : List (Nat × Instr × Nat) := [(0, .aload_n 0, 1), (1, .invokevirtual 340, 3), (4, .ifCond .eq 17, 3), (7, .aload_n 0, 1), (8, .aload_n 0, 1), (9, .getfield 7, 3), (12, .bipush 6, 2), (14, .iaload, 1), (15, .invokevirtual 91, 3), (18, .goto 8, 3), (21, .aload_n 0, 1), (22, .iconst 4, 1), (23, .invokevirtual 87, 3), (26, .ireturn, 1)]
theorem dc_X12_week : DEC prog_14_method_91_code pc_X12_week dl_X12_week := DEC_of (by decide +kernel)
abbrev rm_X12_week : Room := { frames := 2, cells := 0, slots := 0, locals := 41 }
set_option maxRecDepth 20000 in
theorem sa_X12_week (l : Launch) : SNDALL l prog_14_method_91_code "GivenUpModel" 1 (some .int) rm_X12_week P_X12_week pc_X12_week := fun p e s m args below meth c cells slots Q D dA ad A RR hC hR => by
  have hM := RTX_room (R := rm_X12_week) hR
  exact ⟨st_aload_n hC (n := 0) (k := 0) (dc_X12_week 0 (0, .aload_n 0, 1) rfl rfl) rfl rfl,
    st_callV hC (n := 1) (k := 12) (na := 0) (con_X12_goesBy l) (dc_X12_week 1 (1, .invokevirtual 340, 3) rfl rfl) rfl wd_2013 wd_160 (by decide) ⟨rfl, rfl, by decide, by decide⟩ hM wd_2010 wd_2012 wd_105 clf_12,
    st_ifeq hC (n := 2) (dc_X12_week 2 (4, .ifCond .eq 17, 3) rfl rfl) rfl (by decide),
    st_aload_n hC (n := 3) (k := 0) (dc_X12_week 3 (7, .aload_n 0, 1) rfl rfl) rfl rfl,
    st_aload_n hC (n := 4) (k := 0) (dc_X12_week 4 (8, .aload_n 0, 1) rfl rfl) rfl rfl,
    st_getR hC (n := 5) (k := 12) (j := 0) (dc_X12_week 5 (9, .getfield 7, 3) rfl rfl) rfl clf_12 (by decide) rfl (by decide) wd_1552,
    st_bipush hC (n := 6) (x := 6) (dc_X12_week 6 (12, .bipush 6, 2) rfl rfl) rfl (by decide),
    st_iald hC (n := 7) (dc_X12_week 7 (14, .iaload, 1) rfl rfl) rfl,
    st_callV hC (n := 8) (k := 12) (na := 1) (con_X12_gives l) (dc_X12_week 8 (15, .invokevirtual 91, 3) rfl rfl) rfl wd_1849 wd_160 (by decide) ⟨rfl, rfl, by decide, by decide⟩ hM wd_1846 wd_1848 wd_79 clf_12,
    st_goto hC (n := 9) (dc_X12_week 9 (18, .goto 8, 3) rfl rfl) (by decide),
    st_aload_n hC (n := 10) (k := 0) (dc_X12_week 10 (21, .aload_n 0, 1) rfl rfl) rfl rfl,
    st_iconst hC (n := 11) (x := 4) (dc_X12_week 11 (22, .iconst 4, 1) rfl rfl) rfl (by decide),
    st_callV hC (n := 12) (k := 12) (na := 1) (con_X12_refuse l) (dc_X12_week 12 (23, .invokevirtual 87, 3) rfl rfl) rfl wd_1758 wd_160 (by decide) ⟨rfl, rfl, by decide, by decide⟩ hM wd_1755 wd_1757 wd_57 clf_12,
    st_iret hC (n := 13) hR (dc_X12_week 13 (26, .ireturn, 1) rfl rfl), trivial⟩
theorem vc_X12_week : VC P_X12_week 1 Pre_X12_week Fn_X12_week := by
  rintro mm as hom hoa ⟨⟨ns, nm, nt, hV⟩, rfl⟩
  refine ⟨Nat.le_of_ble_eq_true rfl, fun X h => ?_⟩
  refine h (fun i => Nat.beq i 3) 3000 0 _ _ _ ?_
  refine And.intro ⟨⟨ns, nm, nt, hV⟩, rfl⟩ ?_
  refine br_c (fun h2 => ?_) (fun h2 => ?_)
  · replace h2 := bI_0.mp h2
    refine And.intro ⟨_, rfl⟩ ?_
    refine Eq.trans ?_ (if_neg h2).symm
    show (some (vI (-1)), stM (mite (¬ mm.1 54 0 6 = 999) (atM mm (wkA (mm.1 54 0))) mm) 4) = _
    rw [mite_f h2]
    rfl
  · replace h2 := bI_n0.mp h2
    show X 3 [some (vR 12 0)] [] (mite (¬ mm.1 54 0 6 = 999) (atM mm (wkA (mm.1 54 0))) mm)
    rw [mite_t h2]
    refine h (fun _ => false) 3000 3 _ _ _ ?_
    refine And.intro rfl ?_
    refine And.intro ⟨_, rfl⟩ ?_
    refine Eq.trans ?_ (if_pos h2).symm
    have e : wkA (mm.1 54 0) 6 = mm.1 54 0 6 + 1 := by
      unfold wkA
      rw [zwA_lo _ (by omega), upd_eq]
    rw [← e]
    rfl
theorem con_X12_week (l : Launch) : CON l y_X12_week prog_14_method_91_code 1 (some .int) rm_X12_week Pre_X12_week Fn_X12_week := CON_of (by decide) rfl rfl (sa_X12_week l) vc_X12_week
def Pre_X12_wed : PreT := fun m as => VM m ∧ ∃ x y : Int32, as = [vR 12 0, vI x, vI y]
def wdR (m : MM) (i d : Nat) : Option MV × MM := if wdP (m.1 54 0) i d then gvM (atM m (wdA (m.1 54 0) i d)) (m.1 54 0 (13 + 4 * i) - m.1 54 0 (30 + 4 * d)) else rfM m 7
def Fn_X12_wed : FnT := fun m as => match as with
  | [_, Sum.inl x, Sum.inl y] => if suP (m.1 54 0) x ∧ maP (m.1 54 0) y then wdR m x.toNatClampNeg y.toNatClampNeg else rfM m 1
  | _ => (none, m)
abbrev y_X12_wed : MethodName := ⟨"GivenUpModel", "wed", "(II)I"⟩
def P_X12_wed : List StpT := [s_aload 0, s_iload 1, s_iload 2, s_callV 12 2 Pre_X12_areBoth Fn_X12_areBoth, s_ifne 9, s_aload 0, s_ic (1), s_callV 12 1 Pre_X12_refuse Fn_X12_refuse, s_goto 27, s_aload 0, s_iload 1, s_iload 2, s_callV 12 2 Pre_X12_weds Fn_X12_weds, s_ifeq 24, s_aload 0, s_aload 0, s_getR 12 0 54, s_iload 1, s_callS 1 Pre_X12_suitorRow Fn_X12_suitorRow, s_ic (1), s_iadd, s_iald, s_callV 12 1 Pre_X12_gives Fn_X12_gives, s_goto 27, s_aload 0, s_ic (7), s_callV 12 1 Pre_X12_refuse Fn_X12_refuse, s_iret]
def pc_X12_wed : Nat → Nat := fun i => [0, 1, 2, 3, 6, 9, 10, 11, 14, 17, 18, 19, 20, 23, 26, 27, 28, 31, 32, 35, 36, 37, 38, 41, 44, 45, 47, 50].getD i 0
def dl_X12_wed : List (Nat × Instr × Nat) := [(0, .aload_n 0, 1), (1, .iload_n 1, 1), (2, .iload_n 2, 1), (3, .invokevirtual 322, 3), (6, .ifCond .ne 11, 3), (9, .aload_n 0, 1), (10, .iconst 1, 1), (11, .invokevirtual 87, 3), (14, .goto 36, 3), (17, .aload_n 0, 1), (18, .iload_n 1, 1), (19, .iload_n 2, 1), (20, .invokevirtual 346, 3), (23, .ifCond .eq 21, 3), (26, .aload_n 0, 1), (27, .aload_n 0, 1), (28, .getfield 7, 3), (31, .iload_n 1, 1), (32, .invokestatic 289, 3), (35, .iconst 1, 1), (36, .iadd, 1), (37, .iaload, 1), (38, .invokevirtual 91, 3), (41, .goto 9, 3), (44, .aload_n 0, 1), (45, .bipush 7, 2), (47, .invokevirtual 87, 3), (50, .ireturn, 1)]
theorem dc_X12_wed : DEC prog_14_method_96_code pc_X12_wed dl_X12_wed := DEC_of (by decide +kernel)
abbrev rm_X12_wed : Room := { frames := 6, cells := 0, slots := 0, locals := 131 }
set_option maxRecDepth 20000 in
theorem sa_X12_wed (l : Launch) : SNDALL l prog_14_method_96_code "GivenUpModel" 3 (some .int) rm_X12_wed P_X12_wed pc_X12_wed := fun p e s m args below meth c cells slots Q D dA ad A RR hC hR => by
  have hM := RTX_room (R := rm_X12_wed) hR
  exact ⟨st_aload_n hC (n := 0) (k := 0) (dc_X12_wed 0 (0, .aload_n 0, 1) rfl rfl) rfl rfl,
    st_iload_n hC (n := 1) (k := 1) (dc_X12_wed 1 (1, .iload_n 1, 1) rfl rfl) rfl rfl,
    st_iload_n hC (n := 2) (k := 2) (dc_X12_wed 2 (2, .iload_n 2, 1) rfl rfl) rfl rfl,
    st_callV hC (n := 3) (k := 12) (na := 2) (con_X12_areBoth l) (dc_X12_wed 3 (3, .invokevirtual 322, 3) rfl rfl) rfl wd_1969 wd_160 (by decide) ⟨rfl, rfl, by decide, by decide⟩ hM wd_1966 wd_1968 wd_99 clf_12,
    st_ifne hC (n := 4) (dc_X12_wed 4 (6, .ifCond .ne 11, 3) rfl rfl) rfl (by decide),
    st_aload_n hC (n := 5) (k := 0) (dc_X12_wed 5 (9, .aload_n 0, 1) rfl rfl) rfl rfl,
    st_iconst hC (n := 6) (x := 1) (dc_X12_wed 6 (10, .iconst 1, 1) rfl rfl) rfl (by decide),
    st_callV hC (n := 7) (k := 12) (na := 1) (con_X12_refuse l) (dc_X12_wed 7 (11, .invokevirtual 87, 3) rfl rfl) rfl wd_1758 wd_160 (by decide) ⟨rfl, rfl, by decide, by decide⟩ hM wd_1755 wd_1757 wd_57 clf_12,
    st_goto hC (n := 8) (dc_X12_wed 8 (14, .goto 36, 3) rfl rfl) (by decide),
    st_aload_n hC (n := 9) (k := 0) (dc_X12_wed 9 (17, .aload_n 0, 1) rfl rfl) rfl rfl,
    st_iload_n hC (n := 10) (k := 1) (dc_X12_wed 10 (18, .iload_n 1, 1) rfl rfl) rfl rfl,
    st_iload_n hC (n := 11) (k := 2) (dc_X12_wed 11 (19, .iload_n 2, 1) rfl rfl) rfl rfl,
    st_callV hC (n := 12) (k := 12) (na := 2) (con_X12_weds l) (dc_X12_wed 12 (20, .invokevirtual 346, 3) rfl rfl) rfl wd_2049 wd_160 (by decide) ⟨rfl, rfl, by decide, by decide⟩ hM wd_2046 wd_2048 wd_110 clf_12,
    st_ifeq hC (n := 13) (dc_X12_wed 13 (23, .ifCond .eq 21, 3) rfl rfl) rfl (by decide),
    st_aload_n hC (n := 14) (k := 0) (dc_X12_wed 14 (26, .aload_n 0, 1) rfl rfl) rfl rfl,
    st_aload_n hC (n := 15) (k := 0) (dc_X12_wed 15 (27, .aload_n 0, 1) rfl rfl) rfl rfl,
    st_getR hC (n := 16) (k := 12) (j := 0) (dc_X12_wed 16 (28, .getfield 7, 3) rfl rfl) rfl clf_12 (by decide) rfl (by decide) wd_1552,
    st_iload_n hC (n := 17) (k := 1) (dc_X12_wed 17 (31, .iload_n 1, 1) rfl rfl) rfl rfl,
    st_callS hC (n := 18) (na := 1) (con_X12_suitorRow l) (dc_X12_wed 18 (32, .invokestatic 289, 3) rfl rfl) rfl wd_1888 wd_160 (by decide) ⟨rfl, rfl, by decide, by decide⟩ hM wd_1886 wd_1887,
    st_iconst hC (n := 19) (x := 1) (dc_X12_wed 19 (35, .iconst 1, 1) rfl rfl) rfl (by decide),
    st_iadd hC (n := 20) (dc_X12_wed 20 (36, .iadd, 1) rfl rfl) rfl,
    st_iald hC (n := 21) (dc_X12_wed 21 (37, .iaload, 1) rfl rfl) rfl,
    st_callV hC (n := 22) (k := 12) (na := 1) (con_X12_gives l) (dc_X12_wed 22 (38, .invokevirtual 91, 3) rfl rfl) rfl wd_1849 wd_160 (by decide) ⟨rfl, rfl, by decide, by decide⟩ hM wd_1846 wd_1848 wd_79 clf_12,
    st_goto hC (n := 23) (dc_X12_wed 23 (41, .goto 9, 3) rfl rfl) (by decide),
    st_aload_n hC (n := 24) (k := 0) (dc_X12_wed 24 (44, .aload_n 0, 1) rfl rfl) rfl rfl,
    st_bipush hC (n := 25) (x := 7) (dc_X12_wed 25 (45, .bipush 7, 2) rfl rfl) rfl (by decide),
    st_callV hC (n := 26) (k := 12) (na := 1) (con_X12_refuse l) (dc_X12_wed 26 (47, .invokevirtual 87, 3) rfl rfl) rfl wd_1758 wd_160 (by decide) ⟨rfl, rfl, by decide, by decide⟩ hM wd_1755 wd_1757 wd_57 clf_12,
    st_iret hC (n := 27) hR (dc_X12_wed 27 (50, .ireturn, 1) rfl rfl), trivial⟩
theorem vc_X12_wed : VC P_X12_wed 3 Pre_X12_wed Fn_X12_wed := by
  rintro mm as hom hoa ⟨⟨ns, nm, nt, hV⟩, x, y, rfl⟩
  refine ⟨Nat.le_of_ble_eq_true rfl, fun X h => ?_⟩
  refine h (fun i => Nat.beq i 9) 3000 0 _ _ _ ?_
  refine And.intro ⟨_, _, rfl⟩ ?_
  refine brn_c (fun h1 => ?_) (fun h1 => ?_)
  · replace h1 := bI_n0.mp h1
    obtain ⟨i, hi, rfl⟩ := su_in hV h1.1
    obtain ⟨d, hd, rfl⟩ := ma_in hV h1.2
    have hnm : nm ≤ 4 := hV.2.1.2
    have hns : ns ≤ 4 := hV.1.2
    have ei : (nI i).toNatClampNeg = i := nI_clamp (by omega)
    have ed : (nI d).toNatClampNeg = d := nI_clamp (by omega)
    have eF : Fn_X12_wed mm [vR 12 0, vI (nI i), vI (nI d)] = wdR mm i d := by
      show (if suP (mm.1 54 0) (nI i) ∧ maP (mm.1 54 0) (nI d) then wdR mm (nI i).toNatClampNeg (nI d).toNatClampNeg else rfM mm 1) = _
      rw [if_pos h1, ei, ed]
    rw [eF] at h
    show X 9 [some (vR 12 0), some (vI (nI i)), some (vI (nI d))] [] mm
    refine h (fun i => Nat.beq i 14) 3000 9 _ _ _ ?_
    refine And.intro ⟨⟨ns, nm, nt, hV⟩, i, d, by omega, by omega, rfl⟩ ?_
    refine br_c (fun h2 => ?_) (fun h2 => ?_)
    · replace h2 := bI_0.mp h2
      rw [ei, ed] at h2
      refine And.intro ⟨_, rfl⟩ ?_
      refine Eq.trans ?_ (if_neg h2).symm
      show (some (vI (-1)), stM (mite (wdP (mm.1 54 0) (nI i).toNatClampNeg (nI d).toNatClampNeg) (atM mm (wdA (mm.1 54 0) (nI i).toNatClampNeg (nI d).toNatClampNeg)) mm) 7) = _
      rw [ei, ed, mite_f h2]
      rfl
    · replace h2 := bI_n0.mp h2
      rw [ei, ed] at h2
      show X 14 [some (vR 12 0), some (vI (nI i)), some (vI (nI d))] [] (mite (wdP (mm.1 54 0) (nI i).toNatClampNeg (nI d).toNatClampNeg) (atM mm (wdA (mm.1 54 0) (nI i).toNatClampNeg (nI d).toNatClampNeg)) mm)
      rw [ei, ed, mite_t h2]
      refine h (fun _ => false) 3000 14 _ _ _ ?_
      refine And.intro ⟨_, rfl⟩ ?_
      refine And.intro (inb_o 3060 rfl rfl (by simp (disch := omega) only [li, pk_mul, nI_add, nI_clamp]; rfl) (by omega)) ?_
      refine And.intro ⟨_, rfl⟩ ?_
      refine Eq.trans ?_ (if_pos h2).symm
      have e : (atM mm (wdA (mm.1 54 0) i d)).1 54 0 (12 + 4 * nI i + 1).toNatClampNeg = mm.1 54 0 (13 + 4 * i) - mm.1 54 0 (30 + 4 * d) := by
        have x2 : (12 + 4 * nI i + 1).toNatClampNeg = 13 + 4 * i := by simp (disch := omega) only [li, pk_mul, nI_add, nI_clamp]; omega
        rw [x2]
        show wdA (mm.1 54 0) i d (13 + 4 * i) = _
        unfold wdA
        rw [upd_ne (by omega), upd_ne (by omega), upd_ne (by omega), upd_eq]
      rw [← e]
      rfl
  · replace h1 := bI_0.mp h1
    refine And.intro ⟨_, rfl⟩ ?_
    exact (if_neg h1).symm
theorem con_X12_wed (l : Launch) : CON l y_X12_wed prog_14_method_96_code 3 (some .int) rm_X12_wed Pre_X12_wed Fn_X12_wed := CON_of (by decide) rfl rfl (sa_X12_wed l) vc_X12_wed
def Pre_X12_back : PreT := fun m as => VM m ∧ ∃ x : Int32, as = [vR 12 0, vI x]
def bkR (m : MM) (j : Nat) : Option MV × MM := if cbP (m.1 54 0) j then gvM (atM m (cbA (m.1 54 0) j)) (m.1 54 0 (13 + 4 * owA (m.1 54 0) j) - ckA (m.1 54 0) j) else rfM m 7
def Fn_X12_back : FnT := fun m as => match as with
  | [_, Sum.inl x] => if tgP (m.1 54 0) x then bkR m x.toNatClampNeg else rfM m 1
  | _ => (none, m)
abbrev y_X12_back : MethodName := ⟨"GivenUpModel", "back", "(I)I"⟩
def P_X12_back : List StpT := [s_aload 0, s_iload 1, s_callV 12 1 Pre_X12_isThing Fn_X12_isThing, s_ifne 8, s_aload 0, s_ic (1), s_callV 12 1 Pre_X12_refuse Fn_X12_refuse, s_goto 27, s_aload 0, s_iload 1, s_callV 12 1 Pre_X12_comesBack Fn_X12_comesBack, s_ifeq 24, s_aload 0, s_aload 0, s_getR 12 0 54, s_aload 0, s_iload 1, s_callV 12 1 Pre_X12_ownerOf Fn_X12_ownerOf, s_callS 1 Pre_X12_suitorRow Fn_X12_suitorRow, s_ic (1), s_iadd, s_iald, s_callV 12 1 Pre_X12_gives Fn_X12_gives, s_goto 27, s_aload 0, s_ic (7), s_callV 12 1 Pre_X12_refuse Fn_X12_refuse, s_iret]
def pc_X12_back : Nat → Nat := fun i => [0, 1, 2, 5, 8, 9, 10, 13, 16, 17, 18, 21, 24, 25, 26, 29, 30, 31, 34, 37, 38, 39, 40, 43, 46, 47, 49, 52].getD i 0
def dl_X12_back : List (Nat × Instr × Nat) := [(0, .aload_n 0, 1), (1, .iload_n 1, 1), (2, .invokevirtual 313, 3), (5, .ifCond .ne 11, 3), (8, .aload_n 0, 1), (9, .iconst 1, 1), (10, .invokevirtual 87, 3), (13, .goto 39, 3), (16, .aload_n 0, 1), (17, .iload_n 1, 1), (18, .invokevirtual 358, 3), (21, .ifCond .eq 25, 3), (24, .aload_n 0, 1), (25, .aload_n 0, 1), (26, .getfield 7, 3), (29, .aload_n 0, 1), (30, .iload_n 1, 1), (31, .invokevirtual 274, 3), (34, .invokestatic 289, 3), (37, .iconst 1, 1), (38, .iadd, 1), (39, .iaload, 1), (40, .invokevirtual 91, 3), (43, .goto 9, 3), (46, .aload_n 0, 1), (47, .bipush 7, 2), (49, .invokevirtual 87, 3), (52, .ireturn, 1)]
theorem dc_X12_back : DEC prog_14_method_100_code pc_X12_back dl_X12_back := DEC_of (by decide +kernel)
abbrev rm_X12_back : Room := { frames := 4, cells := 0, slots := 0, locals := 87 }
set_option maxRecDepth 20000 in
theorem sa_X12_back (l : Launch) : SNDALL l prog_14_method_100_code "GivenUpModel" 2 (some .int) rm_X12_back P_X12_back pc_X12_back := fun p e s m args below meth c cells slots Q D dA ad A RR hC hR => by
  have hM := RTX_room (R := rm_X12_back) hR
  exact ⟨st_aload_n hC (n := 0) (k := 0) (dc_X12_back 0 (0, .aload_n 0, 1) rfl rfl) rfl rfl,
    st_iload_n hC (n := 1) (k := 1) (dc_X12_back 1 (1, .iload_n 1, 1) rfl rfl) rfl rfl,
    st_callV hC (n := 2) (k := 12) (na := 1) (con_X12_isThing l) (dc_X12_back 2 (2, .invokevirtual 313, 3) rfl rfl) rfl wd_1938 wd_160 (by decide) ⟨rfl, rfl, by decide, by decide⟩ hM wd_1935 wd_1937 wd_94 clf_12,
    st_ifne hC (n := 3) (dc_X12_back 3 (5, .ifCond .ne 11, 3) rfl rfl) rfl (by decide),
    st_aload_n hC (n := 4) (k := 0) (dc_X12_back 4 (8, .aload_n 0, 1) rfl rfl) rfl rfl,
    st_iconst hC (n := 5) (x := 1) (dc_X12_back 5 (9, .iconst 1, 1) rfl rfl) rfl (by decide),
    st_callV hC (n := 6) (k := 12) (na := 1) (con_X12_refuse l) (dc_X12_back 6 (10, .invokevirtual 87, 3) rfl rfl) rfl wd_1758 wd_160 (by decide) ⟨rfl, rfl, by decide, by decide⟩ hM wd_1755 wd_1757 wd_57 clf_12,
    st_goto hC (n := 7) (dc_X12_back 7 (13, .goto 39, 3) rfl rfl) (by decide),
    st_aload_n hC (n := 8) (k := 0) (dc_X12_back 8 (16, .aload_n 0, 1) rfl rfl) rfl rfl,
    st_iload_n hC (n := 9) (k := 1) (dc_X12_back 9 (17, .iload_n 1, 1) rfl rfl) rfl rfl,
    st_callV hC (n := 10) (k := 12) (na := 1) (con_X12_comesBack l) (dc_X12_back 10 (18, .invokevirtual 358, 3) rfl rfl) rfl wd_2057 wd_160 (by decide) ⟨rfl, rfl, by decide, by decide⟩ hM wd_2054 wd_2056 wd_111 clf_12,
    st_ifeq hC (n := 11) (dc_X12_back 11 (21, .ifCond .eq 25, 3) rfl rfl) rfl (by decide),
    st_aload_n hC (n := 12) (k := 0) (dc_X12_back 12 (24, .aload_n 0, 1) rfl rfl) rfl rfl,
    st_aload_n hC (n := 13) (k := 0) (dc_X12_back 13 (25, .aload_n 0, 1) rfl rfl) rfl rfl,
    st_getR hC (n := 14) (k := 12) (j := 0) (dc_X12_back 14 (26, .getfield 7, 3) rfl rfl) rfl clf_12 (by decide) rfl (by decide) wd_1552,
    st_aload_n hC (n := 15) (k := 0) (dc_X12_back 15 (29, .aload_n 0, 1) rfl rfl) rfl rfl,
    st_iload_n hC (n := 16) (k := 1) (dc_X12_back 16 (30, .iload_n 1, 1) rfl rfl) rfl rfl,
    st_callV hC (n := 17) (k := 12) (na := 1) (con_X12_ownerOf l) (dc_X12_back 17 (31, .invokevirtual 274, 3) rfl rfl) rfl wd_1896 wd_160 (by decide) ⟨rfl, rfl, by decide, by decide⟩ hM wd_1893 wd_1895 wd_87 clf_12,
    st_callS hC (n := 18) (na := 1) (con_X12_suitorRow l) (dc_X12_back 18 (34, .invokestatic 289, 3) rfl rfl) rfl wd_1888 wd_160 (by decide) ⟨rfl, rfl, by decide, by decide⟩ hM wd_1886 wd_1887,
    st_iconst hC (n := 19) (x := 1) (dc_X12_back 19 (37, .iconst 1, 1) rfl rfl) rfl (by decide),
    st_iadd hC (n := 20) (dc_X12_back 20 (38, .iadd, 1) rfl rfl) rfl,
    st_iald hC (n := 21) (dc_X12_back 21 (39, .iaload, 1) rfl rfl) rfl,
    st_callV hC (n := 22) (k := 12) (na := 1) (con_X12_gives l) (dc_X12_back 22 (40, .invokevirtual 91, 3) rfl rfl) rfl wd_1849 wd_160 (by decide) ⟨rfl, rfl, by decide, by decide⟩ hM wd_1846 wd_1848 wd_79 clf_12,
    st_goto hC (n := 23) (dc_X12_back 23 (43, .goto 9, 3) rfl rfl) (by decide),
    st_aload_n hC (n := 24) (k := 0) (dc_X12_back 24 (46, .aload_n 0, 1) rfl rfl) rfl rfl,
    st_bipush hC (n := 25) (x := 7) (dc_X12_back 25 (47, .bipush 7, 2) rfl rfl) rfl (by decide),
    st_callV hC (n := 26) (k := 12) (na := 1) (con_X12_refuse l) (dc_X12_back 26 (49, .invokevirtual 87, 3) rfl rfl) rfl wd_1758 wd_160 (by decide) ⟨rfl, rfl, by decide, by decide⟩ hM wd_1755 wd_1757 wd_57 clf_12,
    st_iret hC (n := 27) hR (dc_X12_back 27 (52, .ireturn, 1) rfl rfl), trivial⟩
theorem vc_X12_back : VC P_X12_back 2 Pre_X12_back Fn_X12_back := by
  rintro mm as hom hoa ⟨⟨ns, nm, nt, hV⟩, x, rfl⟩
  refine ⟨Nat.le_of_ble_eq_true rfl, fun X h => ?_⟩
  refine h (fun i => Nat.beq i 8) 3000 0 _ _ _ ?_
  refine And.intro ⟨_, rfl⟩ ?_
  refine brn_c (fun h1 => ?_) (fun h1 => ?_)
  · replace h1 := bI_n0.mp h1
    obtain ⟨j, hj, rfl⟩ := tg_in hV h1
    have hnt : nt ≤ 12 := hV.2.2.1.2
    have hns : ns ≤ 4 := hV.1.2
    have ej : (nI j).toNatClampNeg = j := nI_clamp (by omega)
    obtain ⟨hlt, hown⟩ := owA_at hV hj
    have eF : Fn_X12_back mm [vR 12 0, vI (nI j)] = bkR mm j := by
      show (if tgP (mm.1 54 0) (nI j) then bkR mm (nI j).toNatClampNeg else rfM mm 1) = _
      rw [if_pos h1, ej]
    rw [eF] at h
    show X 8 [some (vR 12 0), some (vI (nI j))] [] mm
    refine h (fun i => Nat.beq i 12) 3000 8 _ _ _ ?_
    refine And.intro ⟨ns, nm, nt, j, hV, hj, rfl⟩ ?_
    refine br_c (fun h2 => ?_) (fun h2 => ?_)
    · replace h2 := bI_0.mp h2
      rw [ej] at h2
      refine And.intro ⟨_, rfl⟩ ?_
      refine Eq.trans ?_ (if_neg h2).symm
      show (some (vI (-1)), stM (mite (cbP (mm.1 54 0) (nI j).toNatClampNeg) (atM mm (cbA (mm.1 54 0) (nI j).toNatClampNeg)) mm) 7) = _
      rw [ej, mite_f h2]
      rfl
    · replace h2 := bI_n0.mp h2
      rw [ej] at h2
      show X 12 [some (vR 12 0), some (vI (nI j))] [] (mite (cbP (mm.1 54 0) (nI j).toNatClampNeg) (atM mm (cbA (mm.1 54 0) (nI j).toNatClampNeg)) mm)
      rw [ej, mite_t h2]
      refine h (fun i => Nat.beq i 18) 3000 12 _ _ _ ?_
      refine And.intro ⟨j, by omega, rfl⟩ ?_
      have e1 : (atM mm (cbA (mm.1 54 0) j)).1 54 0 (44 + 3 * (nI j).toNatClampNeg) = nI (owA (mm.1 54 0) j) := by
        rw [ej]
        show cbA (mm.1 54 0) j (44 + 3 * j) = _
        unfold cbA
        rw [upd_ne (by omega), upd_ne (by omega)]
        exact hown
      show X 18 [some (vR 12 0), some (vI (nI j))] [vI ((atM mm (cbA (mm.1 54 0) j)).1 54 0 (44 + 3 * (nI j).toNatClampNeg)), vR 54 0, vR 12 0] (atM mm (cbA (mm.1 54 0) j))
      rw [e1]
      refine h (fun _ => false) 3000 18 _ _ _ ?_
      refine And.intro ⟨_, rfl⟩ ?_
      refine And.intro (inb_o 3060 rfl rfl (by simp (disch := omega) only [li, pk_mul, nI_add, nI_clamp]; rfl) (by omega)) ?_
      refine And.intro ⟨_, rfl⟩ ?_
      refine Eq.trans ?_ (if_pos h2).symm
      have e : (atM mm (cbA (mm.1 54 0) j)).1 54 0 (12 + 4 * nI (owA (mm.1 54 0) j) + 1).toNatClampNeg = mm.1 54 0 (13 + 4 * owA (mm.1 54 0) j) - ckA (mm.1 54 0) j := by
        have x2 : (12 + 4 * nI (owA (mm.1 54 0) j) + 1).toNatClampNeg = 13 + 4 * owA (mm.1 54 0) j := by simp (disch := omega) only [li, pk_mul, nI_add, nI_clamp]; omega
        rw [x2]
        show cbA (mm.1 54 0) j (13 + 4 * owA (mm.1 54 0) j) = _
        unfold cbA
        exact upd_eq
      rw [← e]
      rfl
  · replace h1 := bI_0.mp h1
    refine And.intro ⟨_, rfl⟩ ?_
    exact (if_neg h1).symm
theorem con_X12_back (l : Launch) : CON l y_X12_back prog_14_method_100_code 2 (some .int) rm_X12_back Pre_X12_back Fn_X12_back := CON_of (by decide) rfl rfl (sa_X12_back l) vc_X12_back
