/-! PART 87: the class: plans: what may be given, a plan is made -/

noncomputable section
/-- what each THING needs is a set of THINGS -/
def NDo (m : MM) (g : Nat) : Prop := ∀ t, t < 12 → ∃ n, n < 4096 ∧ m.1 38 g t = nI n
/-- plans alone moved -/
def SM3 (m m' : MM) : Prop := ∀ k g, k ≠ 3 → ¬ (22 ≤ k ∧ k ≤ 25) → m'.1 k g = m.1 k g
theorem SM3_r (m : MM) : SM3 m m := fun _ _ _ _ => rfl
theorem SM3_t {a b c : MM} (h : SM3 a b) (h' : SM3 b c) : SM3 a c := fun k g z y => (h' k g z y).trans (h k g z y)
theorem SM3_R {a b : MM} {k g : Nat} {f : Nat → Int32} (hk : k = 3 ∨ (22 ≤ k ∧ k ≤ 25)) (h : SM3 a b) : SM3 a (mRow b k g f) := fun k' j z y => (show (mRow b k g f).1 k' j = b.1 k' j from if_neg (fun x : k' = k ∧ j = g => hk.elim (fun w => z (x.1.trans w)) (fun w => y (x.1 ▸ w)))).trans (h k' j z y)
theorem abV_d {M m : MM} {g : Nat} (h : ∀ k, (k = 1 ∨ k = 6 ∨ (15 < k ∧ k < 20) ∨ (29 < k ∧ k < 40)) → M.1 k g = m.1 k g) : abV M g = abV m g := by
  have e1 := h 1 (by decide)
  have e6 := h 6 (by decide)
  have f : fldF M g = fldF m g := by
    funext j
    unfold fldF
    simp only [e1, e6]
  have s : suF M g = suF m g := by
    funext j
    unfold suF
    simp only [h 30 (by decide), h 16 (by decide), h 17 (by decide), h 18 (by decide)]
  have a : maF M g = maF m g := by
    funext j
    unfold maF
    simp only [h 32 (by decide), h 33 (by decide), h 34 (by decide), h 19 (by decide)]
  have t : thF M g = thF m g := by
    funext j
    unfold thF
    simp only [h 35 (by decide), h 36 (by decide), h 37 (by decide)]
  unfold abV
  rw [f, s, a, t, h 39 (by decide), h 31 (by decide)]
theorem abV_3 {m M : MM} {v : Nat} (h : SM3 m M) : abV M v = abV m v := abV_d (fun k hk => h k v (by omega) (by omega))
def ga1 (m : MM) (v d t : Nat) : MM := mI (mRow (mRow (mRow (mRow m 22 0 (upd (m.1 22 0) (m.1 3 0 4).toNatClampNeg (nI t))) 23 0 (upd (m.1 23 0) (m.1 3 0 4).toNatClampNeg (m.1 36 v t))) 24 0 (upd (m.1 24 0) (m.1 3 0 4).toNatClampNeg (abV m v (80 + 4 * t + d)))) 25 0 (upd (m.1 25 0) (m.1 3 0 4).toNatClampNeg (m.1 37 v t))) 3 0 4 (m.1 3 0 4 + 1)
theorem SM3_1 {m M : MM} {v d t : Nat} (h : SM3 m M) : SM3 m (ga1 M v d t) := SM3_R (by decide) (SM3_R (by decide) (SM3_R (by decide) (SM3_R (by decide) (SM3_R (by decide) h))))
def gaI (F : Int32) (v d dp : Nat) : Nat → Nat → MM → MM
  | 0, _, m => m
  | k + 1, t, m => if m.1 3 0 4 < 12 then gaI F v d dp k (t + 1) (if inS F (nI t) ∧ nI (pcN (m.1 38 v t).toNatClampNeg) = nI dp then ga1 m v d t else m) else m
def gaO (F : Int32) (v d nt : Nat) : Nat → Nat → MM → MM
  | 0, _, m => m
  | k + 1, dp, m => gaO F v d nt k (dp + 1) (gaI F v d dp nt 0 m)
def gaF (m : MM) (v s : Nat) : Int32 := thA (abV m v) (nI s) &&& (m.1 1 v 5 ^^^ (-1)) &&& (m.1 1 v 6 ^^^ (-1)) &&& (m.1 6 v 19 ^^^ (-1))
def gaM (m : MM) (v s d : Nat) : MM := gaO (gaF m v s) v d (m.1 6 v 15).toNatClampNeg 12 0 (mI m 3 0 4 0)

--tpl ⟨_, _, _, _, {2N}, {3N}, by assumption, by assumption, by omega, by omega, rfl⟩ ||  || gaM {m} {g1} {2n} {3n}
def Pre_X3_gather : PreT := fun m as => ∃ v ns nm nt s d : Nat, VC2 m v ns nm nt ∧ NDo m v ∧ s < 4 ∧ d < 4 ∧ as = [vR 3 0, vR 6 v, vI (nI s), vI (nI d)]
def Fn_X3_gather : FnT := fun m as => match as with
  | [_, Sum.inr (Sum.inr q), Sum.inl s, Sum.inl d] => (none, gaM m q.2 s.toNatClampNeg d.toNatClampNeg)
  | _ => (none, m)
abbrev y_X3_gather : MethodName := ⟨"GivenUp$Plan", "gather", "(LGivenUp$Valley;II)V"⟩
def P_X3_gather : List StpT := [s_aload 1, s_iload 2, s_callV 6 1 Pre_X6_goods Fn_X6_goods, s_aload 1, s_getR 6 11 1, s_getI 1 5, s_ic (-1), s_ixor, s_iand, s_aload 1, s_getR 6 11 1, s_getI 1 6, s_ic (-1), s_ixor, s_iand, s_aload 1, s_getI 6 19, s_ic (-1), s_ixor, s_iand, s_istore 4, s_aload 0, s_ic (0), s_putI 3 4, s_ic (0), s_istore 5, s_iload 5, s_ic (12), s_icge 93, s_ic (0), s_istore 6, s_iload 6, s_aload 1, s_getI 6 15, s_icge 91, s_aload 0, s_getI 3 4, s_ic (12), s_icge 91, s_iload 4, s_iload 6, s_callS 2 Pre_X11_holds Fn_X11_holds, s_ifeq 89, s_aload 1, s_getR 6 9 38, s_iload 6, s_iald, s_callS 1 Pre_J6_bitCount_0f7a4 Fn_J6_bitCount_0f7a4, s_iload 5, s_icne 89, s_aload 0, s_getR 3 0 22, s_aload 0, s_getI 3 4, s_iload 6, s_iast, s_aload 0, s_getR 3 1 23, s_aload 0, s_getI 3 4, s_aload 1, s_getR 6 7 36, s_iload 6, s_iald, s_iast, s_aload 0, s_getR 3 2 24, s_aload 0, s_getI 3 4, s_aload 1, s_iload 6, s_iload 3, s_callV 6 2 Pre_X6_word Fn_X6_word, s_iast, s_aload 0, s_getR 3 3 25, s_aload 0, s_getI 3 4, s_aload 1, s_getR 6 8 37, s_iload 6, s_iald, s_iast, s_aload 0, s_dup, s_getI 3 4, s_ic (1), s_iadd, s_putI 3 4, s_iinc 6 (1), s_goto 31, s_iinc 5 (1), s_goto 26, s_vret]
def pc_X3_gather : Nat → Nat := fun i => [0, 1, 2, 5, 6, 9, 12, 13, 14, 15, 16, 19, 22, 23, 24, 25, 26, 29, 30, 31, 32, 34, 35, 36, 39, 40, 42, 44, 46, 49, 50, 52, 54, 55, 58, 61, 62, 65, 67, 70, 72, 74, 77, 80, 81, 84, 86, 87, 90, 92, 95, 96, 99, 100, 103, 105, 106, 107, 110, 111, 114, 115, 118, 120, 121, 122, 123, 126, 127, 130, 131, 133, 134, 137, 138, 139, 142, 143, 146, 147, 150, 152, 153, 154, 155, 156, 159, 160, 161, 164, 167, 170, 173, 176].getD i 0
def dl_X3_gather : List (Nat × Instr × Nat) := [(0, .aload_n 1, 1), (1, .iload_n 2, 1), (2, .invokevirtual 103, 3), (5, .aload_n 1, 1), (6, .getfield 64, 3), (9, .getfield 70, 3), (12, .iconst (-1), 1), (13, .ixor, 1), (14, .iand, 1), (15, .aload_n 1, 1), (16, .getfield 64, 3), (19, .getfield 106, 3), (22, .iconst (-1), 1), (23, .ixor, 1), (24, .iand, 1), (25, .aload_n 1, 1), (26, .getfield 109, 3), (29, .iconst (-1), 1), (30, .ixor, 1), (31, .iand, 1), (32, .istore 4, 2), (34, .aload_n 0, 1), (35, .iconst 0, 1), (36, .putfield 24, 3), (39, .iconst 0, 1), (40, .istore 5, 2), (42, .iload 5, 2), (44, .bipush 12, 2), (46, .if_icmp .ge 130, 3), (49, .iconst 0, 1), (50, .istore 6, 2), (52, .iload 6, 2), (54, .aload_n 1, 1), (55, .getfield 112, 3), (58, .if_icmp .ge 112, 3), (61, .aload_n 0, 1), (62, .getfield 24, 3), (65, .bipush 12, 2), (67, .if_icmp .ge 103, 3), (70, .iload 4, 2), (72, .iload 6, 2), (74, .invokestatic 115, 3), (77, .ifCond .eq 87, 3), (80, .aload_n 1, 1), (81, .getfield 119, 3), (84, .iload 6, 2), (86, .iaload, 1), (87, .invokestatic 122, 3), (90, .iload 5, 2), (92, .if_icmp .ne 72, 3), (95, .aload_n 0, 1), (96, .getfield 9, 3), (99, .aload_n 0, 1), (100, .getfield 24, 3), (103, .iload 6, 2), (105, .iastore, 1), (106, .aload_n 0, 1), (107, .getfield 15, 3), (110, .aload_n 0, 1), (111, .getfield 24, 3), (114, .aload_n 1, 1), (115, .getfield 127, 3), (118, .iload 6, 2), (120, .iaload, 1), (121, .iastore, 1), (122, .aload_n 0, 1), (123, .getfield 18, 3), (126, .aload_n 0, 1), (127, .getfield 24, 3), (130, .aload_n 1, 1), (131, .iload 6, 2), (133, .iload_n 3, 1), (134, .invokevirtual 129, 3), (137, .iastore, 1), (138, .aload_n 0, 1), (139, .getfield 21, 3), (142, .aload_n 0, 1), (143, .getfield 24, 3), (146, .aload_n 1, 1), (147, .getfield 132, 3), (150, .iload 6, 2), (152, .iaload, 1), (153, .iastore, 1), (154, .aload_n 0, 1), (155, .dup, 1), (156, .getfield 24, 3), (159, .iconst 1, 1), (160, .iadd, 1), (161, .putfield 24, 3), (164, .iinc 6 1, 3), (167, .goto (-115), 3), (170, .iinc 5 1, 3), (173, .goto (-131), 3), (176, .return_, 1)]
theorem dc_X3_gather : DEC prog_5_method_4_code pc_X3_gather dl_X3_gather := DEC_of (by decide +kernel)
abbrev rm_X3_gather : Room := { frames := 1, cells := 0, slots := 0, locals := 23 }
set_option maxRecDepth 20000 in
theorem sa_X3_gather (l : Launch) : SNDALL l prog_5_method_4_code "GivenUp$Plan" 7 none rm_X3_gather P_X3_gather pc_X3_gather := fun p e s m args below meth c cells slots Q D dA ad A RR hC hR => by
  have hM := RTX_room (R := rm_X3_gather) hR
  exact ⟨st_aload_n hC (n := 0) (k := 1) (dc_X3_gather 0 (0, .aload_n 1, 1) rfl rfl) rfl rfl,
    st_iload_n hC (n := 1) (k := 2) (dc_X3_gather 1 (1, .iload_n 2, 1) rfl rfl) rfl rfl,
    st_callV hC (n := 2) (k := 6) (na := 1) (con_X6_goods l) (dc_X3_gather 2 (2, .invokevirtual 103, 3) rfl rfl) rfl wd_1035 wd_155 (by decide) ⟨rfl, rfl, by decide, by decide⟩ hM wd_1284 wd_1033 wd_1034 clf_6,
    st_aload_n hC (n := 3) (k := 1) (dc_X3_gather 3 (5, .aload_n 1, 1) rfl rfl) rfl rfl,
    st_getR hC (n := 4) (k := 6) (j := 11) (dc_X3_gather 4 (6, .getfield 64, 3) rfl rfl) rfl clf_6 (by decide) rfl (by decide) wd_611,
    st_getI hC (n := 5) (k := 1) (j := 5) (dc_X3_gather 5 (9, .getfield 70, 3) rfl rfl) rfl clf_1 (by decide) rfl wd_482,
    st_iconst hC (n := 6) (x := (-1)) (dc_X3_gather 6 (12, .iconst (-1), 1) rfl rfl) rfl (by decide),
    st_ixor hC (n := 7) (dc_X3_gather 7 (13, .ixor, 1) rfl rfl) rfl,
    st_iand hC (n := 8) (dc_X3_gather 8 (14, .iand, 1) rfl rfl) rfl,
    st_aload_n hC (n := 9) (k := 1) (dc_X3_gather 9 (15, .aload_n 1, 1) rfl rfl) rfl rfl,
    st_getR hC (n := 10) (k := 6) (j := 11) (dc_X3_gather 10 (16, .getfield 64, 3) rfl rfl) rfl clf_6 (by decide) rfl (by decide) wd_611,
    st_getI hC (n := 11) (k := 1) (j := 6) (dc_X3_gather 11 (19, .getfield 106, 3) rfl rfl) rfl clf_1 (by decide) rfl wd_486,
    st_iconst hC (n := 12) (x := (-1)) (dc_X3_gather 12 (22, .iconst (-1), 1) rfl rfl) rfl (by decide),
    st_ixor hC (n := 13) (dc_X3_gather 13 (23, .ixor, 1) rfl rfl) rfl,
    st_iand hC (n := 14) (dc_X3_gather 14 (24, .iand, 1) rfl rfl) rfl,
    st_aload_n hC (n := 15) (k := 1) (dc_X3_gather 15 (25, .aload_n 1, 1) rfl rfl) rfl rfl,
    st_getI hC (n := 16) (k := 6) (j := 19) (dc_X3_gather 16 (26, .getfield 109, 3) rfl rfl) rfl clf_6 (by decide) rfl wd_645,
    st_iconst hC (n := 17) (x := (-1)) (dc_X3_gather 17 (29, .iconst (-1), 1) rfl rfl) rfl (by decide),
    st_ixor hC (n := 18) (dc_X3_gather 18 (30, .ixor, 1) rfl rfl) rfl,
    st_iand hC (n := 19) (dc_X3_gather 19 (31, .iand, 1) rfl rfl) rfl,
    st_istore hC (n := 20) (dc_X3_gather 20 (32, .istore 4, 2) rfl rfl) rfl (by decide),
    st_aload_n hC (n := 21) (k := 0) (dc_X3_gather 21 (34, .aload_n 0, 1) rfl rfl) rfl rfl,
    st_iconst hC (n := 22) (x := 0) (dc_X3_gather 22 (35, .iconst 0, 1) rfl rfl) rfl (by decide),
    st_putI hC (n := 23) (k := 3) (j := 4) (dc_X3_gather 23 (36, .putfield 24, 3) rfl rfl) rfl clf_3 (by decide) rfl rfl rfl wd_316,
    st_iconst hC (n := 24) (x := 0) (dc_X3_gather 24 (39, .iconst 0, 1) rfl rfl) rfl (by decide),
    st_istore hC (n := 25) (dc_X3_gather 25 (40, .istore 5, 2) rfl rfl) rfl (by decide),
    st_iload hC (n := 26) (dc_X3_gather 26 (42, .iload 5, 2) rfl rfl) rfl,
    st_bipush hC (n := 27) (x := 12) (dc_X3_gather 27 (44, .bipush 12, 2) rfl rfl) rfl (by decide),
    st_icge hC (n := 28) (dc_X3_gather 28 (46, .if_icmp .ge 130, 3) rfl rfl) rfl (by decide),
    st_iconst hC (n := 29) (x := 0) (dc_X3_gather 29 (49, .iconst 0, 1) rfl rfl) rfl (by decide),
    st_istore hC (n := 30) (dc_X3_gather 30 (50, .istore 6, 2) rfl rfl) rfl (by decide),
    st_iload hC (n := 31) (dc_X3_gather 31 (52, .iload 6, 2) rfl rfl) rfl,
    st_aload_n hC (n := 32) (k := 1) (dc_X3_gather 32 (54, .aload_n 1, 1) rfl rfl) rfl rfl,
    st_getI hC (n := 33) (k := 6) (j := 15) (dc_X3_gather 33 (55, .getfield 112, 3) rfl rfl) rfl clf_6 (by decide) rfl wd_630,
    st_icge hC (n := 34) (dc_X3_gather 34 (58, .if_icmp .ge 112, 3) rfl rfl) rfl (by decide),
    st_aload_n hC (n := 35) (k := 0) (dc_X3_gather 35 (61, .aload_n 0, 1) rfl rfl) rfl rfl,
    st_getI hC (n := 36) (k := 3) (j := 4) (dc_X3_gather 36 (62, .getfield 24, 3) rfl rfl) rfl clf_3 (by decide) rfl wd_316,
    st_bipush hC (n := 37) (x := 12) (dc_X3_gather 37 (65, .bipush 12, 2) rfl rfl) rfl (by decide),
    st_icge hC (n := 38) (dc_X3_gather 38 (67, .if_icmp .ge 103, 3) rfl rfl) rfl (by decide),
    st_iload hC (n := 39) (dc_X3_gather 39 (70, .iload 4, 2) rfl rfl) rfl,
    st_iload hC (n := 40) (dc_X3_gather 40 (72, .iload 6, 2) rfl rfl) rfl,
    st_callSN hC (n := 41) (na := 2) (con_X11_holds l) (dc_X3_gather 41 (74, .invokestatic 115, 3) rfl rfl) rfl wd_955 wd_143 (by decide) ⟨rfl, rfl, by decide, by decide⟩ hM ⟨"GivenUp", by decide⟩ wd_954,
    st_ifeq hC (n := 42) (dc_X3_gather 42 (77, .ifCond .eq 87, 3) rfl rfl) rfl (by decide),
    st_aload_n hC (n := 43) (k := 1) (dc_X3_gather 43 (80, .aload_n 1, 1) rfl rfl) rfl rfl,
    st_getR hC (n := 44) (k := 6) (j := 9) (dc_X3_gather 44 (81, .getfield 119, 3) rfl rfl) rfl clf_6 (by decide) rfl (by decide) wd_606,
    st_iload hC (n := 45) (dc_X3_gather 45 (84, .iload 6, 2) rfl rfl) rfl,
    st_iald hC (n := 46) (dc_X3_gather 46 (86, .iaload, 1) rfl rfl) rfl,
    st_callS hC (n := 47) (na := 1) (con_J6_bitCount_0f7a4 l) (dc_X3_gather 47 (87, .invokestatic 122, 3) rfl rfl) rfl wd_1071 wd_163 (by decide) ⟨rfl, rfl, by decide, by decide⟩ hM wd_1286 wd_1070,
    st_iload hC (n := 48) (dc_X3_gather 48 (90, .iload 5, 2) rfl rfl) rfl,
    st_icne hC (n := 49) (dc_X3_gather 49 (92, .if_icmp .ne 72, 3) rfl rfl) rfl (by decide),
    st_aload_n hC (n := 50) (k := 0) (dc_X3_gather 50 (95, .aload_n 0, 1) rfl rfl) rfl rfl,
    st_getR hC (n := 51) (k := 3) (j := 0) (dc_X3_gather 51 (96, .getfield 9, 3) rfl rfl) rfl clf_3 (by decide) rfl (by decide) wd_312,
    st_aload_n hC (n := 52) (k := 0) (dc_X3_gather 52 (99, .aload_n 0, 1) rfl rfl) rfl rfl,
    st_getI hC (n := 53) (k := 3) (j := 4) (dc_X3_gather 53 (100, .getfield 24, 3) rfl rfl) rfl clf_3 (by decide) rfl wd_316,
    st_iload hC (n := 54) (dc_X3_gather 54 (103, .iload 6, 2) rfl rfl) rfl,
    st_iast hC (n := 55) (dc_X3_gather 55 (105, .iastore, 1) rfl rfl) rfl,
    st_aload_n hC (n := 56) (k := 0) (dc_X3_gather 56 (106, .aload_n 0, 1) rfl rfl) rfl rfl,
    st_getR hC (n := 57) (k := 3) (j := 1) (dc_X3_gather 57 (107, .getfield 15, 3) rfl rfl) rfl clf_3 (by decide) rfl (by decide) wd_313,
    st_aload_n hC (n := 58) (k := 0) (dc_X3_gather 58 (110, .aload_n 0, 1) rfl rfl) rfl rfl,
    st_getI hC (n := 59) (k := 3) (j := 4) (dc_X3_gather 59 (111, .getfield 24, 3) rfl rfl) rfl clf_3 (by decide) rfl wd_316,
    st_aload_n hC (n := 60) (k := 1) (dc_X3_gather 60 (114, .aload_n 1, 1) rfl rfl) rfl rfl,
    st_getR hC (n := 61) (k := 6) (j := 7) (dc_X3_gather 61 (115, .getfield 127, 3) rfl rfl) rfl clf_6 (by decide) rfl (by decide) wd_599,
    st_iload hC (n := 62) (dc_X3_gather 62 (118, .iload 6, 2) rfl rfl) rfl,
    st_iald hC (n := 63) (dc_X3_gather 63 (120, .iaload, 1) rfl rfl) rfl,
    st_iast hC (n := 64) (dc_X3_gather 64 (121, .iastore, 1) rfl rfl) rfl,
    st_aload_n hC (n := 65) (k := 0) (dc_X3_gather 65 (122, .aload_n 0, 1) rfl rfl) rfl rfl,
    st_getR hC (n := 66) (k := 3) (j := 2) (dc_X3_gather 66 (123, .getfield 18, 3) rfl rfl) rfl clf_3 (by decide) rfl (by decide) wd_314,
    st_aload_n hC (n := 67) (k := 0) (dc_X3_gather 67 (126, .aload_n 0, 1) rfl rfl) rfl rfl,
    st_getI hC (n := 68) (k := 3) (j := 4) (dc_X3_gather 68 (127, .getfield 24, 3) rfl rfl) rfl clf_3 (by decide) rfl wd_316,
    st_aload_n hC (n := 69) (k := 1) (dc_X3_gather 69 (130, .aload_n 1, 1) rfl rfl) rfl rfl,
    st_iload hC (n := 70) (dc_X3_gather 70 (131, .iload 6, 2) rfl rfl) rfl,
    st_iload_n hC (n := 71) (k := 3) (dc_X3_gather 71 (133, .iload_n 3, 1) rfl rfl) rfl rfl,
    st_callV hC (n := 72) (k := 6) (na := 2) (con_X6_word l) (dc_X3_gather 72 (134, .invokevirtual 129, 3) rfl rfl) rfl wd_1082 wd_155 (by decide) ⟨rfl, rfl, by decide, by decide⟩ hM wd_1287 wd_1080 wd_1081 clf_6,
    st_iast hC (n := 73) (dc_X3_gather 73 (137, .iastore, 1) rfl rfl) rfl,
    st_aload_n hC (n := 74) (k := 0) (dc_X3_gather 74 (138, .aload_n 0, 1) rfl rfl) rfl rfl,
    st_getR hC (n := 75) (k := 3) (j := 3) (dc_X3_gather 75 (139, .getfield 21, 3) rfl rfl) rfl clf_3 (by decide) rfl (by decide) wd_315,
    st_aload_n hC (n := 76) (k := 0) (dc_X3_gather 76 (142, .aload_n 0, 1) rfl rfl) rfl rfl,
    st_getI hC (n := 77) (k := 3) (j := 4) (dc_X3_gather 77 (143, .getfield 24, 3) rfl rfl) rfl clf_3 (by decide) rfl wd_316,
    st_aload_n hC (n := 78) (k := 1) (dc_X3_gather 78 (146, .aload_n 1, 1) rfl rfl) rfl rfl,
    st_getR hC (n := 79) (k := 6) (j := 8) (dc_X3_gather 79 (147, .getfield 132, 3) rfl rfl) rfl clf_6 (by decide) rfl (by decide) wd_602,
    st_iload hC (n := 80) (dc_X3_gather 80 (150, .iload 6, 2) rfl rfl) rfl,
    st_iald hC (n := 81) (dc_X3_gather 81 (152, .iaload, 1) rfl rfl) rfl,
    st_iast hC (n := 82) (dc_X3_gather 82 (153, .iastore, 1) rfl rfl) rfl,
    st_aload_n hC (n := 83) (k := 0) (dc_X3_gather 83 (154, .aload_n 0, 1) rfl rfl) rfl rfl,
    st_dup hC (n := 84) (dc_X3_gather 84 (155, .dup, 1) rfl rfl) rfl,
    st_getI hC (n := 85) (k := 3) (j := 4) (dc_X3_gather 85 (156, .getfield 24, 3) rfl rfl) rfl clf_3 (by decide) rfl wd_316,
    st_iconst hC (n := 86) (x := 1) (dc_X3_gather 86 (159, .iconst 1, 1) rfl rfl) rfl (by decide),
    st_iadd hC (n := 87) (dc_X3_gather 87 (160, .iadd, 1) rfl rfl) rfl,
    st_putI hC (n := 88) (k := 3) (j := 4) (dc_X3_gather 88 (161, .putfield 24, 3) rfl rfl) rfl clf_3 (by decide) rfl rfl rfl wd_316,
    st_iinc hC (n := 89) (x := 1) (dc_X3_gather 89 (164, .iinc 6 1, 3) rfl rfl) rfl (by decide) (by decide),
    st_goto hC (n := 90) (dc_X3_gather 90 (167, .goto (-115), 3) rfl rfl) (by decide),
    st_iinc hC (n := 91) (x := 1) (dc_X3_gather 91 (170, .iinc 5 1, 3) rfl rfl) rfl (by decide) (by decide),
    st_goto hC (n := 92) (dc_X3_gather 92 (173, .goto (-131), 3) rfl rfl) (by decide),
    st_vret hC (n := 93) hR (dc_X3_gather 93 (176, .return_, 1) rfl rfl), trivial⟩
set_option maxRecDepth 8000 in
theorem vc_X3_gather : VC P_X3_gather 7 Pre_X3_gather Fn_X3_gather := by
  rintro mm as hom hoa ⟨v, ns, nm, nt, s, d, hV, hN, hs, hd, rfl⟩
  refine ⟨Nat.le_of_ble_eq_true rfl, fun X h => ?_⟩
  have es : (nI s).toNatClampNeg = s := nI_clamp (by omega)
  have ed : (nI d).toNatClampNeg = d := nI_clamp (by omega)
  have hn : mm.1 6 v 15 = nI nt := hV.1.2.2.1.1
  have hn12 : nt ≤ 12 := hV.1.2.2.1.2
  have ent : (nI nt).toNatClampNeg = nt := nI_clamp (by omega)
  replace h : RUN P_X3_gather (fun r m' => (r, m') = (none, gaM mm v (nI s).toNatClampNeg (nI d).toNatClampNeg)) X := h
  rw [es, ed] at h
  unfold gaM at h
  rw [hn, ent] at h
  obtain ⟨F, eF⟩ : ∃ F, F = gaF mm v s := ⟨_, rfl⟩
  rw [← eF] at h
  obtain ⟨R, eR⟩ : ∃ R, R = gaO F v d nt 12 0 (mI mm 3 0 4 0) := ⟨_, rfl⟩
  rw [← eR] at h
  have out : ∀ k dp M, dp + k = 12 → SM3 mm M → (∃ q, q ≤ 12 ∧ M.1 3 0 4 = nI q) → R = gaO F v d nt k dp M → ∀ L6, X 26 [some (vR 3 0), some (vR 6 v), some (vI (nI s)), some (vI (nI d)), some (vI (F)), some (vI (nI dp)), L6] [] (M) := by
    intro k
    induction k with
    | zero =>
      intro dp M hdp hM hq hR L6
      have hd2 : dp = 12 := by omega
      subst hd2
      rw [gaO] at hR
      show X 26 [some (vR 3 0), some (vR 6 v), some (vI (nI s)), some (vI (nI d)), some (vI F), some (vI (nI 12)), L6] [] M
      refine h (fun _ => false) 3000 26 _ _ _ ?_
      refine br_t (show 12 ≤ nI 12 from Int32.le_refl _) ?_
      show ((none : Option MV), M) = _
      rw [hR]
    | succ k ih =>
      intro dp M hdp hM hq hR L6
      rw [gaO] at hR
      have s91 : ∀ M' i, SM3 mm M' → (∃ q, q ≤ 12 ∧ M'.1 3 0 4 = nI q) → R = gaO F v d nt k (dp + 1) M' → X 91 [some (vR 3 0), some (vR 6 v), some (vI (nI s)), some (vI (nI d)), some (vI (F)), some (vI (nI dp)), some (vI (i))] [] (M') := by
        intro M' i hM' hq' hR'
        have z := ih (dp + 1) M' (by omega) hM' hq' hR'
        show X 91 [some (vR 3 0), some (vR 6 v), some (vI (nI s)), some (vI (nI d)), some (vI F), some (vI (nI dp)), some (vI i)] [] M'
        refine h (fun i => Nat.beq i 26) 3000 91 _ _ _ ?_
        show X 26 [some (vR 3 0), some (vR 6 v), some (vI (nI s)), some (vI (nI d)), some (vI F), some (vI ((nI dp) + 1)), some (vI i)] [] M'
        rw [nI_1]
        exact z _
      have inner : ∀ k' t M, t + k' = nt → SM3 mm M → (∃ q, q ≤ 12 ∧ M.1 3 0 4 = nI q) → R = gaO F v d nt k (dp + 1) (gaI F v d dp k' t M) → X 31 [some (vR 3 0), some (vR 6 v), some (vI (nI s)), some (vI (nI d)), some (vI (F)), some (vI (nI dp)), some (vI (nI t))] [] (M) := by
        intro k'
        induction k' with
        | zero =>
          intro t M ht hM hq hR
          have ht2 : t = nt := by omega
          rw [gaI] at hR
          have e15 : M.1 6 v 15 = nI nt := by rw [hM 6 v (by decide) (by decide)]; exact hn
          have z := s91 M (nI t) hM hq hR
          show X 31 [some (vR 3 0), some (vR 6 v), some (vI (nI s)), some (vI (nI d)), some (vI F), some (vI (nI dp)), some (vI (nI t))] [] M
          refine h (fun i => Nat.beq i 91) 3000 31 _ _ _ ?_
          refine br_t (show M.1 6 v 15 ≤ nI t from by rw [e15, ht2]; exact Int32.le_refl _) ?_
          show X 91 [some (vR 3 0), some (vR 6 v), some (vI (nI s)), some (vI (nI d)), some (vI F), some (vI (nI dp)), some (vI (nI t))] [] M
          exact z
        | succ k' ihk =>
          intro t M ht hM hq hR
          rw [gaI] at hR
          have et : (nI t).toNatClampNeg = t := nI_clamp (by omega)
          have e15 : M.1 6 v 15 = nI nt := by rw [hM 6 v (by decide) (by decide)]; exact hn
          have e38 : M.1 38 v = mm.1 38 v := hM 38 v (by decide) (by decide)
          obtain ⟨n, hn4, en⟩ := hN t (by omega)
          have en2 : M.1 38 v t = nI n := by rw [e38]; exact en
          have enc : (nI n).toNatClampNeg = n := nI_clamp (by omega)
          rw [en2, enc] at hR
          have s89 : ∀ M', SM3 mm M' → (∃ q, q ≤ 12 ∧ M'.1 3 0 4 = nI q) → R = gaO F v d nt k (dp + 1) (gaI F v d dp k' (t + 1) M') → X 89 [some (vR 3 0), some (vR 6 v), some (vI (nI s)), some (vI (nI d)), some (vI (F)), some (vI (nI dp)), some (vI (nI t))] [] (M') := by
            intro M' hM' hq' hR'
            have z := ihk (t + 1) M' (by omega) hM' hq' hR'
            show X 89 [some (vR 3 0), some (vR 6 v), some (vI (nI s)), some (vI (nI d)), some (vI F), some (vI (nI dp)), some (vI (nI t))] [] M'
            refine h (fun i => Nat.beq i 31) 3000 89 _ _ _ ?_
            show X 31 [some (vR 3 0), some (vR 6 v), some (vI (nI s)), some (vI (nI d)), some (vI F), some (vI (nI dp)), some (vI ((nI t) + 1))] [] M'
            rw [nI_1]
            exact z
          obtain ⟨q, hq12, eq⟩ := hq
          have eqc : (nI q).toNatClampNeg = q := nI_clamp (by omega)
          have s50 : q < 12 → R = gaO F v d nt k (dp + 1) (gaI F v d dp k' (t + 1) (ga1 M v d t)) → X 50 [some (vR 3 0), some (vR 6 v), some (vI (nI s)), some (vI (nI d)), some (vI (F)), some (vI (nI dp)), some (vI (nI t))] [] (M) := by
            intro hq2 hR'
            obtain ⟨N, eN⟩ : ∃ N, N = mRow (mRow M 22 0 (upd (M.1 22 0) q (nI t))) 23 0 (upd (M.1 23 0) q (M.1 36 v t)) := ⟨_, rfl⟩
            have hNM : SM3 M N := by rw [eN]; exact SM3_R (by decide) (SM3_R (by decide) (SM3_r M))
            have hA : abV N v = abV M v := abV_3 hNM
            have n4 : N.1 3 0 4 = nI q := by rw [eN]; exact eq
            have n24 : N.1 24 0 = M.1 24 0 := by rw [eN]; rfl
            have n25 : N.1 25 0 = M.1 25 0 := by rw [eN]; rfl
            have n37 : N.1 37 v = M.1 37 v := hNM 37 v (by decide) (by decide)
            have eG : ga1 M v d t = mI (mRow (mRow N 24 0 (upd (N.1 24 0) q (abV N v (80 + 4 * t + d)))) 25 0 (upd (N.1 25 0) q (N.1 37 v t))) 3 0 4 (nI q + 1) := by
              rw [hA, n24, n25, n37, eN]
              unfold ga1
              rw [eq, eqc]
            have z := s89 (ga1 M v d t) (SM3_1 hM) ⟨q + 1, by omega, by unfold ga1; rw [mI_eq2, eq, nI_1]⟩ hR'
            rw [eG] at z
            have s65 : X 65 [some (vR 3 0), some (vR 6 v), some (vI (nI s)), some (vI (nI d)), some (vI (F)), some (vI (nI dp)), some (vI (nI t))] [] (N) := by
              show X 65 [some (vR 3 0), some (vR 6 v), some (vI (nI s)), some (vI (nI d)), some (vI F), some (vI (nI dp)), some (vI (nI t))] [] N
              refine h (fun i => Nat.beq i 89) 3000 65 _ _ _ ?_
              refine And.intro (show Pre_X6_word N [vR 6 v, vI (nI t), vI (nI d)] from ⟨v, t, d, by omega, hd, rfl⟩) ?_
              refine And.intro (show inb (N.1 3 0 4) (alen 24) = true from (inb_o 12 rfl rfl n4 (by omega))) ?_
              refine And.intro (show inb (nI t) (alen 37) = true from (inb_o 12 rfl rfl rfl (by omega))) ?_
              refine And.intro (show inb (N.1 3 0 4) (alen 25) = true from (inb_o 12 rfl rfl n4 (by omega))) ?_
              show X 89 [some (vR 3 0), some (vR 6 v), some (vI (nI s)), some (vI (nI d)), some (vI F), some (vI (nI dp)), some (vI (nI t))] [] (mI (mRow (mRow N 24 0 (upd (N.1 24 0) (N.1 3 0 4).toNatClampNeg (abV N v (80 + 4 * (nI t).toNatClampNeg + (nI d).toNatClampNeg)))) 25 0 (upd (N.1 25 0) (N.1 3 0 4).toNatClampNeg (N.1 37 v ((nI t).toNatClampNeg)))) 3 0 4 ((N.1 3 0 4) + 1))
              (try simp only [n4, eqc, et, ed])
              exact z
            show X 50 [some (vR 3 0), some (vR 6 v), some (vI (nI s)), some (vI (nI d)), some (vI F), some (vI (nI dp)), some (vI (nI t))] [] M
            refine h (fun i => Nat.beq i 65) 3000 50 _ _ _ ?_
            refine And.intro (show inb (M.1 3 0 4) (alen 22) = true from (inb_o 12 rfl rfl eq (by omega))) ?_
            refine And.intro (show inb (nI t) (alen 36) = true from (inb_o 12 rfl rfl rfl (by omega))) ?_
            refine And.intro (show inb (M.1 3 0 4) (alen 23) = true from (inb_o 12 rfl rfl eq (by omega))) ?_
            show X 65 [some (vR 3 0), some (vR 6 v), some (vI (nI s)), some (vI (nI d)), some (vI F), some (vI (nI dp)), some (vI (nI t))] [] (mRow (mRow M 22 0 (upd (M.1 22 0) (M.1 3 0 4).toNatClampNeg (nI t))) 23 0 (upd (M.1 23 0) (M.1 3 0 4).toNatClampNeg (M.1 36 v ((nI t).toNatClampNeg))))
            (try simp only [eq, eqc, et])
            rw [← eN]
            exact s65
          have c12 : (12 : Int32) = nI 12 := rfl
          show X 31 [some (vR 3 0), some (vR 6 v), some (vI (nI s)), some (vI (nI d)), some (vI F), some (vI (nI dp)), some (vI (nI t))] [] M
          refine h (fun i => Nat.beq i 50 || Nat.beq i 89 || Nat.beq i 91) 3000 31 _ _ _ ?_
          refine br_f (show ¬ (M.1 6 v 15 ≤ nI t) from by rw [e15]; exact nI_ge (by omega) (by omega)) ?_
          refine br_c (fun b38 => ?_) (fun b38 => ?_)
          · -- 38: 12 ≤ M.1 3 0 4 taken
            replace b38 : 12 ≤ M.1 3 0 4 := b38
            (try simp only [et, en2, enc] at b38)
            show X 91 [some (vR 3 0), some (vR 6 v), some (vI (nI s)), some (vI (nI d)), some (vI F), some (vI (nI dp)), some (vI (nI t))] [] M
            (try simp only [et, en2, enc])
            rw [if_neg (Int32.not_lt.mpr b38)] at hR
            exact s91 M _ hM ⟨q, hq12, eq⟩ hR
          · -- 38: 12 ≤ M.1 3 0 4 on
            replace b38 : ¬ (12 ≤ M.1 3 0 4) := b38
            (try simp only [et, en2, enc] at b38)
            refine And.intro (show Pre_X11_holds M [vI F, vI (nI t)] from ⟨_, _, rfl⟩) ?_
            refine br_c (fun b42 => ?_) (fun b42 => ?_)
            · -- 42: bI (inS F (nI t)) = 0 taken
              replace b42 : ¬ (inS F (nI t)) := bI_0.mp b42
              (try simp only [et, en2, enc] at b42)
              show X 89 [some (vR 3 0), some (vR 6 v), some (vI (nI s)), some (vI (nI d)), some (vI F), some (vI (nI dp)), some (vI (nI t))] [] M
              (try simp only [et, en2, enc])
              rw [if_pos (Int32.not_le.mp b38), if_neg (fun z => b42 z.1)] at hR
              exact s89 M hM ⟨q, hq12, eq⟩ hR
            · -- 42: bI (inS F (nI t)) = 0 on
              replace b42 : inS F (nI t) := bI_n0.mp b42
              (try simp only [et, en2, enc] at b42)
              refine And.intro (show inb (nI t) (alen 38) = true from (inb_o 12 rfl rfl rfl (by omega))) ?_
              refine And.intro (show Pre_J6_bitCount_0f7a4 M [vI (M.1 38 v ((nI t).toNatClampNeg))] from ⟨n, hn4, by rw [et, en2]⟩) ?_
              refine brn_c (fun b49 => ?_) (fun b49 => ?_)
              · -- 49: nI (pcN (M.1 38 v ((nI t).toNatClampNeg)).toNatClampNeg) = nI dp taken
                replace b49 : ¬ (nI (pcN (M.1 38 v ((nI t).toNatClampNeg)).toNatClampNeg) = nI dp) := b49
                (try simp only [et, en2, enc] at b49)
                show X 89 [some (vR 3 0), some (vR 6 v), some (vI (nI s)), some (vI (nI d)), some (vI F), some (vI (nI dp)), some (vI (nI t))] [] M
                (try simp only [et, en2, enc])
                rw [if_pos (Int32.not_le.mp b38), if_neg (fun z => b49 z.2)] at hR
                exact s89 M hM ⟨q, hq12, eq⟩ hR
              · -- 49: nI (pcN (M.1 38 v ((nI t).toNatClampNeg)).toNatClampNeg) = nI dp on
                replace b49 : nI (pcN (M.1 38 v ((nI t).toNatClampNeg)).toNatClampNeg) = nI dp := b49
                (try simp only [et, en2, enc] at b49)
                show X 50 [some (vR 3 0), some (vR 6 v), some (vI (nI s)), some (vI (nI d)), some (vI F), some (vI (nI dp)), some (vI (nI t))] [] M
                (try simp only [et, en2, enc])
                rw [if_pos (Int32.not_le.mp b38), if_pos ⟨b42, b49⟩] at hR
                rw [eq, c12, nI_leI (by omega) (by omega)] at b38 
                exact s50 (by omega) hR
      have i0 := inner nt 0 M (by omega) hM hq hR
      show X 26 [some (vR 3 0), some (vR 6 v), some (vI (nI s)), some (vI (nI d)), some (vI F), some (vI (nI dp)), L6] [] M
      refine h (fun i => Nat.beq i 31) 3000 26 _ _ _ ?_
      refine br_f (show ¬ (12 ≤ nI dp) from show ¬ nI 12 ≤ nI dp from nI_ge (by omega) (by omega)) ?_
      show X 31 [some (vR 3 0), some (vR 6 v), some (vI (nI s)), some (vI (nI d)), some (vI F), some (vI (nI dp)), some (vI 0)] [] M
      exact i0
  have l0 := out 12 0 (mI mm 3 0 4 0) (by omega) (SM3_R (by decide) (SM3_r mm)) ⟨0, by decide, mI_eq2⟩ eR none
  unfold gaF at eF
  show X 0 [some (vR 3 0), some (vR 6 v), some (vI (nI s)), some (vI (nI d)), none, none, none] [] mm
  refine h (fun i => Nat.beq i 26) 3000 0 _ _ _ ?_
  refine And.intro (show Pre_X6_goods mm [vR 6 v, vI (nI s)] from ⟨v, ns, nm, nt, hV, _, rfl⟩) ?_
  show X 26 [some (vR 3 0), some (vR 6 v), some (vI (nI s)), some (vI (nI d)), some (vI ((((thA (abV mm v) (nI s)) &&& ((mm.1 1 v 5) ^^^ (-1))) &&& ((mm.1 1 v 6) ^^^ (-1))) &&& ((mm.1 6 v 19) ^^^ (-1)))), some (vI 0), none] [] (mI mm 3 0 4 0)
  rw [← eF]
  exact l0
theorem con_X3_gather (l : Launch) : CON l y_X3_gather prog_5_method_4_code 7 none rm_X3_gather Pre_X3_gather Fn_X3_gather := CON_of (by decide) rfl rfl (sa_X3_gather l) vc_X3_gather
def mkA (m : MM) (v s : Nat) (w : Int32) : MM := mI (mI (mI (mI m 3 0 5 (m.1 1 v 5)) 3 0 7 (m.1 6 v 17)) 3 0 6 (m.1 6 v 17 - m.1 17 v s)) 3 0 8 (m.1 6 v 17 - m.1 17 v s + m.1 6 v 17 * (if 999 - m.1 1 v 4 < w then 999 - m.1 1 v 4 else w))
def mkB (v d : Nat) (m : MM) : MM := mI (mI (mI (mI m 3 0 9 (brA (abV m v) d (abV m v 6))) 3 0 10 (m.1 33 v d)) 3 0 13 (-1)) 3 0 16 0
def mkG (v s d : Nat) (m : MM) : MM := grM m 0 0 0 0 (hdA (abV m v) (nI s) d)
def mkM0 (m : MM) (v s d : Nat) (w : Int32) : MM := mkG v s d (gaM (mkB v d (mkA m v s w)) v s d)
theorem mkX : ∃ f : MM → Nat → Nat → Nat → Int32 → MM, f = mkM0 := ⟨_, rfl⟩
/-- a plan is made; behind a wall, so that nothing looks into it by itself -/
def mkM : MM → Nat → Nat → Nat → Int32 → MM := Classical.choose mkX
theorem mkM_eq (m : MM) (v s d : Nat) (w : Int32) : mkM m v s d w = mkM0 m v s d w := by
  unfold mkM
  rw [Classical.choose_spec mkX]
theorem SM3_A (m : MM) (v s : Nat) (w : Int32) : SM3 m (mkA m v s w) := SM3_R (by decide) (SM3_R (by decide) (SM3_R (by decide) (SM3_R (by decide) (SM3_r m))))
theorem SM3_B (v d : Nat) (m : MM) : SM3 m (mkB v d m) := SM3_R (by decide) (SM3_R (by decide) (SM3_R (by decide) (SM3_R (by decide) (SM3_r m))))
theorem SM3_if {c : Prop} [Decidable c] {m a b : MM} (h : SM3 m a) (h' : SM3 m b) : SM3 m (if c then a else b) := by
  by_cases z : c
  · rw [if_pos z]; exact h
  · rw [if_neg z]; exact h'
theorem SM3_gI (F : Int32) (v d dp : Nat) {m : MM} : ∀ k t M, SM3 m M → SM3 m (gaI F v d dp k t M)
  | 0, _, _, h => h
  | k + 1, t, M, h => by
    rw [gaI]
    exact SM3_if (SM3_gI F v d dp k (t + 1) _ (SM3_if (SM3_1 h) h)) h
theorem SM3_gO (F : Int32) (v d nt : Nat) {m : MM} : ∀ k dp M, SM3 m M → SM3 m (gaO F v d nt k dp M)
  | 0, _, _, h => h
  | k + 1, dp, M, h => SM3_gO F v d nt k (dp + 1) _ (SM3_gI F v d dp nt 0 M h)
theorem SM3_g {m M : MM} {v s d : Nat} (h : SM3 m M) : SM3 m (gaM M v s d) := SM3_gO _ _ _ _ _ _ _ (SM3_R (by decide) h)
theorem SM3_w {m M : MM} {ch ma su he : Int32} (h : SM3 m M) : SM3 m (weM M ch ma su he) := by
  unfold weM we1
  refine SM3_if (SM3_R (by decide) h) ?_
  unfold we3
  have z := SM3_R (k := 3) (g := 0) (f := upd ((weA (we0 M he) ma).1 3 0) 15 (if (weA (we0 M he) ma).1 3 0 13 < 0 then wkC3 (we0 M he) ma else if wkC3 (we0 M he) ma < (weA (we0 M he) ma).1 3 0 15 then wkC3 (we0 M he) ma else (weA (we0 M he) ma).1 3 0 15)) (by decide) (SM3_R (k := 3) (g := 0) (f := upd ((we0 M he).1 3 0) 14 (if (we0 M he).1 3 0 13 < 0 then ma else if ma < (we0 M he).1 3 0 14 then ma else (we0 M he).1 3 0 14)) (by decide) (SM3_R (k := 3) (g := 0) (f := upd (M.1 3 0) 16 (if M.1 3 0 16 < he then he else M.1 3 0 16)) (by decide) h))
  exact SM3_if (SM3_R (by decide) (SM3_R (by decide) (SM3_R (by decide) z))) z
theorem SM3_L {m : MM} : ∀ k j ch ma su he M, SM3 m M → SM3 m (grL k j ch ma su he M)
  | 0, _, _, _, _, _, _, h => h
  | k + 1, j, ch, ma, su, he, M, h => by
    rw [grL]
    exact SM3_if (SM3_L k (j + 1) _ _ _ _ _ (SM3_if (SM3_if (SM3_w h) (SM3_L k (j + 1) _ _ _ _ _ (SM3_w h))) h)) h
theorem SM3_gr {m M : MM} {i : Nat} {ch ma su he : Int32} (h : SM3 m M) : SM3 m (grM M i ch ma su he) := SM3_if (SM3_w h) (SM3_L _ _ _ _ _ _ _ (SM3_w h))
theorem SM3_mk (m : MM) (v s d : Nat) (w : Int32) : SM3 m (mkM m v s d w) := by
  rw [mkM_eq]
  unfold mkM0 mkG
  exact SM3_gr (SM3_g (SM3_t (SM3_A m v s w) (SM3_B v d _)))

--tpl ⟨_, _, _, _, {2N}, {3N}, _, by assumption, by assumption, by omega, by omega, rfl⟩ ||  || mkM {m} {g1} {2n} {3n} {4}
def Pre_X3_make : PreT := fun m as => ∃ (v ns nm nt s d : Nat) (w : Int32), VC2 m v ns nm nt ∧ NDo m v ∧ s < 4 ∧ d < 4 ∧ as = [vR 3 0, vR 6 v, vI (nI s), vI (nI d), vI w]
def Fn_X3_make : FnT := fun m as => match as with
  | [_, Sum.inr (Sum.inr q), Sum.inl s, Sum.inl d, Sum.inl w] => (none, mkM m q.2 s.toNatClampNeg d.toNatClampNeg w)
  | _ => (none, m)
abbrev y_X3_make : MethodName := ⟨"GivenUp$Plan", "make", "(LGivenUp$Valley;III)V"⟩
def P_X3_make : List StpT := [s_aload 0, s_aload 1, s_getR 6 11 1, s_getI 1 5, s_putI 3 5, s_aload 0, s_aload 1, s_getI 6 17, s_putI 3 7, s_aload 0, s_aload 0, s_getI 3 7, s_aload 1, s_getR 6 11 1, s_getR 1 1 17, s_iload 2, s_iald, s_isub, s_putI 3 6, s_aload 0, s_aload 0, s_getI 3 6, s_aload 0, s_getI 3 7, s_iload 4, s_ic (999), s_aload 1, s_getR 6 11 1, s_getI 1 4, s_isub, s_callS 2 Pre_J9_min_7cf53 Fn_J9_min_7cf53, s_imul, s_iadd, s_putI 3 8, s_aload 0, s_aload 1, s_iload 3, s_callV 6 1 Pre_X6_barNow Fn_X6_barNow, s_putI 3 9, s_aload 0, s_aload 1, s_getR 6 4 33, s_iload 3, s_iald, s_putI 3 10, s_aload 0, s_ic (-1), s_putI 3 13, s_aload 0, s_ic (0), s_putI 3 16, s_aload 0, s_aload 1, s_iload 2, s_iload 3, s_callV 3 3 Pre_X3_gather Fn_X3_gather, s_aload 0, s_ic (0), s_ic (0), s_ic (0), s_ic (0), s_aload 1, s_iload 2, s_iload 3, s_callV 6 2 Pre_X6_hears Fn_X6_hears, s_callV 3 5 Pre_X3_grow Fn_X3_grow, s_vret]
def pc_X3_make : Nat → Nat := fun i => [0, 1, 2, 5, 8, 11, 12, 13, 16, 19, 20, 21, 24, 25, 28, 31, 32, 33, 34, 37, 38, 39, 42, 43, 46, 48, 51, 52, 55, 58, 59, 62, 63, 64, 67, 68, 69, 70, 73, 76, 77, 78, 81, 82, 83, 86, 87, 88, 91, 92, 93, 96, 97, 98, 99, 100, 103, 104, 105, 106, 107, 108, 109, 110, 111, 114, 117].getD i 0
def dl_X3_make : List (Nat × Instr × Nat) := [(0, .aload_n 0, 1), (1, .aload_n 1, 1), (2, .getfield 64, 3), (5, .getfield 70, 3), (8, .putfield 28, 3), (11, .aload_n 0, 1), (12, .aload_n 1, 1), (13, .getfield 73, 3), (16, .putfield 34, 3), (19, .aload_n 0, 1), (20, .aload_n 0, 1), (21, .getfield 34, 3), (24, .aload_n 1, 1), (25, .getfield 64, 3), (28, .getfield 74, 3), (31, .iload_n 2, 1), (32, .iaload, 1), (33, .isub, 1), (34, .putfield 31, 3), (37, .aload_n 0, 1), (38, .aload_n 0, 1), (39, .getfield 31, 3), (42, .aload_n 0, 1), (43, .getfield 34, 3), (46, .iload 4, 2), (48, .sipush 999, 3), (51, .aload_n 1, 1), (52, .getfield 64, 3), (55, .getfield 77, 3), (58, .isub, 1), (59, .invokestatic 80, 3), (62, .imul, 1), (63, .iadd, 1), (64, .putfield 37, 3), (67, .aload_n 0, 1), (68, .aload_n 1, 1), (69, .iload_n 3, 1), (70, .invokevirtual 86, 3), (73, .putfield 40, 3), (76, .aload_n 0, 1), (77, .aload_n 1, 1), (78, .getfield 90, 3), (81, .iload_n 3, 1), (82, .iaload, 1), (83, .putfield 43, 3), (86, .aload_n 0, 1), (87, .iconst (-1), 1), (88, .putfield 52, 3), (91, .aload_n 0, 1), (92, .iconst 0, 1), (93, .putfield 61, 3), (96, .aload_n 0, 1), (97, .aload_n 1, 1), (98, .iload_n 2, 1), (99, .iload_n 3, 1), (100, .invokevirtual 92, 3), (103, .aload_n 0, 1), (104, .iconst 0, 1), (105, .iconst 0, 1), (106, .iconst 0, 1), (107, .iconst 0, 1), (108, .aload_n 1, 1), (109, .iload_n 2, 1), (110, .iload_n 3, 1), (111, .invokevirtual 96, 3), (114, .invokevirtual 99, 3), (117, .return_, 1)]
theorem dc_X3_make : DEC prog_5_method_2_code pc_X3_make dl_X3_make := DEC_of (by decide +kernel)
abbrev rm_X3_make : Room := { frames := 16, cells := 0, slots := 0, locals := 412 }
set_option maxRecDepth 20000 in
theorem sa_X3_make (l : Launch) : SNDALL l prog_5_method_2_code "GivenUp$Plan" 5 none rm_X3_make P_X3_make pc_X3_make := fun p e s m args below meth c cells slots Q D dA ad A RR hC hR => by
  have hM := RTX_room (R := rm_X3_make) hR
  exact ⟨st_aload_n hC (n := 0) (k := 0) (dc_X3_make 0 (0, .aload_n 0, 1) rfl rfl) rfl rfl,
    st_aload_n hC (n := 1) (k := 1) (dc_X3_make 1 (1, .aload_n 1, 1) rfl rfl) rfl rfl,
    st_getR hC (n := 2) (k := 6) (j := 11) (dc_X3_make 2 (2, .getfield 64, 3) rfl rfl) rfl clf_6 (by decide) rfl (by decide) wd_611,
    st_getI hC (n := 3) (k := 1) (j := 5) (dc_X3_make 3 (5, .getfield 70, 3) rfl rfl) rfl clf_1 (by decide) rfl wd_482,
    st_putI hC (n := 4) (k := 3) (j := 5) (dc_X3_make 4 (8, .putfield 28, 3) rfl rfl) rfl clf_3 (by decide) rfl rfl rfl wd_317,
    st_aload_n hC (n := 5) (k := 0) (dc_X3_make 5 (11, .aload_n 0, 1) rfl rfl) rfl rfl,
    st_aload_n hC (n := 6) (k := 1) (dc_X3_make 6 (12, .aload_n 1, 1) rfl rfl) rfl rfl,
    st_getI hC (n := 7) (k := 6) (j := 17) (dc_X3_make 7 (13, .getfield 73, 3) rfl rfl) rfl clf_6 (by decide) rfl wd_638,
    st_putI hC (n := 8) (k := 3) (j := 7) (dc_X3_make 8 (16, .putfield 34, 3) rfl rfl) rfl clf_3 (by decide) rfl rfl rfl wd_319,
    st_aload_n hC (n := 9) (k := 0) (dc_X3_make 9 (19, .aload_n 0, 1) rfl rfl) rfl rfl,
    st_aload_n hC (n := 10) (k := 0) (dc_X3_make 10 (20, .aload_n 0, 1) rfl rfl) rfl rfl,
    st_getI hC (n := 11) (k := 3) (j := 7) (dc_X3_make 11 (21, .getfield 34, 3) rfl rfl) rfl clf_3 (by decide) rfl wd_319,
    st_aload_n hC (n := 12) (k := 1) (dc_X3_make 12 (24, .aload_n 1, 1) rfl rfl) rfl rfl,
    st_getR hC (n := 13) (k := 6) (j := 11) (dc_X3_make 13 (25, .getfield 64, 3) rfl rfl) rfl clf_6 (by decide) rfl (by decide) wd_611,
    st_getR hC (n := 14) (k := 1) (j := 1) (dc_X3_make 14 (28, .getfield 74, 3) rfl rfl) rfl clf_1 (by decide) rfl (by decide) wd_468,
    st_iload_n hC (n := 15) (k := 2) (dc_X3_make 15 (31, .iload_n 2, 1) rfl rfl) rfl rfl,
    st_iald hC (n := 16) (dc_X3_make 16 (32, .iaload, 1) rfl rfl) rfl,
    st_isub hC (n := 17) (dc_X3_make 17 (33, .isub, 1) rfl rfl) rfl,
    st_putI hC (n := 18) (k := 3) (j := 6) (dc_X3_make 18 (34, .putfield 31, 3) rfl rfl) rfl clf_3 (by decide) rfl rfl rfl wd_318,
    st_aload_n hC (n := 19) (k := 0) (dc_X3_make 19 (37, .aload_n 0, 1) rfl rfl) rfl rfl,
    st_aload_n hC (n := 20) (k := 0) (dc_X3_make 20 (38, .aload_n 0, 1) rfl rfl) rfl rfl,
    st_getI hC (n := 21) (k := 3) (j := 6) (dc_X3_make 21 (39, .getfield 31, 3) rfl rfl) rfl clf_3 (by decide) rfl wd_318,
    st_aload_n hC (n := 22) (k := 0) (dc_X3_make 22 (42, .aload_n 0, 1) rfl rfl) rfl rfl,
    st_getI hC (n := 23) (k := 3) (j := 7) (dc_X3_make 23 (43, .getfield 34, 3) rfl rfl) rfl clf_3 (by decide) rfl wd_319,
    st_iload hC (n := 24) (dc_X3_make 24 (46, .iload 4, 2) rfl rfl) rfl,
    st_sipush hC (n := 25) (x := 999) (dc_X3_make 25 (48, .sipush 999, 3) rfl rfl) rfl (by decide),
    st_aload_n hC (n := 26) (k := 1) (dc_X3_make 26 (51, .aload_n 1, 1) rfl rfl) rfl rfl,
    st_getR hC (n := 27) (k := 6) (j := 11) (dc_X3_make 27 (52, .getfield 64, 3) rfl rfl) rfl clf_6 (by decide) rfl (by decide) wd_611,
    st_getI hC (n := 28) (k := 1) (j := 4) (dc_X3_make 28 (55, .getfield 77, 3) rfl rfl) rfl clf_1 (by decide) rfl wd_478,
    st_isub hC (n := 29) (dc_X3_make 29 (58, .isub, 1) rfl rfl) rfl,
    st_callS hC (n := 30) (na := 2) (con_J9_min_7cf53 l) (dc_X3_make 30 (59, .invokestatic 80, 3) rfl rfl) rfl wd_855 wd_162 (by decide) ⟨rfl, rfl, by decide, by decide⟩ hM wd_1278 wd_854,
    st_imul hC (n := 31) (dc_X3_make 31 (62, .imul, 1) rfl rfl) rfl,
    st_iadd hC (n := 32) (dc_X3_make 32 (63, .iadd, 1) rfl rfl) rfl,
    st_putI hC (n := 33) (k := 3) (j := 8) (dc_X3_make 33 (64, .putfield 37, 3) rfl rfl) rfl clf_3 (by decide) rfl rfl rfl wd_320,
    st_aload_n hC (n := 34) (k := 0) (dc_X3_make 34 (67, .aload_n 0, 1) rfl rfl) rfl rfl,
    st_aload_n hC (n := 35) (k := 1) (dc_X3_make 35 (68, .aload_n 1, 1) rfl rfl) rfl rfl,
    st_iload_n hC (n := 36) (k := 3) (dc_X3_make 36 (69, .iload_n 3, 1) rfl rfl) rfl rfl,
    st_callV hC (n := 37) (k := 6) (na := 1) (con_X6_barNow l) (dc_X3_make 37 (70, .invokevirtual 86, 3) rfl rfl) rfl wd_1056 wd_155 (by decide) ⟨rfl, rfl, by decide, by decide⟩ hM wd_1279 wd_1054 wd_1055 clf_6,
    st_putI hC (n := 38) (k := 3) (j := 9) (dc_X3_make 38 (73, .putfield 40, 3) rfl rfl) rfl clf_3 (by decide) rfl rfl rfl wd_321,
    st_aload_n hC (n := 39) (k := 0) (dc_X3_make 39 (76, .aload_n 0, 1) rfl rfl) rfl rfl,
    st_aload_n hC (n := 40) (k := 1) (dc_X3_make 40 (77, .aload_n 1, 1) rfl rfl) rfl rfl,
    st_getR hC (n := 41) (k := 6) (j := 4) (dc_X3_make 41 (78, .getfield 90, 3) rfl rfl) rfl clf_6 (by decide) rfl (by decide) wd_589,
    st_iload_n hC (n := 42) (k := 3) (dc_X3_make 42 (81, .iload_n 3, 1) rfl rfl) rfl rfl,
    st_iald hC (n := 43) (dc_X3_make 43 (82, .iaload, 1) rfl rfl) rfl,
    st_putI hC (n := 44) (k := 3) (j := 10) (dc_X3_make 44 (83, .putfield 43, 3) rfl rfl) rfl clf_3 (by decide) rfl rfl rfl wd_322,
    st_aload_n hC (n := 45) (k := 0) (dc_X3_make 45 (86, .aload_n 0, 1) rfl rfl) rfl rfl,
    st_iconst hC (n := 46) (x := (-1)) (dc_X3_make 46 (87, .iconst (-1), 1) rfl rfl) rfl (by decide),
    st_putI hC (n := 47) (k := 3) (j := 13) (dc_X3_make 47 (88, .putfield 52, 3) rfl rfl) rfl clf_3 (by decide) rfl rfl rfl wd_327,
    st_aload_n hC (n := 48) (k := 0) (dc_X3_make 48 (91, .aload_n 0, 1) rfl rfl) rfl rfl,
    st_iconst hC (n := 49) (x := 0) (dc_X3_make 49 (92, .iconst 0, 1) rfl rfl) rfl (by decide),
    st_putI hC (n := 50) (k := 3) (j := 16) (dc_X3_make 50 (93, .putfield 61, 3) rfl rfl) rfl clf_3 (by decide) rfl rfl rfl wd_333,
    st_aload_n hC (n := 51) (k := 0) (dc_X3_make 51 (96, .aload_n 0, 1) rfl rfl) rfl rfl,
    st_aload_n hC (n := 52) (k := 1) (dc_X3_make 52 (97, .aload_n 1, 1) rfl rfl) rfl rfl,
    st_iload_n hC (n := 53) (k := 2) (dc_X3_make 53 (98, .iload_n 2, 1) rfl rfl) rfl rfl,
    st_iload_n hC (n := 54) (k := 3) (dc_X3_make 54 (99, .iload_n 3, 1) rfl rfl) rfl rfl,
    st_callV hC (n := 55) (k := 3) (na := 3) (con_X3_gather l) (dc_X3_make 55 (100, .invokevirtual 92, 3) rfl rfl) rfl wd_1283 wd_151 (by decide) ⟨rfl, rfl, by decide, by decide⟩ hM wd_1280 wd_1282 wd_30 clf_3,
    st_aload_n hC (n := 56) (k := 0) (dc_X3_make 56 (103, .aload_n 0, 1) rfl rfl) rfl rfl,
    st_iconst hC (n := 57) (x := 0) (dc_X3_make 57 (104, .iconst 0, 1) rfl rfl) rfl (by decide),
    st_iconst hC (n := 58) (x := 0) (dc_X3_make 58 (105, .iconst 0, 1) rfl rfl) rfl (by decide),
    st_iconst hC (n := 59) (x := 0) (dc_X3_make 59 (106, .iconst 0, 1) rfl rfl) rfl (by decide),
    st_iconst hC (n := 60) (x := 0) (dc_X3_make 60 (107, .iconst 0, 1) rfl rfl) rfl (by decide),
    st_aload_n hC (n := 61) (k := 1) (dc_X3_make 61 (108, .aload_n 1, 1) rfl rfl) rfl rfl,
    st_iload_n hC (n := 62) (k := 2) (dc_X3_make 62 (109, .iload_n 2, 1) rfl rfl) rfl rfl,
    st_iload_n hC (n := 63) (k := 3) (dc_X3_make 63 (110, .iload_n 3, 1) rfl rfl) rfl rfl,
    st_callV hC (n := 64) (k := 6) (na := 2) (con_X6_hears l) (dc_X3_make 64 (111, .invokevirtual 96, 3) rfl rfl) rfl wd_1143 wd_155 (by decide) ⟨rfl, rfl, by decide, by decide⟩ hM wd_1288 wd_1141 wd_1142 clf_6,
    st_callV hC (n := 65) (k := 3) (na := 5) (con_X3_grow l) (dc_X3_make 65 (114, .invokevirtual 99, 3) rfl rfl) rfl wd_1292 wd_151 (by decide) ⟨rfl, rfl, by decide, by decide⟩ hM wd_1289 wd_1291 wd_31 clf_3,
    st_vret hC (n := 66) hR (dc_X3_make 66 (117, .return_, 1) rfl rfl), trivial⟩
set_option maxRecDepth 8000 in
theorem vc_X3_make : VC P_X3_make 5 Pre_X3_make Fn_X3_make := by
  rintro mm as hom hoa ⟨v, ns, nm, nt, s, d, w, hV, hN, hs, hd, rfl⟩
  refine ⟨Nat.le_of_ble_eq_true rfl, fun X h => ?_⟩
  have es : (nI s).toNatClampNeg = s := nI_clamp (by omega)
  have ed : (nI d).toNatClampNeg = d := nI_clamp (by omega)
  replace h : RUN P_X3_make (fun r m' => (r, m') = (none, mkM mm v (nI s).toNatClampNeg (nI d).toNatClampNeg w)) X := h
  rw [es, ed] at h
  obtain ⟨R, eR⟩ : ∃ R, R = mkM mm v s d w := ⟨_, rfl⟩
  rw [← eR] at h
  rw [mkM_eq] at eR
  unfold mkM0 at eR
  have s56 : ∀ M, SM3 mm M → R = mkG v s d M → X 56 [some (vR 3 0), some (vR 6 v), some (vI (nI s)), some (vI (nI d)), some (vI (w))] [] (M) := by
    intro M hM hR
    unfold mkG at hR
    show X 56 [some (vR 3 0), some (vR 6 v), some (vI (nI s)), some (vI (nI d)), some (vI w)] [] M
    refine h (fun _ => false) 3000 56 _ _ _ ?_
    refine And.intro (show Pre_X6_hears M [vR 6 v, vI (nI s), vI (nI d)] from ⟨v, ns, nm, nt, d, VC2_c (abV_3 hM) hV, hd, _, rfl⟩) ?_
    refine And.intro (show Pre_X3_grow M [vR 3 0, vI 0, vI 0, vI 0, vI 0, vI (hdA (abV M v) (nI s) (nI d).toNatClampNeg)] from ⟨0, _, _, _, _, by decide, by decide, rfl⟩) ?_
    show ((none : Option MV), grM M 0 0 0 0 (hdA (abV M v) (nI s) (nI d).toNatClampNeg)) = _
    rw [hR, ed]
  have s51 : ∀ M, SM3 mm M → R = mkG v s d (gaM M v s d) → X 51 [some (vR 3 0), some (vR 6 v), some (vI (nI s)), some (vI (nI d)), some (vI (w))] [] (M) := by
    intro M hM hR
    have z := s56 _ (SM3_g hM) hR
    have hN2 : NDo M v := by
      unfold NDo
      rw [hM 38 v (by decide) (by decide)]
      exact hN
    show X 51 [some (vR 3 0), some (vR 6 v), some (vI (nI s)), some (vI (nI d)), some (vI w)] [] M
    refine h (fun i => Nat.beq i 56) 3000 51 _ _ _ ?_
    refine And.intro (show Pre_X3_gather M [vR 3 0, vR 6 v, vI (nI s), vI (nI d)] from ⟨v, ns, nm, nt, s, d, VC2_c (abV_3 hM) hV, hN2, hs, hd, rfl⟩) ?_
    show X 56 [some (vR 3 0), some (vR 6 v), some (vI (nI s)), some (vI (nI d)), some (vI w)] [] (gaM M v (nI s).toNatClampNeg (nI d).toNatClampNeg)
    rw [es, ed]
    exact z
  have s34 : ∀ M, SM3 mm M → R = mkG v s d (gaM (mkB v d M) v s d) → X 34 [some (vR 3 0), some (vR 6 v), some (vI (nI s)), some (vI (nI d)), some (vI (w))] [] (M) := by
    intro M hM hR
    have z := s51 _ (SM3_t hM (SM3_B v d M)) hR
    unfold mkB at z
    show X 34 [some (vR 3 0), some (vR 6 v), some (vI (nI s)), some (vI (nI d)), some (vI w)] [] M
    refine h (fun i => Nat.beq i 51) 3000 34 _ _ _ ?_
    refine And.intro (show Pre_X6_barNow M [vR 6 v, vI (nI d)] from ⟨v, d, hd, rfl⟩) ?_
    refine And.intro (show inb (nI d) (alen 33) = true from (inb_o 4 rfl rfl rfl (by omega))) ?_
    show X 51 [some (vR 3 0), some (vR 6 v), some (vI (nI s)), some (vI (nI d)), some (vI w)] [] (mI (mI (mI (mI M 3 0 9 (brA (abV M v) (nI d).toNatClampNeg (abV M v 6))) 3 0 10 (M.1 33 v ((nI d).toNatClampNeg))) 3 0 13 (-1)) 3 0 16 0)
    (try simp only [ed])
    exact z
  have z := s34 _ (SM3_A mm v s w) eR
  unfold mkA at z
  show X 0 [some (vR 3 0), some (vR 6 v), some (vI (nI s)), some (vI (nI d)), some (vI w)] [] mm
  refine h (fun i => Nat.beq i 34) 3000 0 _ _ _ ?_
  refine And.intro (show inb (nI s) (alen 17) = true from (inb_o 4 rfl rfl rfl (by omega))) ?_
  refine And.intro (show Pre_J9_min_7cf53 (mI (mI (mI mm 3 0 5 (mm.1 1 v 5)) 3 0 7 (mm.1 6 v 17)) 3 0 6 ((mm.1 6 v 17) - (mm.1 17 v ((nI s).toNatClampNeg)))) [vI w, vI (999 - (mm.1 1 v 4))] from ⟨_, _, rfl⟩) ?_
  show X 34 [some (vR 3 0), some (vR 6 v), some (vI (nI s)), some (vI (nI d)), some (vI w)] [] (mI (mI (mI (mI mm 3 0 5 (mm.1 1 v 5)) 3 0 7 (mm.1 6 v 17)) 3 0 6 ((mm.1 6 v 17) - (mm.1 17 v ((nI s).toNatClampNeg)))) 3 0 8 (((mm.1 6 v 17) - (mm.1 17 v ((nI s).toNatClampNeg))) + ((mm.1 6 v 17) * (if (999 - (mm.1 1 v 4)) < w then (999 - (mm.1 1 v 4)) else w))))
  (try simp only [es])
  exact z
theorem con_X3_make (l : Launch) : CON l y_X3_make prog_5_method_2_code 5 none rm_X3_make Pre_X3_make Fn_X3_make := CON_of (by decide) rfl rfl (sa_X3_make l) vc_X3_make
end
