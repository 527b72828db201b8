/-! PART 52: the model: a STEP is done; tests; ends */ -/

/-- a line of the YEARS, as the model lays it -/
def YL (a : Nat → Int32) (ns nm nt L k : Nat) : Prop :=
  (a (146 + 6 * k) = 16 ∨ a (146 + 6 * k) = 17 ∨ a (146 + 6 * k) = 19 → ∃ t, t < nt ∧ a (147 + 6 * k) = nI t) ∧
  (a (146 + 6 * k) = 18 ∨ a (146 + 6 * k) = 21 ∨ ¬ a (146 + 6 * k) < 2300 → ∃ s, s < ns ∧ a (147 + 6 * k) = nI s) ∧
  (a (146 + 6 * k) = 21 ∨ (¬ a (146 + 6 * k) < 2300 ∧ ¬ a (146 + 6 * k) - 2300 = 29) → ∃ d, d < nm ∧ a (148 + 6 * k) = nI d) ∧
  (a (146 + 6 * k) = 24 → ∃ q, 1 ≤ q ∧ q ≤ 99 ∧ a (147 + 6 * k) = nI q) ∧
  (a (146 + 6 * k) = 25 → ∃ o, o < k ∧ a (150 + 6 * k) = nI o ∧ (a (146 + 6 * (o + 1)) = 25 → o + 1 = k)) ∧
  (¬ a (146 + 6 * k) < 2300 → ∃ e, e < L ∧ a (150 + 6 * k) = nI e)
def YP (a : Nat → Int32) (ns nm nt L : Nat) : Prop := a 10 = nI L ∧ L ≤ 60 ∧ ∀ k, k < L → YL a ns nm nt L k
def pMi (p : Prop) [Decidable p] (a b : MM) : PR := if p then (true, a) else (false, b)
theorem PR_m {p : Prop} [Decidable p] {a b : MM} {q : PR} (h : q = pMi p a b) : ((some (vI (bI p)) : Option MV), mite p a b) = (some (vI (bI (q.1 = true))), q.2) := by
  rw [h]
  unfold pMi
  by_cases hp : p
  · rw [bI_t hp, mite_t hp, if_pos hp]; rfl
  · rw [bI_f hp, mite_f hp, if_neg hp]; rfl
def wkP (m : MM) : PR := pMi (¬ m.1 54 0 6 = 999) (mI (atM m (wkA (m.1 54 0))) 70 0 1 (m.1 70 0 1 + 1)) m
def wdP2 (m : MM) (i d : Nat) : PR := pMi (wdP (m.1 54 0) i d) (mI (atM m (wdA (m.1 54 0) i d)) 70 0 3 (m.1 70 0 3 + 1)) m
def doQ (m : MM) (c one two : Int32) : PR := if c = 16 then pbP m one.toNatClampNeg else if c = 17 then pMi (mgA (m.1 54 0) one.toNatClampNeg) (putA m 9 one.toNatClampNeg) m else if c = 18 then pGa m one else if c = 19 then pMi (cbP (m.1 54 0) one.toNatClampNeg) (atM m (cbA (m.1 54 0) one.toNatClampNeg)) m else if c = 20 then wkP m else if c = 21 then wdP2 m one.toNatClampNeg two.toNatClampNeg else (true, m)
def doP (m : MM) (k : Nat) : PR := doQ m (m.1 54 0 (146 + 6 * k)) (m.1 54 0 (147 + 6 * k)) (m.1 54 0 (148 + 6 * k))

def Pre_X12_does : PreT := fun m as => ∃ ns nm nt L d k, VMx m ns nm nt ∧ YP (m.1 54 0) ns nm nt L ∧ m.1 12 0 34 = nI d ∧ d < 65536 ∧ k < L ∧ as = [vR 12 0, vI (nI (146 + 6 * k))]
def Fn_X12_does : FnT := fun m as => match as with
  | [_, Sum.inl r] => (some (vI (bI ((doP m ((r.toNatClampNeg - 146) / 6)).1 = true))), (doP m ((r.toNatClampNeg - 146) / 6)).2)
  | _ => (none, m)
--tpl rfl || bI ((doP {m} (({1n} - 146) / 6)).1 = true) || (doP {m} (({1n} - 146) / 6)).2
abbrev y_X12_does : MethodName := ⟨"GivenUpModel", "does", "(I)Z"⟩
def P_X12_does : List StpT := [s_aload 0, s_getR 12 0 54, s_iload 1, s_ic (1), s_iadd, s_iald, s_istore 2, s_aload 0, s_getR 12 0 54, s_iload 1, s_iald, s_sw (tsw (16) [12, 16, 21, 25, 29, 44]) 66, s_aload 0, s_iload 2, s_callV 12 1 Pre_X12_partsBy Fn_X12_partsBy, s_zret, s_aload 0, s_iload 2, s_ic (9), s_callV 12 2 Pre_X12_parts Fn_X12_parts, s_zret, s_aload 0, s_iload 2, s_callV 12 1 Pre_X12_givesAny Fn_X12_givesAny, s_zret, s_aload 0, s_iload 2, s_callV 12 1 Pre_X12_comesBack Fn_X12_comesBack, s_zret, s_aload 0, s_callV 12 0 Pre_X12_goesBy Fn_X12_goesBy, s_ifne 34, s_ic (0), s_zret, s_aload 0, s_getR 12 37 70, s_ic (1), s_dup2, s_iald, s_ic (1), s_iadd, s_iast, s_ic (1), s_zret, s_aload 0, s_iload 2, s_aload 0, s_getR 12 0 54, s_iload 1, s_ic (2), s_iadd, s_iald, s_callV 12 2 Pre_X12_weds Fn_X12_weds, s_ifne 56, s_ic (0), s_zret, s_aload 0, s_getR 12 37 70, s_ic (3), s_dup2, s_iald, s_ic (1), s_iadd, s_iast, s_ic (1), s_zret, s_ic (1), s_zret]
def pc_X12_does : Nat → Nat := fun i => [0, 1, 4, 5, 6, 7, 8, 9, 10, 13, 14, 15, 52, 53, 54, 57, 58, 59, 60, 62, 65, 66, 67, 68, 71, 72, 73, 74, 77, 78, 79, 82, 85, 86, 87, 88, 91, 92, 93, 94, 95, 96, 97, 98, 99, 100, 101, 102, 105, 106, 107, 108, 109, 112, 115, 116, 117, 118, 121, 122, 123, 124, 125, 126, 127, 128, 129, 130].getD i 0
def dl_X12_does : List (Nat × Instr × Nat) := [(0, .aload_n 0, 1), (1, .getfield 7, 3), (4, .iload_n 1, 1), (5, .iconst 1, 1), (6, .iadd, 1), (7, .iaload, 1), (8, .istore_n 2, 1), (9, .aload_n 0, 1), (10, .getfield 7, 3), (13, .iload_n 1, 1), (14, .iaload, 1), (15, .tableswitch 114 16 21 #[37, 43, 51, 57, 63, 84], 37), (52, .aload_n 0, 1), (53, .iload_n 2, 1), (54, .invokevirtual 461, 3), (57, .ireturn, 1), (58, .aload_n 0, 1), (59, .iload_n 2, 1), (60, .bipush 9, 2), (62, .invokevirtual 328, 3), (65, .ireturn, 1), (66, .aload_n 0, 1), (67, .iload_n 2, 1), (68, .invokevirtual 464, 3), (71, .ireturn, 1), (72, .aload_n 0, 1), (73, .iload_n 2, 1), (74, .invokevirtual 358, 3), (77, .ireturn, 1), (78, .aload_n 0, 1), (79, .invokevirtual 340, 3), (82, .ifCond .ne 5, 3), (85, .iconst 0, 1), (86, .ireturn, 1), (87, .aload_n 0, 1), (88, .getfield 71, 3), (91, .iconst 1, 1), (92, .dup2, 1), (93, .iaload, 1), (94, .iconst 1, 1), (95, .iadd, 1), (96, .iastore, 1), (97, .iconst 1, 1), (98, .ireturn, 1), (99, .aload_n 0, 1), (100, .iload_n 2, 1), (101, .aload_n 0, 1), (102, .getfield 7, 3), (105, .iload_n 1, 1), (106, .iconst 2, 1), (107, .iadd, 1), (108, .iaload, 1), (109, .invokevirtual 346, 3), (112, .ifCond .ne 5, 3), (115, .iconst 0, 1), (116, .ireturn, 1), (117, .aload_n 0, 1), (118, .getfield 71, 3), (121, .iconst 3, 1), (122, .dup2, 1), (123, .iaload, 1), (124, .iconst 1, 1), (125, .iadd, 1), (126, .iastore, 1), (127, .iconst 1, 1), (128, .ireturn, 1), (129, .iconst 1, 1), (130, .ireturn, 1)]
theorem dc_X12_does : DEC prog_14_method_156_code pc_X12_does dl_X12_does := DEC_of (by decide +kernel)
abbrev rm_X12_does : Room := { frames := 6, cells := 0, slots := 0, locals := 131 }
set_option maxRecDepth 20000 in
theorem sa_X12_does (l : Launch) : SNDALL l prog_14_method_156_code "GivenUpModel" 3 (some .boolean) rm_X12_does P_X12_does pc_X12_does := fun p e s m args below meth c cells slots Q D dA ad A RR hC hR => by
  have hM := RTX_room (R := rm_X12_does) hR
  exact ⟨st_aload_n hC (n := 0) (k := 0) (dc_X12_does 0 (0, .aload_n 0, 1) rfl rfl) rfl rfl,
    st_getR hC (n := 1) (k := 12) (j := 0) (dc_X12_does 1 (1, .getfield 7, 3) rfl rfl) rfl clf_12 (by decide) rfl (by decide) wd_1552,
    st_iload_n hC (n := 2) (k := 1) (dc_X12_does 2 (4, .iload_n 1, 1) rfl rfl) rfl rfl,
    st_iconst hC (n := 3) (x := 1) (dc_X12_does 3 (5, .iconst 1, 1) rfl rfl) rfl (by decide),
    st_iadd hC (n := 4) (dc_X12_does 4 (6, .iadd, 1) rfl rfl) rfl,
    st_iald hC (n := 5) (dc_X12_does 5 (7, .iaload, 1) rfl rfl) rfl,
    st_istore_n hC (n := 6) (k := 2) (dc_X12_does 6 (8, .istore_n 2, 1) rfl rfl) rfl rfl (by decide),
    st_aload_n hC (n := 7) (k := 0) (dc_X12_does 7 (9, .aload_n 0, 1) rfl rfl) rfl rfl,
    st_getR hC (n := 8) (k := 12) (j := 0) (dc_X12_does 8 (10, .getfield 7, 3) rfl rfl) rfl clf_12 (by decide) rfl (by decide) wd_1552,
    st_iload_n hC (n := 9) (k := 1) (dc_X12_does 9 (13, .iload_n 1, 1) rfl rfl) rfl rfl,
    st_iald hC (n := 10) (dc_X12_does 10 (14, .iaload, 1) rfl rfl) rfl,
    st_table hC (n := 11) (ts := [12, 16, 21, 25, 29, 44]) (dc_X12_does 11 (15, .tableswitch 114 16 21 #[37, 43, 51, 57, 63, 84], 37) rfl rfl) (by decide) (by decide) (by decide) (by decide) (swt_of _ _ _ (by decide +kernel)),
    st_aload_n hC (n := 12) (k := 0) (dc_X12_does 12 (52, .aload_n 0, 1) rfl rfl) rfl rfl,
    st_iload_n hC (n := 13) (k := 2) (dc_X12_does 13 (53, .iload_n 2, 1) rfl rfl) rfl rfl,
    st_callV hC (n := 14) (k := 12) (na := 1) (con_X12_partsBy l) (dc_X12_does 14 (54, .invokevirtual 461, 3) rfl rfl) rfl wd_2292 wd_160 (by decide) ⟨rfl, rfl, by decide, by decide⟩ hM wd_2289 wd_2291 wd_136 clf_12,
    st_zret hC (n := 15) hR (dc_X12_does 15 (57, .ireturn, 1) rfl rfl),
    st_aload_n hC (n := 16) (k := 0) (dc_X12_does 16 (58, .aload_n 0, 1) rfl rfl) rfl rfl,
    st_iload_n hC (n := 17) (k := 2) (dc_X12_does 17 (59, .iload_n 2, 1) rfl rfl) rfl rfl,
    st_bipush hC (n := 18) (x := 9) (dc_X12_does 18 (60, .bipush 9, 2) rfl rfl) rfl (by decide),
    st_callV hC (n := 19) (k := 12) (na := 2) (con_X12_parts l) (dc_X12_does 19 (62, .invokevirtual 328, 3) rfl rfl) rfl wd_1977 wd_160 (by decide) ⟨rfl, rfl, by decide, by decide⟩ hM wd_1974 wd_1976 wd_100 clf_12,
    st_zret hC (n := 20) hR (dc_X12_does 20 (65, .ireturn, 1) rfl rfl),
    st_aload_n hC (n := 21) (k := 0) (dc_X12_does 21 (66, .aload_n 0, 1) rfl rfl) rfl rfl,
    st_iload_n hC (n := 22) (k := 2) (dc_X12_does 22 (67, .iload_n 2, 1) rfl rfl) rfl rfl,
    st_callV hC (n := 23) (k := 12) (na := 1) (con_X12_givesAny l) (dc_X12_does 23 (68, .invokevirtual 464, 3) rfl rfl) rfl wd_2296 wd_160 (by decide) ⟨rfl, rfl, by decide, by decide⟩ hM wd_2293 wd_2295 wd_137 clf_12,
    st_zret hC (n := 24) hR (dc_X12_does 24 (71, .ireturn, 1) rfl rfl),
    st_aload_n hC (n := 25) (k := 0) (dc_X12_does 25 (72, .aload_n 0, 1) rfl rfl) rfl rfl,
    st_iload_n hC (n := 26) (k := 2) (dc_X12_does 26 (73, .iload_n 2, 1) rfl rfl) rfl rfl,
    st_callV hC (n := 27) (k := 12) (na := 1) (con_X12_comesBack l) (dc_X12_does 27 (74, .invokevirtual 358, 3) rfl rfl) rfl wd_2057 wd_160 (by decide) ⟨rfl, rfl, by decide, by decide⟩ hM wd_2054 wd_2056 wd_111 clf_12,
    st_zret hC (n := 28) hR (dc_X12_does 28 (77, .ireturn, 1) rfl rfl),
    st_aload_n hC (n := 29) (k := 0) (dc_X12_does 29 (78, .aload_n 0, 1) rfl rfl) rfl rfl,
    st_callV hC (n := 30) (k := 12) (na := 0) (con_X12_goesBy l) (dc_X12_does 30 (79, .invokevirtual 340, 3) rfl rfl) rfl wd_2013 wd_160 (by decide) ⟨rfl, rfl, by decide, by decide⟩ hM wd_2010 wd_2012 wd_105 clf_12,
    st_ifne hC (n := 31) (dc_X12_does 31 (82, .ifCond .ne 5, 3) rfl rfl) rfl (by decide),
    st_iconst hC (n := 32) (x := 0) (dc_X12_does 32 (85, .iconst 0, 1) rfl rfl) rfl (by decide),
    st_zret hC (n := 33) hR (dc_X12_does 33 (86, .ireturn, 1) rfl rfl),
    st_aload_n hC (n := 34) (k := 0) (dc_X12_does 34 (87, .aload_n 0, 1) rfl rfl) rfl rfl,
    st_getR hC (n := 35) (k := 12) (j := 37) (dc_X12_does 35 (88, .getfield 71, 3) rfl rfl) rfl clf_12 (by decide) rfl (by decide) wd_1589,
    st_iconst hC (n := 36) (x := 1) (dc_X12_does 36 (91, .iconst 1, 1) rfl rfl) rfl (by decide),
    st_dup2 hC (n := 37) (dc_X12_does 37 (92, .dup2, 1) rfl rfl) rfl,
    st_iald hC (n := 38) (dc_X12_does 38 (93, .iaload, 1) rfl rfl) rfl,
    st_iconst hC (n := 39) (x := 1) (dc_X12_does 39 (94, .iconst 1, 1) rfl rfl) rfl (by decide),
    st_iadd hC (n := 40) (dc_X12_does 40 (95, .iadd, 1) rfl rfl) rfl,
    st_iast hC (n := 41) (dc_X12_does 41 (96, .iastore, 1) rfl rfl) rfl,
    st_iconst hC (n := 42) (x := 1) (dc_X12_does 42 (97, .iconst 1, 1) rfl rfl) rfl (by decide),
    st_zret hC (n := 43) hR (dc_X12_does 43 (98, .ireturn, 1) rfl rfl),
    st_aload_n hC (n := 44) (k := 0) (dc_X12_does 44 (99, .aload_n 0, 1) rfl rfl) rfl rfl,
    st_iload_n hC (n := 45) (k := 2) (dc_X12_does 45 (100, .iload_n 2, 1) rfl rfl) rfl rfl,
    st_aload_n hC (n := 46) (k := 0) (dc_X12_does 46 (101, .aload_n 0, 1) rfl rfl) rfl rfl,
    st_getR hC (n := 47) (k := 12) (j := 0) (dc_X12_does 47 (102, .getfield 7, 3) rfl rfl) rfl clf_12 (by decide) rfl (by decide) wd_1552,
    st_iload_n hC (n := 48) (k := 1) (dc_X12_does 48 (105, .iload_n 1, 1) rfl rfl) rfl rfl,
    st_iconst hC (n := 49) (x := 2) (dc_X12_does 49 (106, .iconst 2, 1) rfl rfl) rfl (by decide),
    st_iadd hC (n := 50) (dc_X12_does 50 (107, .iadd, 1) rfl rfl) rfl,
    st_iald hC (n := 51) (dc_X12_does 51 (108, .iaload, 1) rfl rfl) rfl,
    st_callV hC (n := 52) (k := 12) (na := 2) (con_X12_weds l) (dc_X12_does 52 (109, .invokevirtual 346, 3) rfl rfl) rfl wd_2049 wd_160 (by decide) ⟨rfl, rfl, by decide, by decide⟩ hM wd_2046 wd_2048 wd_110 clf_12,
    st_ifne hC (n := 53) (dc_X12_does 53 (112, .ifCond .ne 5, 3) rfl rfl) rfl (by decide),
    st_iconst hC (n := 54) (x := 0) (dc_X12_does 54 (115, .iconst 0, 1) rfl rfl) rfl (by decide),
    st_zret hC (n := 55) hR (dc_X12_does 55 (116, .ireturn, 1) rfl rfl),
    st_aload_n hC (n := 56) (k := 0) (dc_X12_does 56 (117, .aload_n 0, 1) rfl rfl) rfl rfl,
    st_getR hC (n := 57) (k := 12) (j := 37) (dc_X12_does 57 (118, .getfield 71, 3) rfl rfl) rfl clf_12 (by decide) rfl (by decide) wd_1589,
    st_iconst hC (n := 58) (x := 3) (dc_X12_does 58 (121, .iconst 3, 1) rfl rfl) rfl (by decide),
    st_dup2 hC (n := 59) (dc_X12_does 59 (122, .dup2, 1) rfl rfl) rfl,
    st_iald hC (n := 60) (dc_X12_does 60 (123, .iaload, 1) rfl rfl) rfl,
    st_iconst hC (n := 61) (x := 1) (dc_X12_does 61 (124, .iconst 1, 1) rfl rfl) rfl (by decide),
    st_iadd hC (n := 62) (dc_X12_does 62 (125, .iadd, 1) rfl rfl) rfl,
    st_iast hC (n := 63) (dc_X12_does 63 (126, .iastore, 1) rfl rfl) rfl,
    st_iconst hC (n := 64) (x := 1) (dc_X12_does 64 (127, .iconst 1, 1) rfl rfl) rfl (by decide),
    st_zret hC (n := 65) hR (dc_X12_does 65 (128, .ireturn, 1) rfl rfl),
    st_iconst hC (n := 66) (x := 1) (dc_X12_does 66 (129, .iconst 1, 1) rfl rfl) rfl (by decide),
    st_zret hC (n := 67) hR (dc_X12_does 67 (130, .ireturn, 1) rfl rfl), trivial⟩
set_option maxRecDepth 8000 in
theorem vc_X12_does : VC P_X12_does 3 Pre_X12_does Fn_X12_does := by
  rintro mm as hom hoa ⟨ns, nm, nt, L, d, k, hV, ⟨hL, hL60, hY⟩, hd, hd2, hk, rfl⟩
  refine ⟨Nat.le_of_ble_eq_true rfl, fun X h => ?_⟩
  have hM : VM mm := ⟨ns, nm, nt, hV⟩
  have hns : ns ≤ 4 := hV.1.2
  have hnm : nm ≤ 4 := hV.2.1.2
  have hnt : nt ≤ 12 := hV.2.2.1.2
  obtain ⟨y1, y2, y3, y4, y5, y6⟩ := hY k hk
  obtain ⟨r, hr⟩ : ∃ r, r = 146 + 6 * k := ⟨_, rfl⟩
  have er : (nI r).toNatClampNeg = r := nI_clamp (by omega)
  have x1 : (nI r + 1).toNatClampNeg = r + 1 := by rw [nI_1]; exact nI_clamp (by omega)
  have x2 : (nI r + 2).toNatClampNeg = r + 2 := by rw [show (2 : Int32) = nI 2 from rfl, nI_add]; exact nI_clamp (by omega)
  replace h : RUN P_X12_does (RT (doP mm (((nI (146 + 6 * k)).toNatClampNeg - 146) / 6))) X := h
  rw [show ((nI (146 + 6 * k)).toNatClampNeg - 146) / 6 = k by rw [nI_clamp (by omega)]; omega] at h
  unfold doP at h
  rw [show 147 + 6 * k = r + 1 by omega, show 148 + 6 * k = r + 2 by omega, ← hr] at h
  rw [show 147 + 6 * k = r + 1 by omega, ← hr] at y1 y2
  rw [show 148 + 6 * k = r + 2 by omega, ← hr] at y3
  rw [← hr]
  obtain ⟨one, h1⟩ : ∃ one, one = mm.1 54 0 (r + 1) := ⟨_, rfl⟩
  obtain ⟨two, h2⟩ : ∃ two, two = mm.1 54 0 (r + 2) := ⟨_, rfl⟩
  rw [← h1, ← h2] at h
  rw [← h1] at y1 y2
  rw [← h2] at y3
  suffices z : X 7 [some (vR 12 0), some (vI (nI r)), some (vI (one))] [] mm by
    show X 0 [some (vR 12 0), some (vI (nI r)), none] [] mm
    refine h (fun i => Nat.beq i 7) 3000 0 _ _ _ ?_
    refine And.intro (show inb ((nI r) + 1) (alen 54) = true from (inb_o 3060 rfl rfl (nI_1 r) (by omega))) ?_
    show X 7 [some (vR 12 0), some (vI (nI r)), some (vI (mm.1 54 0 (((nI r) + 1).toNatClampNeg)))] [] mm
    (try simp only [x1])
    rw [← h1]
    exact z
  have g16 : mm.1 54 0 r = 16 → X 12 [some (vR 12 0), some (vI (nI r)), some (vI (one))] [] mm := by
    intro hc
    obtain ⟨t, ht, e⟩ := y1 (Or.inl hc)
    subst e
    unfold doQ at h
    rw [if_pos hc] at h
    show X 12 [some (vR 12 0), some (vI (nI r)), some (vI (nI t))] [] mm
    refine h (fun _ => false) 3000 12 _ _ _ ?_
    refine And.intro (show Pre_X12_partsBy mm [vR 12 0, vI (nI t)] from ⟨ns, nm, nt, t, hV, ht, rfl⟩) ?_
    refine And.intro bI_in ?_
    show ((some (vI (bI ((pbP mm (nI t).toNatClampNeg).1 = true))) : Option MV), (pbP mm (nI t).toNatClampNeg).2) = _
    exact PR_q rfl
  have g17 : mm.1 54 0 r = 17 → X 16 [some (vR 12 0), some (vI (nI r)), some (vI (one))] [] mm := by
    intro hc
    obtain ⟨t, ht, e⟩ := y1 (Or.inr (Or.inl hc))
    subst e
    unfold doQ at h
    rw [if_neg (by rw [hc]; decide), if_pos hc] at h
    show X 16 [some (vR 12 0), some (vI (nI r)), some (vI (nI t))] [] mm
    refine h (fun _ => false) 3000 16 _ _ _ ?_
    refine And.intro (show Pre_X12_parts mm [vR 12 0, vI (nI t), vI 9] from ⟨ns, nm, nt, t, 9, hV, ht, Or.inr rfl, rfl⟩) ?_
    refine And.intro bI_in ?_
    show ((some (vI (bI (mgA (mm.1 54 0) (nI t).toNatClampNeg))) : Option MV), mite (mgA (mm.1 54 0) (nI t).toNatClampNeg) (putA mm 9 (nI t).toNatClampNeg) mm) = _
    exact PR_m rfl
  have g18 : mm.1 54 0 r = 18 → X 21 [some (vR 12 0), some (vI (nI r)), some (vI (one))] [] mm := by
    intro hc
    unfold doQ at h
    rw [if_neg (by rw [hc]; decide), if_neg (by rw [hc]; decide), if_pos hc] at h
    show X 21 [some (vR 12 0), some (vI (nI r)), some (vI one)] [] mm
    refine h (fun _ => false) 3000 21 _ _ _ ?_
    refine And.intro (show Pre_X12_givesAny mm [vR 12 0, vI one] from ⟨ns, nm, nt, d, hV, hd, hd2, _, rfl⟩) ?_
    refine And.intro bI_in ?_
    show ((some (vI (bI ((pGa mm one).1 = true))) : Option MV), (pGa mm one).2) = _
    exact PR_q rfl
  have g19 : mm.1 54 0 r = 19 → X 25 [some (vR 12 0), some (vI (nI r)), some (vI (one))] [] mm := by
    intro hc
    obtain ⟨t, ht, e⟩ := y1 (Or.inr (Or.inr hc))
    subst e
    unfold doQ at h
    rw [if_neg (by rw [hc]; decide), if_neg (by rw [hc]; decide), if_neg (by rw [hc]; decide), if_pos hc] at h
    show X 25 [some (vR 12 0), some (vI (nI r)), some (vI (nI t))] [] mm
    refine h (fun _ => false) 3000 25 _ _ _ ?_
    refine And.intro (show Pre_X12_comesBack mm [vR 12 0, vI (nI t)] from ⟨ns, nm, nt, t, hV, ht, rfl⟩) ?_
    refine And.intro bI_in ?_
    show ((some (vI (bI (cbP (mm.1 54 0) (nI t).toNatClampNeg))) : Option MV), mite (cbP (mm.1 54 0) (nI t).toNatClampNeg) (atM mm (cbA (mm.1 54 0) (nI t).toNatClampNeg)) mm) = _
    exact PR_m rfl
  have g20 : mm.1 54 0 r = 20 → X 29 [some (vR 12 0), some (vI (nI r)), some (vI (one))] [] mm := by
    intro hc
    unfold doQ wkP at h
    rw [if_neg (by rw [hc]; decide), if_neg (by rw [hc]; decide), if_neg (by rw [hc]; decide), if_neg (by rw [hc]; decide), if_pos hc] at h
    suffices z : ¬ mm.1 54 0 6 = 999 → X 34 [some (vR 12 0), some (vI (nI r)), some (vI (one))] [] (atM mm (wkA (mm.1 54 0))) by
      show X 29 [some (vR 12 0), some (vI (nI r)), some (vI one)] [] mm
      refine h (fun i => Nat.beq i 34) 3000 29 _ _ _ ?_
      refine And.intro (show Pre_X12_goesBy mm [vR 12 0] from ⟨hM, rfl⟩) ?_
      refine brn_c (fun b31 => ?_) (fun b31 => ?_)
      · -- 31: bI (¬ mm.1 54 0 6 = 999) = 0 taken
        replace b31 : ¬ mm.1 54 0 6 = 999 := bI_n0.mp b31
        show X 34 [some (vR 12 0), some (vI (nI r)), some (vI one)] [] (mite (¬ mm.1 54 0 6 = 999) (atM mm (wkA (mm.1 54 0))) mm)
        rw [mite_t b31]
        exact z b31
      · -- 31: bI (¬ mm.1 54 0 6 = 999) = 0 on
        replace b31 : ¬ (¬ mm.1 54 0 6 = 999) := bI_0.mp b31
        refine And.intro (Or.inl rfl) ?_
        show ((some (vI 0) : Option MV), mite (¬ mm.1 54 0 6 = 999) (atM mm (wkA (mm.1 54 0))) mm) = _
        rw [mite_f b31]
        exact PR_f (if_neg b31)
    intro hw
    show X 34 [some (vR 12 0), some (vI (nI r)), some (vI one)] [] (atM mm (wkA (mm.1 54 0)))
    refine h (fun _ => false) 3000 34 _ _ _ ?_
    refine And.intro (show inb 1 (alen 70) = true from rfl) ?_
    refine And.intro (show inb 1 (alen 70) = true from rfl) ?_
    refine And.intro (Or.inr rfl) ?_
    show ((some (vI 1) : Option MV), mRow (atM mm (wkA (mm.1 54 0))) 70 0 (upd ((atM mm (wkA (mm.1 54 0))).1 70 0) 1 (((atM mm (wkA (mm.1 54 0))).1 70 0 1) + 1))) = _
    exact PR_t (if_pos hw)
  have g21 : mm.1 54 0 r = 21 → X 44 [some (vR 12 0), some (vI (nI r)), some (vI (one))] [] mm := by
    intro hc
    obtain ⟨s, hs, e⟩ := y2 (Or.inr (Or.inl hc))
    obtain ⟨q, hq, e2⟩ := y3 (Or.inl hc)
    have es : (nI s).toNatClampNeg = s := nI_clamp (by omega)
    have eq : (nI q).toNatClampNeg = q := nI_clamp (by omega)
    subst e
    rw [e2] at h2
    unfold doQ wdP2 at h
    rw [if_neg (by rw [hc]; decide), if_neg (by rw [hc]; decide), if_neg (by rw [hc]; decide), if_neg (by rw [hc]; decide), if_neg (by rw [hc]; decide), if_pos hc, e2, es, eq] at h
    suffices z : wdP (mm.1 54 0) s q → X 56 [some (vR 12 0), some (vI (nI r)), some (vI (nI s))] [] (atM mm (wdA (mm.1 54 0) s q)) by
      show X 44 [some (vR 12 0), some (vI (nI r)), some (vI (nI s))] [] mm
      refine h (fun i => Nat.beq i 56) 3000 44 _ _ _ ?_
      refine And.intro (show inb ((nI r) + 2) (alen 54) = true from (inb_o 3060 rfl rfl (show nI r + 2 = nI (r + 2) by rw [show (2 : Int32) = nI 2 from rfl, nI_add]) (by omega))) ?_
      refine And.intro (show Pre_X12_weds mm [vR 12 0, vI (nI s), vI (mm.1 54 0 (((nI r) + 2).toNatClampNeg))] from ⟨hM, s, q, by omega, by omega, by rw [x2, ← h2]⟩) ?_
      refine brn_c (fun b53 => ?_) (fun b53 => ?_)
      · -- 53: bI (wdP (mm.1 54 0) (nI s).toNatClampNeg (mm.1 54 0 (((nI r) + 2).toNatClampNeg)).toNatClampNeg) = 0 taken
        replace b53 : wdP (mm.1 54 0) (nI s).toNatClampNeg (mm.1 54 0 (((nI r) + 2).toNatClampNeg)).toNatClampNeg := bI_n0.mp b53
        (try simp only [x2, ← h2, es, eq] at b53)
        show X 56 [some (vR 12 0), some (vI (nI r)), some (vI (nI s))] [] (mite (wdP (mm.1 54 0) (nI s).toNatClampNeg (mm.1 54 0 (((nI r) + 2).toNatClampNeg)).toNatClampNeg) (atM mm (wdA (mm.1 54 0) (nI s).toNatClampNeg (mm.1 54 0 (((nI r) + 2).toNatClampNeg)).toNatClampNeg)) mm)
        (try simp only [x2, ← h2, es, eq])
        rw [mite_t b53]
        exact z b53
      · -- 53: bI (wdP (mm.1 54 0) (nI s).toNatClampNeg (mm.1 54 0 (((nI r) + 2).toNatClampNeg)).toNatClampNeg) = 0 on
        replace b53 : ¬ (wdP (mm.1 54 0) (nI s).toNatClampNeg (mm.1 54 0 (((nI r) + 2).toNatClampNeg)).toNatClampNeg) := bI_0.mp b53
        (try simp only [x2, ← h2, es, eq] at b53)
        refine And.intro (Or.inl rfl) ?_
        show ((some (vI 0) : Option MV), mite (wdP (mm.1 54 0) (nI s).toNatClampNeg (mm.1 54 0 (((nI r) + 2).toNatClampNeg)).toNatClampNeg) (atM mm (wdA (mm.1 54 0) (nI s).toNatClampNeg (mm.1 54 0 (((nI r) + 2).toNatClampNeg)).toNatClampNeg)) mm) = _
        (try simp only [x2, ← h2, es, eq])
        rw [mite_f b53]
        exact PR_f (if_neg b53)
    intro hw
    show X 56 [some (vR 12 0), some (vI (nI r)), some (vI (nI s))] [] (atM mm (wdA (mm.1 54 0) s q))
    refine h (fun _ => false) 3000 56 _ _ _ ?_
    refine And.intro (show inb 3 (alen 70) = true from rfl) ?_
    refine And.intro (show inb 3 (alen 70) = true from rfl) ?_
    refine And.intro (Or.inr rfl) ?_
    show ((some (vI 1) : Option MV), mRow (atM mm (wdA (mm.1 54 0) s q)) 70 0 (upd ((atM mm (wdA (mm.1 54 0) s q)).1 70 0) 3 (((atM mm (wdA (mm.1 54 0) s q)).1 70 0 3) + 1))) = _
    exact PR_t (if_pos hw)
  show X 7 [some (vR 12 0), some (vI (nI r)), some (vI one)] [] mm
  refine h (fun i => Nat.beq i 12 || Nat.beq i 16 || Nat.beq i 21 || Nat.beq i 25 || Nat.beq i 29 || Nat.beq i 44) 3000 7 _ _ _ ?_
  refine And.intro (show inb (nI r) (alen 54) = true from (inb_o 3060 rfl rfl rfl (by omega))) ?_
  refine And.intro ⟨fun b11 => ?_, fun b11 => ?_, fun b11 => ?_, fun b11 => ?_, fun b11 => ?_, fun b11 => ?_, trivial⟩ ?_
  · replace b11 : mm.1 54 0 ((nI r).toNatClampNeg) = 16 := b11
    (try simp only [er] at b11)
    show X 12 [some (vR 12 0), some (vI (nI r)), some (vI one)] [] mm
    (try simp only [er])
    exact g16 b11
  · replace b11 : mm.1 54 0 ((nI r).toNatClampNeg) = 17 := b11
    (try simp only [er] at b11)
    show X 16 [some (vR 12 0), some (vI (nI r)), some (vI one)] [] mm
    (try simp only [er])
    exact g17 b11
  · replace b11 : mm.1 54 0 ((nI r).toNatClampNeg) = 18 := b11
    (try simp only [er] at b11)
    show X 21 [some (vR 12 0), some (vI (nI r)), some (vI one)] [] mm
    (try simp only [er])
    exact g18 b11
  · replace b11 : mm.1 54 0 ((nI r).toNatClampNeg) = 19 := b11
    (try simp only [er] at b11)
    show X 25 [some (vR 12 0), some (vI (nI r)), some (vI one)] [] mm
    (try simp only [er])
    exact g19 b11
  · replace b11 : mm.1 54 0 ((nI r).toNatClampNeg) = 20 := b11
    (try simp only [er] at b11)
    show X 29 [some (vR 12 0), some (vI (nI r)), some (vI one)] [] mm
    (try simp only [er])
    exact g20 b11
  · replace b11 : mm.1 54 0 ((nI r).toNatClampNeg) = 21 := b11
    (try simp only [er] at b11)
    show X 44 [some (vR 12 0), some (vI (nI r)), some (vI one)] [] mm
    (try simp only [er])
    exact g21 b11
  · intro b11
    have n11_16 : ¬ mm.1 54 0 ((nI r).toNatClampNeg) = 16 := b11 (16, 12) (by decide)
    have n11_17 : ¬ mm.1 54 0 ((nI r).toNatClampNeg) = 17 := b11 (17, 16) (by decide)
    have n11_18 : ¬ mm.1 54 0 ((nI r).toNatClampNeg) = 18 := b11 (18, 21) (by decide)
    have n11_19 : ¬ mm.1 54 0 ((nI r).toNatClampNeg) = 19 := b11 (19, 25) (by decide)
    have n11_20 : ¬ mm.1 54 0 ((nI r).toNatClampNeg) = 20 := b11 (20, 29) (by decide)
    have n11_21 : ¬ mm.1 54 0 ((nI r).toNatClampNeg) = 21 := b11 (21, 44) (by decide)
    (try simp only [er] at n11_16)
    (try simp only [er] at n11_17)
    (try simp only [er] at n11_18)
    (try simp only [er] at n11_19)
    (try simp only [er] at n11_20)
    (try simp only [er] at n11_21)
    refine And.intro (Or.inr rfl) ?_
    show ((some (vI 1) : Option MV), mm) = _
    (try simp only [er])
    exact PR_t (by unfold doQ; rw [if_neg n11_16, if_neg n11_17, if_neg n11_18, if_neg n11_19, if_neg n11_20, if_neg n11_21])
theorem con_X12_does (l : Launch) : CON l y_X12_does prog_14_method_156_code 3 (some .boolean) rm_X12_does Pre_X12_does Fn_X12_does := CON_of (by decide) rfl rfl (sa_X12_does l) vc_X12_does
abbrev cpP (v : Int32) (c w : Int32) : Prop := if c = 60 then v < w else if c = 62 then w < v else v = w
/-- a test of the YEARS -/
abbrev hoP (a : Nat → Int32) (k : Nat) : Prop := if a (146 + 6 * k) - 2300 = 29 then thA a (a (147 + 6 * k)) &&& (a 8 ^^^ (-1)) = 0 else if a (146 + 6 * k) - 2300 = 28 then ysA a (a (147 + 6 * k)).toNatClampNeg (a (148 + 6 * k)).toNatClampNeg else cpP (hdA a (a (147 + 6 * k)) (a (148 + 6 * k)).toNatClampNeg) (a (151 + 6 * k)) (a (149 + 6 * k))

def Pre_X12_holds : PreT := fun m as => ∃ ns nm nt L k, VMx m ns nm nt ∧ YP (m.1 54 0) ns nm nt L ∧ k < L ∧ ¬ m.1 54 0 (146 + 6 * k) < 2300 ∧ as = [vR 12 0, vI (nI (146 + 6 * k))]
def Fn_X12_holds : FnT := fun m as => match as with
  | [_, Sum.inl r] => (some (vI (bI (hoP (m.1 54 0) ((r.toNatClampNeg - 146) / 6)))), m)
  | _ => (none, m)
--tpl rfl || bI (hoP {A} (({1n} - 146) / 6))
abbrev y_X12_holds : MethodName := ⟨"GivenUpModel", "holds", "(I)Z"⟩
def P_X12_holds : List StpT := [s_aload 0, s_getR 12 0 54, s_iload 1, s_iald, s_ic (2300), s_isub, s_istore 2, s_aload 0, s_getR 12 0 54, s_iload 1, s_ic (1), s_iadd, s_iald, s_istore 3, s_iload 2, s_ic (29), s_icne 21, s_aload 0, s_iload 3, s_callV 12 1 Pre_X12_isBare Fn_X12_isBare, s_zret, s_iload 2, s_ic (28), s_icne 34, s_aload 0, s_iload 3, s_aload 0, s_getR 12 0 54, s_iload 1, s_ic (2), s_iadd, s_iald, s_callV 12 2 Pre_X12_saysYes Fn_X12_saysYes, s_zret, s_aload 0, s_iload 3, s_aload 0, s_getR 12 0 54, s_iload 1, s_ic (2), s_iadd, s_iald, s_callV 12 2 Pre_X12_heardOf Fn_X12_heardOf, s_istore 4, s_aload 0, s_getR 12 0 54, s_iload 1, s_ic (5), s_iadd, s_iald, s_ic (60), s_icne 64, s_iload 4, s_aload 0, s_getR 12 0 54, s_iload 1, s_ic (3), s_iadd, s_iald, s_icge 62, s_ic (1), s_goto 95, s_ic (0), s_goto 95, s_aload 0, s_getR 12 0 54, s_iload 1, s_ic (5), s_iadd, s_iald, s_ic (62), s_icne 84, s_iload 4, s_aload 0, s_getR 12 0 54, s_iload 1, s_ic (3), s_iadd, s_iald, s_icle 82, s_ic (1), s_goto 95, s_ic (0), s_goto 95, s_iload 4, s_aload 0, s_getR 12 0 54, s_iload 1, s_ic (3), s_iadd, s_iald, s_icne 94, s_ic (1), s_goto 95, s_ic (0), s_zret]
def pc_X12_holds : Nat → Nat := fun i => [0, 1, 4, 5, 6, 9, 10, 11, 12, 15, 16, 17, 18, 19, 20, 21, 23, 26, 27, 28, 31, 32, 33, 35, 38, 39, 40, 41, 44, 45, 46, 47, 48, 51, 52, 53, 54, 55, 58, 59, 60, 61, 62, 65, 67, 68, 71, 72, 73, 74, 75, 77, 80, 82, 83, 86, 87, 88, 89, 90, 93, 94, 97, 98, 101, 102, 105, 106, 107, 108, 109, 111, 114, 116, 117, 120, 121, 122, 123, 124, 127, 128, 131, 132, 135, 137, 138, 141, 142, 143, 144, 145, 148, 149, 152, 153].getD i 0
def dl_X12_holds : List (Nat × Instr × Nat) := [(0, .aload_n 0, 1), (1, .getfield 7, 3), (4, .iload_n 1, 1), (5, .iaload, 1), (6, .sipush 2300, 3), (9, .isub, 1), (10, .istore_n 2, 1), (11, .aload_n 0, 1), (12, .getfield 7, 3), (15, .iload_n 1, 1), (16, .iconst 1, 1), (17, .iadd, 1), (18, .iaload, 1), (19, .istore_n 3, 1), (20, .iload_n 2, 1), (21, .bipush 29, 2), (23, .if_icmp .ne 9, 3), (26, .aload_n 0, 1), (27, .iload_n 3, 1), (28, .invokevirtual 361, 3), (31, .ireturn, 1), (32, .iload_n 2, 1), (33, .bipush 28, 2), (35, .if_icmp .ne 17, 3), (38, .aload_n 0, 1), (39, .iload_n 3, 1), (40, .aload_n 0, 1), (41, .getfield 7, 3), (44, .iload_n 1, 1), (45, .iconst 2, 1), (46, .iadd, 1), (47, .iaload, 1), (48, .invokevirtual 343, 3), (51, .ireturn, 1), (52, .aload_n 0, 1), (53, .iload_n 3, 1), (54, .aload_n 0, 1), (55, .getfield 7, 3), (58, .iload_n 1, 1), (59, .iconst 2, 1), (60, .iadd, 1), (61, .iaload, 1), (62, .invokevirtual 298, 3), (65, .istore 4, 2), (67, .aload_n 0, 1), (68, .getfield 7, 3), (71, .iload_n 1, 1), (72, .iconst 5, 1), (73, .iadd, 1), (74, .iaload, 1), (75, .bipush 60, 2), (77, .if_icmp .ne 24, 3), (80, .iload 4, 2), (82, .aload_n 0, 1), (83, .getfield 7, 3), (86, .iload_n 1, 1), (87, .iconst 3, 1), (88, .iadd, 1), (89, .iaload, 1), (90, .if_icmp .ge 7, 3), (93, .iconst 1, 1), (94, .goto 59, 3), (97, .iconst 0, 1), (98, .goto 55, 3), (101, .aload_n 0, 1), (102, .getfield 7, 3), (105, .iload_n 1, 1), (106, .iconst 5, 1), (107, .iadd, 1), (108, .iaload, 1), (109, .bipush 62, 2), (111, .if_icmp .ne 24, 3), (114, .iload 4, 2), (116, .aload_n 0, 1), (117, .getfield 7, 3), (120, .iload_n 1, 1), (121, .iconst 3, 1), (122, .iadd, 1), (123, .iaload, 1), (124, .if_icmp .le 7, 3), (127, .iconst 1, 1), (128, .goto 25, 3), (131, .iconst 0, 1), (132, .goto 21, 3), (135, .iload 4, 2), (137, .aload_n 0, 1), (138, .getfield 7, 3), (141, .iload_n 1, 1), (142, .iconst 3, 1), (143, .iadd, 1), (144, .iaload, 1), (145, .if_icmp .ne 7, 3), (148, .iconst 1, 1), (149, .goto 4, 3), (152, .iconst 0, 1), (153, .ireturn, 1)]
theorem dc_X12_holds : DEC prog_14_method_157_code pc_X12_holds dl_X12_holds := DEC_of (by decide +kernel)
abbrev rm_X12_holds : Room := { frames := 5, cells := 0, slots := 0, locals := 108 }
set_option maxRecDepth 20000 in
theorem sa_X12_holds (l : Launch) : SNDALL l prog_14_method_157_code "GivenUpModel" 5 (some .boolean) rm_X12_holds P_X12_holds pc_X12_holds := fun p e s m args below meth c cells slots Q D dA ad A RR hC hR => by
  have hM := RTX_room (R := rm_X12_holds) hR
  exact ⟨st_aload_n hC (n := 0) (k := 0) (dc_X12_holds 0 (0, .aload_n 0, 1) rfl rfl) rfl rfl,
    st_getR hC (n := 1) (k := 12) (j := 0) (dc_X12_holds 1 (1, .getfield 7, 3) rfl rfl) rfl clf_12 (by decide) rfl (by decide) wd_1552,
    st_iload_n hC (n := 2) (k := 1) (dc_X12_holds 2 (4, .iload_n 1, 1) rfl rfl) rfl rfl,
    st_iald hC (n := 3) (dc_X12_holds 3 (5, .iaload, 1) rfl rfl) rfl,
    st_sipush hC (n := 4) (x := 2300) (dc_X12_holds 4 (6, .sipush 2300, 3) rfl rfl) rfl (by decide),
    st_isub hC (n := 5) (dc_X12_holds 5 (9, .isub, 1) rfl rfl) rfl,
    st_istore_n hC (n := 6) (k := 2) (dc_X12_holds 6 (10, .istore_n 2, 1) rfl rfl) rfl rfl (by decide),
    st_aload_n hC (n := 7) (k := 0) (dc_X12_holds 7 (11, .aload_n 0, 1) rfl rfl) rfl rfl,
    st_getR hC (n := 8) (k := 12) (j := 0) (dc_X12_holds 8 (12, .getfield 7, 3) rfl rfl) rfl clf_12 (by decide) rfl (by decide) wd_1552,
    st_iload_n hC (n := 9) (k := 1) (dc_X12_holds 9 (15, .iload_n 1, 1) rfl rfl) rfl rfl,
    st_iconst hC (n := 10) (x := 1) (dc_X12_holds 10 (16, .iconst 1, 1) rfl rfl) rfl (by decide),
    st_iadd hC (n := 11) (dc_X12_holds 11 (17, .iadd, 1) rfl rfl) rfl,
    st_iald hC (n := 12) (dc_X12_holds 12 (18, .iaload, 1) rfl rfl) rfl,
    st_istore_n hC (n := 13) (k := 3) (dc_X12_holds 13 (19, .istore_n 3, 1) rfl rfl) rfl rfl (by decide),
    st_iload_n hC (n := 14) (k := 2) (dc_X12_holds 14 (20, .iload_n 2, 1) rfl rfl) rfl rfl,
    st_bipush hC (n := 15) (x := 29) (dc_X12_holds 15 (21, .bipush 29, 2) rfl rfl) rfl (by decide),
    st_icne hC (n := 16) (dc_X12_holds 16 (23, .if_icmp .ne 9, 3) rfl rfl) rfl (by decide),
    st_aload_n hC (n := 17) (k := 0) (dc_X12_holds 17 (26, .aload_n 0, 1) rfl rfl) rfl rfl,
    st_iload_n hC (n := 18) (k := 3) (dc_X12_holds 18 (27, .iload_n 3, 1) rfl rfl) rfl rfl,
    st_callV hC (n := 19) (k := 12) (na := 1) (con_X12_isBare l) (dc_X12_holds 19 (28, .invokevirtual 361, 3) rfl rfl) rfl wd_2078 wd_160 (by decide) ⟨rfl, rfl, by decide, by decide⟩ hM wd_2075 wd_2077 wd_114 clf_12,
    st_zret hC (n := 20) hR (dc_X12_holds 20 (31, .ireturn, 1) rfl rfl),
    st_iload_n hC (n := 21) (k := 2) (dc_X12_holds 21 (32, .iload_n 2, 1) rfl rfl) rfl rfl,
    st_bipush hC (n := 22) (x := 28) (dc_X12_holds 22 (33, .bipush 28, 2) rfl rfl) rfl (by decide),
    st_icne hC (n := 23) (dc_X12_holds 23 (35, .if_icmp .ne 17, 3) rfl rfl) rfl (by decide),
    st_aload_n hC (n := 24) (k := 0) (dc_X12_holds 24 (38, .aload_n 0, 1) rfl rfl) rfl rfl,
    st_iload_n hC (n := 25) (k := 3) (dc_X12_holds 25 (39, .iload_n 3, 1) rfl rfl) rfl rfl,
    st_aload_n hC (n := 26) (k := 0) (dc_X12_holds 26 (40, .aload_n 0, 1) rfl rfl) rfl rfl,
    st_getR hC (n := 27) (k := 12) (j := 0) (dc_X12_holds 27 (41, .getfield 7, 3) rfl rfl) rfl clf_12 (by decide) rfl (by decide) wd_1552,
    st_iload_n hC (n := 28) (k := 1) (dc_X12_holds 28 (44, .iload_n 1, 1) rfl rfl) rfl rfl,
    st_iconst hC (n := 29) (x := 2) (dc_X12_holds 29 (45, .iconst 2, 1) rfl rfl) rfl (by decide),
    st_iadd hC (n := 30) (dc_X12_holds 30 (46, .iadd, 1) rfl rfl) rfl,
    st_iald hC (n := 31) (dc_X12_holds 31 (47, .iaload, 1) rfl rfl) rfl,
    st_callV hC (n := 32) (k := 12) (na := 2) (con_X12_saysYes l) (dc_X12_holds 32 (48, .invokevirtual 343, 3) rfl rfl) rfl wd_2033 wd_160 (by decide) ⟨rfl, rfl, by decide, by decide⟩ hM wd_2030 wd_2032 wd_108 clf_12,
    st_zret hC (n := 33) hR (dc_X12_holds 33 (51, .ireturn, 1) rfl rfl),
    st_aload_n hC (n := 34) (k := 0) (dc_X12_holds 34 (52, .aload_n 0, 1) rfl rfl) rfl rfl,
    st_iload_n hC (n := 35) (k := 3) (dc_X12_holds 35 (53, .iload_n 3, 1) rfl rfl) rfl rfl,
    st_aload_n hC (n := 36) (k := 0) (dc_X12_holds 36 (54, .aload_n 0, 1) rfl rfl) rfl rfl,
    st_getR hC (n := 37) (k := 12) (j := 0) (dc_X12_holds 37 (55, .getfield 7, 3) rfl rfl) rfl clf_12 (by decide) rfl (by decide) wd_1552,
    st_iload_n hC (n := 38) (k := 1) (dc_X12_holds 38 (58, .iload_n 1, 1) rfl rfl) rfl rfl,
    st_iconst hC (n := 39) (x := 2) (dc_X12_holds 39 (59, .iconst 2, 1) rfl rfl) rfl (by decide),
    st_iadd hC (n := 40) (dc_X12_holds 40 (60, .iadd, 1) rfl rfl) rfl,
    st_iald hC (n := 41) (dc_X12_holds 41 (61, .iaload, 1) rfl rfl) rfl,
    st_callV hC (n := 42) (k := 12) (na := 2) (con_X12_heardOf l) (dc_X12_holds 42 (62, .invokevirtual 298, 3) rfl rfl) rfl wd_2021 wd_160 (by decide) ⟨rfl, rfl, by decide, by decide⟩ hM wd_2018 wd_2020 wd_106 clf_12,
    st_istore hC (n := 43) (dc_X12_holds 43 (65, .istore 4, 2) rfl rfl) rfl (by decide),
    st_aload_n hC (n := 44) (k := 0) (dc_X12_holds 44 (67, .aload_n 0, 1) rfl rfl) rfl rfl,
    st_getR hC (n := 45) (k := 12) (j := 0) (dc_X12_holds 45 (68, .getfield 7, 3) rfl rfl) rfl clf_12 (by decide) rfl (by decide) wd_1552,
    st_iload_n hC (n := 46) (k := 1) (dc_X12_holds 46 (71, .iload_n 1, 1) rfl rfl) rfl rfl,
    st_iconst hC (n := 47) (x := 5) (dc_X12_holds 47 (72, .iconst 5, 1) rfl rfl) rfl (by decide),
    st_iadd hC (n := 48) (dc_X12_holds 48 (73, .iadd, 1) rfl rfl) rfl,
    st_iald hC (n := 49) (dc_X12_holds 49 (74, .iaload, 1) rfl rfl) rfl,
    st_bipush hC (n := 50) (x := 60) (dc_X12_holds 50 (75, .bipush 60, 2) rfl rfl) rfl (by decide),
    st_icne hC (n := 51) (dc_X12_holds 51 (77, .if_icmp .ne 24, 3) rfl rfl) rfl (by decide),
    st_iload hC (n := 52) (dc_X12_holds 52 (80, .iload 4, 2) rfl rfl) rfl,
    st_aload_n hC (n := 53) (k := 0) (dc_X12_holds 53 (82, .aload_n 0, 1) rfl rfl) rfl rfl,
    st_getR hC (n := 54) (k := 12) (j := 0) (dc_X12_holds 54 (83, .getfield 7, 3) rfl rfl) rfl clf_12 (by decide) rfl (by decide) wd_1552,
    st_iload_n hC (n := 55) (k := 1) (dc_X12_holds 55 (86, .iload_n 1, 1) rfl rfl) rfl rfl,
    st_iconst hC (n := 56) (x := 3) (dc_X12_holds 56 (87, .iconst 3, 1) rfl rfl) rfl (by decide),
    st_iadd hC (n := 57) (dc_X12_holds 57 (88, .iadd, 1) rfl rfl) rfl,
    st_iald hC (n := 58) (dc_X12_holds 58 (89, .iaload, 1) rfl rfl) rfl,
    st_icge hC (n := 59) (dc_X12_holds 59 (90, .if_icmp .ge 7, 3) rfl rfl) rfl (by decide),
    st_iconst hC (n := 60) (x := 1) (dc_X12_holds 60 (93, .iconst 1, 1) rfl rfl) rfl (by decide),
    st_goto hC (n := 61) (dc_X12_holds 61 (94, .goto 59, 3) rfl rfl) (by decide),
    st_iconst hC (n := 62) (x := 0) (dc_X12_holds 62 (97, .iconst 0, 1) rfl rfl) rfl (by decide),
    st_goto hC (n := 63) (dc_X12_holds 63 (98, .goto 55, 3) rfl rfl) (by decide),
    st_aload_n hC (n := 64) (k := 0) (dc_X12_holds 64 (101, .aload_n 0, 1) rfl rfl) rfl rfl,
    st_getR hC (n := 65) (k := 12) (j := 0) (dc_X12_holds 65 (102, .getfield 7, 3) rfl rfl) rfl clf_12 (by decide) rfl (by decide) wd_1552,
    st_iload_n hC (n := 66) (k := 1) (dc_X12_holds 66 (105, .iload_n 1, 1) rfl rfl) rfl rfl,
    st_iconst hC (n := 67) (x := 5) (dc_X12_holds 67 (106, .iconst 5, 1) rfl rfl) rfl (by decide),
    st_iadd hC (n := 68) (dc_X12_holds 68 (107, .iadd, 1) rfl rfl) rfl,
    st_iald hC (n := 69) (dc_X12_holds 69 (108, .iaload, 1) rfl rfl) rfl,
    st_bipush hC (n := 70) (x := 62) (dc_X12_holds 70 (109, .bipush 62, 2) rfl rfl) rfl (by decide),
    st_icne hC (n := 71) (dc_X12_holds 71 (111, .if_icmp .ne 24, 3) rfl rfl) rfl (by decide),
    st_iload hC (n := 72) (dc_X12_holds 72 (114, .iload 4, 2) rfl rfl) rfl,
    st_aload_n hC (n := 73) (k := 0) (dc_X12_holds 73 (116, .aload_n 0, 1) rfl rfl) rfl rfl,
    st_getR hC (n := 74) (k := 12) (j := 0) (dc_X12_holds 74 (117, .getfield 7, 3) rfl rfl) rfl clf_12 (by decide) rfl (by decide) wd_1552,
    st_iload_n hC (n := 75) (k := 1) (dc_X12_holds 75 (120, .iload_n 1, 1) rfl rfl) rfl rfl,
    st_iconst hC (n := 76) (x := 3) (dc_X12_holds 76 (121, .iconst 3, 1) rfl rfl) rfl (by decide),
    st_iadd hC (n := 77) (dc_X12_holds 77 (122, .iadd, 1) rfl rfl) rfl,
    st_iald hC (n := 78) (dc_X12_holds 78 (123, .iaload, 1) rfl rfl) rfl,
    st_icle hC (n := 79) (dc_X12_holds 79 (124, .if_icmp .le 7, 3) rfl rfl) rfl (by decide),
    st_iconst hC (n := 80) (x := 1) (dc_X12_holds 80 (127, .iconst 1, 1) rfl rfl) rfl (by decide),
    st_goto hC (n := 81) (dc_X12_holds 81 (128, .goto 25, 3) rfl rfl) (by decide),
    st_iconst hC (n := 82) (x := 0) (dc_X12_holds 82 (131, .iconst 0, 1) rfl rfl) rfl (by decide),
    st_goto hC (n := 83) (dc_X12_holds 83 (132, .goto 21, 3) rfl rfl) (by decide),
    st_iload hC (n := 84) (dc_X12_holds 84 (135, .iload 4, 2) rfl rfl) rfl,
    st_aload_n hC (n := 85) (k := 0) (dc_X12_holds 85 (137, .aload_n 0, 1) rfl rfl) rfl rfl,
    st_getR hC (n := 86) (k := 12) (j := 0) (dc_X12_holds 86 (138, .getfield 7, 3) rfl rfl) rfl clf_12 (by decide) rfl (by decide) wd_1552,
    st_iload_n hC (n := 87) (k := 1) (dc_X12_holds 87 (141, .iload_n 1, 1) rfl rfl) rfl rfl,
    st_iconst hC (n := 88) (x := 3) (dc_X12_holds 88 (142, .iconst 3, 1) rfl rfl) rfl (by decide),
    st_iadd hC (n := 89) (dc_X12_holds 89 (143, .iadd, 1) rfl rfl) rfl,
    st_iald hC (n := 90) (dc_X12_holds 90 (144, .iaload, 1) rfl rfl) rfl,
    st_icne hC (n := 91) (dc_X12_holds 91 (145, .if_icmp .ne 7, 3) rfl rfl) rfl (by decide),
    st_iconst hC (n := 92) (x := 1) (dc_X12_holds 92 (148, .iconst 1, 1) rfl rfl) rfl (by decide),
    st_goto hC (n := 93) (dc_X12_holds 93 (149, .goto 4, 3) rfl rfl) (by decide),
    st_iconst hC (n := 94) (x := 0) (dc_X12_holds 94 (152, .iconst 0, 1) rfl rfl) rfl (by decide),
    st_zret hC (n := 95) hR (dc_X12_holds 95 (153, .ireturn, 1) rfl rfl), trivial⟩
set_option maxRecDepth 8000 in
theorem vc_X12_holds : VC P_X12_holds 5 Pre_X12_holds Fn_X12_holds := by
  rintro mm as hom hoa ⟨ns, nm, nt, L, k, hV, ⟨hL, hL60, hY⟩, hk, hge, rfl⟩
  refine ⟨Nat.le_of_ble_eq_true rfl, fun X h => ?_⟩
  have hM : VM mm := ⟨ns, nm, nt, hV⟩
  have hns : ns ≤ 4 := hV.1.2
  have hnm : nm ≤ 4 := hV.2.1.2
  obtain ⟨-, y2, y3, -, -, -⟩ := hY k hk
  obtain ⟨r, hr⟩ : ∃ r, r = 146 + 6 * k := ⟨_, rfl⟩
  have er : (nI r).toNatClampNeg = r := nI_clamp (by omega)
  have i1 : nI r + 1 = nI (r + 1) := nI_1 _
  have i2 : nI r + 2 = nI (r + 2) := by simp (disch := omega) only [li, pk_mul, nI_add, nI_clamp]
  have i3 : nI r + 3 = nI (r + 3) := by simp (disch := omega) only [li, pk_mul, nI_add, nI_clamp]
  have i5 : nI r + 5 = nI (r + 5) := by simp (disch := omega) only [li, pk_mul, nI_add, nI_clamp]
  have x1 : (nI r + 1).toNatClampNeg = r + 1 := by rw [i1]; exact nI_clamp (by omega)
  have x2 : (nI r + 2).toNatClampNeg = r + 2 := by rw [i2]; exact nI_clamp (by omega)
  have x3 : (nI r + 3).toNatClampNeg = r + 3 := by rw [i3]; exact nI_clamp (by omega)
  have x5 : (nI r + 5).toNatClampNeg = r + 5 := by rw [i5]; exact nI_clamp (by omega)
  replace h : RUN P_X12_holds (fun q m' => (q, m') = (some (vI (bI (hoP (mm.1 54 0) (((nI (146 + 6 * k)).toNatClampNeg - 146) / 6)))), mm)) X := h
  rw [show ((nI (146 + 6 * k)).toNatClampNeg - 146) / 6 = k by rw [nI_clamp (by omega)]; omega] at h
  unfold hoP at h
  rw [show 147 + 6 * k = r + 1 by omega, show 148 + 6 * k = r + 2 by omega, show 149 + 6 * k = r + 3 by omega, show 151 + 6 * k = r + 5 by omega, ← hr] at h
  rw [show 147 + 6 * k = r + 1 by omega, ← hr] at y2
  rw [show 148 + 6 * k = r + 2 by omega, ← hr] at y3
  rw [← hr] at hge ⊢
  obtain ⟨s, hs, e1⟩ := y2 (Or.inr (Or.inr hge))
  have es : (nI s).toNatClampNeg = s := nI_clamp (by omega)
  rw [e1, es] at h
  have bare : mm.1 54 0 r - 2300 = 29 → X 17 [some (vR 12 0), some (vI (nI r)), some (vI (mm.1 54 0 r - 2300)), some (vI (nI s)), none] [] mm := by
    intro hc
    simp only [if_pos hc] at h
    show X 17 [some (vR 12 0), some (vI (nI r)), some (vI (mm.1 54 0 r - 2300)), some (vI (nI s)), none] [] mm
    refine h (fun _ => false) 3000 17 _ _ _ ?_
    refine And.intro (show Pre_X12_isBare mm [vR 12 0, vI (nI s)] from ⟨hM, _, rfl⟩) ?_
    refine And.intro bI_in ?_
    show ((some (vI (bI (thA (mm.1 54 0) (nI s) &&& (mm.1 54 0 8 ^^^ (-1)) = 0))) : Option MV), mm) = _
    exact rfl
  have rest : ¬ mm.1 54 0 r - 2300 = 29 → X 21 [some (vR 12 0), some (vI (nI r)), some (vI (mm.1 54 0 r - 2300)), some (vI (nI s)), none] [] mm := by
    intro hc
    obtain ⟨q, hq, e2⟩ := y3 (Or.inr ⟨hge, hc⟩)
    have eq : (nI q).toNatClampNeg = q := nI_clamp (by omega)
    simp only [if_neg hc, e2, eq] at h
    have yes : mm.1 54 0 r - 2300 = 28 → X 24 [some (vR 12 0), some (vI (nI r)), some (vI (mm.1 54 0 r - 2300)), some (vI (nI s)), none] [] mm := by
      intro hc2
      simp only [if_pos hc2] at h
      show X 24 [some (vR 12 0), some (vI (nI r)), some (vI (mm.1 54 0 r - 2300)), some (vI (nI s)), none] [] mm
      refine h (fun _ => false) 3000 24 _ _ _ ?_
      refine And.intro (show inb ((nI r) + 2) (alen 54) = true from (inb_o 3060 rfl rfl i2 (by omega))) ?_
      refine And.intro (show Pre_X12_saysYes mm [vR 12 0, vI (nI s), vI (mm.1 54 0 (((nI r) + 2).toNatClampNeg))] from ⟨hM, s, q, by omega, by omega, by rw [x2, e2]⟩) ?_
      refine And.intro bI_in ?_
      show ((some (vI (bI (ysA (mm.1 54 0) (nI s).toNatClampNeg (mm.1 54 0 (((nI r) + 2).toNatClampNeg)).toNatClampNeg))) : Option MV), mm) = _
      (try simp only [x2, e2, es, eq])
      all_goals exact rfl
    have heard : ¬ mm.1 54 0 r - 2300 = 28 → X 34 [some (vR 12 0), some (vI (nI r)), some (vI (mm.1 54 0 r - 2300)), some (vI (nI s)), none] [] mm := by
      intro hc2
      simp only [if_neg hc2] at h
      suffices z : X 44 [some (vR 12 0), some (vI (nI r)), some (vI (mm.1 54 0 r - 2300)), some (vI (nI s)), some (vI (hdA (mm.1 54 0) (nI s) q))] [] mm by
        show X 34 [some (vR 12 0), some (vI (nI r)), some (vI (mm.1 54 0 r - 2300)), some (vI (nI s)), none] [] mm
        refine h (fun i => Nat.beq i 44) 3000 34 _ _ _ ?_
        refine And.intro (show inb ((nI r) + 2) (alen 54) = true from (inb_o 3060 rfl rfl i2 (by omega))) ?_
        refine And.intro (show Pre_X12_heardOf mm [vR 12 0, vI (nI s), vI (mm.1 54 0 (((nI r) + 2).toNatClampNeg))] from ⟨hM, _, q, by omega, by rw [x2, e2]⟩) ?_
        show X 44 [some (vR 12 0), some (vI (nI r)), some (vI (mm.1 54 0 r - 2300)), some (vI (nI s)), some (vI (hdA (mm.1 54 0) (nI s) (mm.1 54 0 (((nI r) + 2).toNatClampNeg)).toNatClampNeg))] [] mm
        (try simp only [x2, e2, eq])
        exact z
      obtain ⟨v, hv⟩ : ∃ v, v = hdA (mm.1 54 0) (nI s) q := ⟨_, rfl⟩
      rw [← hv] at h ⊢
      show X 44 [some (vR 12 0), some (vI (nI r)), some (vI (mm.1 54 0 r - 2300)), some (vI (nI s)), some (vI v)] [] mm
      refine h (fun _ => false) 3000 44 _ _ _ ?_
      refine And.intro (show inb ((nI r) + 5) (alen 54) = true from (inb_o 3060 rfl rfl i5 (by omega))) ?_
      refine brn_c (fun b51 => ?_) (fun b51 => ?_)
      · -- 51: mm.1 54 0 (((nI r) + 5).toNatClampNeg) = 60 taken
        replace b51 : ¬ (mm.1 54 0 (((nI r) + 5).toNatClampNeg) = 60) := b51
        (try simp only [x3, x5] at b51)
        refine And.intro (show inb ((nI r) + 5) (alen 54) = true from (inb_o 3060 rfl rfl i5 (by omega))) ?_
        refine brn_c (fun b71 => ?_) (fun b71 => ?_)
        · -- 71: mm.1 54 0 (((nI r) + 5).toNatClampNeg) = 62 taken
          replace b71 : ¬ (mm.1 54 0 (((nI r) + 5).toNatClampNeg) = 62) := b71
          (try simp only [x3, x5] at b71)
          refine And.intro (show inb ((nI r) + 3) (alen 54) = true from (inb_o 3060 rfl rfl i3 (by omega))) ?_
          refine brn_c (fun b91 => ?_) (fun b91 => ?_)
          · -- 91: v = mm.1 54 0 (((nI r) + 3).toNatClampNeg) taken
            replace b91 : ¬ (v = mm.1 54 0 (((nI r) + 3).toNatClampNeg)) := b91
            (try simp only [x3, x5] at b91)
            refine And.intro (Or.inl rfl) ?_
            show ((some (vI 0) : Option MV), mm) = _
            (try simp only [x3, x5])
            refine ret_f ?_
            simp only [if_neg b51, if_neg b71] 
            exact b91
          · -- 91: v = mm.1 54 0 (((nI r) + 3).toNatClampNeg) on
            replace b91 : v = mm.1 54 0 (((nI r) + 3).toNatClampNeg) := b91
            (try simp only [x3, x5] at b91)
            refine And.intro (Or.inr rfl) ?_
            show ((some (vI 1) : Option MV), mm) = _
            (try simp only [x3, x5])
            refine ret_t ?_
            simp only [if_neg b51, if_neg b71] 
            exact b91
        · -- 71: mm.1 54 0 (((nI r) + 5).toNatClampNeg) = 62 on
          replace b71 : mm.1 54 0 (((nI r) + 5).toNatClampNeg) = 62 := b71
          (try simp only [x3, x5] at b71)
          refine And.intro (show inb ((nI r) + 3) (alen 54) = true from (inb_o 3060 rfl rfl i3 (by omega))) ?_
          refine br_c (fun b79 => ?_) (fun b79 => ?_)
          · -- 79: v ≤ mm.1 54 0 (((nI r) + 3).toNatClampNeg) taken
            replace b79 : v ≤ mm.1 54 0 (((nI r) + 3).toNatClampNeg) := b79
            (try simp only [x3, x5] at b79)
            refine And.intro (Or.inl rfl) ?_
            show ((some (vI 0) : Option MV), mm) = _
            (try simp only [x3, x5])
            refine ret_f ?_
            simp only [if_neg b51, if_pos b71] 
            exact Int32.not_lt.mpr b79
          · -- 79: v ≤ mm.1 54 0 (((nI r) + 3).toNatClampNeg) on
            replace b79 : ¬ (v ≤ mm.1 54 0 (((nI r) + 3).toNatClampNeg)) := b79
            (try simp only [x3, x5] at b79)
            refine And.intro (Or.inr rfl) ?_
            show ((some (vI 1) : Option MV), mm) = _
            (try simp only [x3, x5])
            refine ret_t ?_
            simp only [if_neg b51, if_pos b71] 
            exact Int32.not_le.mp b79
      · -- 51: mm.1 54 0 (((nI r) + 5).toNatClampNeg) = 60 on
        replace b51 : mm.1 54 0 (((nI r) + 5).toNatClampNeg) = 60 := b51
        (try simp only [x3, x5] at b51)
        refine And.intro (show inb ((nI r) + 3) (alen 54) = true from (inb_o 3060 rfl rfl i3 (by omega))) ?_
        refine br_c (fun b59 => ?_) (fun b59 => ?_)
        · -- 59: mm.1 54 0 (((nI r) + 3).toNatClampNeg) ≤ v taken
          replace b59 : mm.1 54 0 (((nI r) + 3).toNatClampNeg) ≤ v := b59
          (try simp only [x3, x5] at b59)
          refine And.intro (Or.inl rfl) ?_
          show ((some (vI 0) : Option MV), mm) = _
          (try simp only [x3, x5])
          refine ret_f ?_
          simp only [if_pos b51] 
          exact Int32.not_lt.mpr b59
        · -- 59: mm.1 54 0 (((nI r) + 3).toNatClampNeg) ≤ v on
          replace b59 : ¬ (mm.1 54 0 (((nI r) + 3).toNatClampNeg) ≤ v) := b59
          (try simp only [x3, x5] at b59)
          refine And.intro (Or.inr rfl) ?_
          show ((some (vI 1) : Option MV), mm) = _
          (try simp only [x3, x5])
          refine ret_t ?_
          simp only [if_pos b51] 
          exact Int32.not_le.mp b59
    show X 21 [some (vR 12 0), some (vI (nI r)), some (vI (mm.1 54 0 r - 2300)), some (vI (nI s)), none] [] mm
    refine h (fun i => Nat.beq i 24 || Nat.beq i 34) 3000 21 _ _ _ ?_
    refine brn_c (fun b23 => ?_) (fun b23 => ?_)
    · -- 23: mm.1 54 0 r - 2300 = 28 taken
      replace b23 : ¬ (mm.1 54 0 r - 2300 = 28) := b23
      show X 34 [some (vR 12 0), some (vI (nI r)), some (vI (mm.1 54 0 r - 2300)), some (vI (nI s)), none] [] mm
      exact heard b23
    · -- 23: mm.1 54 0 r - 2300 = 28 on
      replace b23 : mm.1 54 0 r - 2300 = 28 := b23
      show X 24 [some (vR 12 0), some (vI (nI r)), some (vI (mm.1 54 0 r - 2300)), some (vI (nI s)), none] [] mm
      exact yes b23
  suffices z : X 14 [some (vR 12 0), some (vI (nI r)), some (vI (mm.1 54 0 r - 2300)), some (vI (nI s)), none] [] mm by
    show X 0 [some (vR 12 0), some (vI (nI r)), none, none, none] [] mm
    refine h (fun i => Nat.beq i 14) 3000 0 _ _ _ ?_
    refine And.intro (show inb (nI r) (alen 54) = true from (inb_o 3060 rfl rfl rfl (by omega))) ?_
    refine And.intro (show inb ((nI r) + 1) (alen 54) = true from (inb_o 3060 rfl rfl i1 (by omega))) ?_
    show X 14 [some (vR 12 0), some (vI (nI r)), some (vI ((mm.1 54 0 ((nI r).toNatClampNeg)) - 2300)), some (vI (mm.1 54 0 (((nI r) + 1).toNatClampNeg))), none] [] mm
    (try simp only [er, x1, e1])
    exact z
  show X 14 [some (vR 12 0), some (vI (nI r)), some (vI (mm.1 54 0 r - 2300)), some (vI (nI s)), none] [] mm
  refine h (fun i => Nat.beq i 17 || Nat.beq i 21) 3000 14 _ _ _ ?_
  refine brn_c (fun b16 => ?_) (fun b16 => ?_)
  · -- 16: mm.1 54 0 r - 2300 = 29 taken
    replace b16 : ¬ (mm.1 54 0 r - 2300 = 29) := b16
    show X 21 [some (vR 12 0), some (vI (nI r)), some (vI (mm.1 54 0 r - 2300)), some (vI (nI s)), none] [] mm
    exact rest b16
  · -- 16: mm.1 54 0 r - 2300 = 29 on
    replace b16 : mm.1 54 0 r - 2300 = 29 := b16
    show X 17 [some (vR 12 0), some (vI (nI r)), some (vI (mm.1 54 0 r - 2300)), some (vI (nI s)), none] [] mm
    exact bare b16
theorem con_X12_holds (l : Launch) : CON l y_X12_holds prog_14_method_157_code 5 (some .boolean) rm_X12_holds Pre_X12_holds Fn_X12_holds := CON_of (by decide) rfl rfl (sa_X12_holds l) vc_X12_holds
