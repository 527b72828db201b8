/-! PART 48: the model: a step of the YEARS' text: tests, orders -/

/-- TOKEN, and what is told of the valley that stands -/
def YT (m : MM) (ns nm nt : Nat) : Prop := TXo m ∧ (m.1 54 0 0 = nI ns ∧ ns ≤ 4) ∧ (m.1 54 0 1 = nI nm ∧ nm ≤ 4) ∧ (m.1 54 0 2 = nI nt ∧ nt ≤ 12)
theorem YT_mk {m m' : MM} {ns nm nt : Nat} (h : YT m ns nm nt) (hT : TXo m') (h54 : ∀ j, j < 3 → m'.1 54 0 j = m.1 54 0 j) : YT m' ns nm nt :=
  ⟨hT, ⟨by rw [h54 _ (by decide)]; exact h.2.1.1, h.2.1.2⟩, ⟨by rw [h54 _ (by decide)]; exact h.2.2.1.1, h.2.2.1.2⟩, ⟨by rw [h54 _ (by decide)]; exact h.2.2.2.1, h.2.2.2.2⟩⟩
theorem YT_at {m : MM} {ns nm nt j : Nat} {x : Int32} (h : YT m ns nm nt) (hj : 3 ≤ j) : YT (mI m 54 0 j x) ns nm nt := YT_mk h h.1 (fun i hi => upd_ne (by omega))
theorem YT_ah {m : MM} {ns nm nt : Nat} (h : YT m ns nm nt) : YT (ahM m) ns nm nt := YT_mk h (TXo_ah h.1) (fun _ _ => rfl)
theorem YT_fa {m : MM} {ns nm nt : Nat} {k : Int32} (h : YT m ns nm nt) : YT (faM m k) ns nm nt := YT_mk h (TXo_fa h.1) (fun _ _ => by rw [fa54])
theorem YT_ww {m : MM} {ns nm nt : Nat} {c : Int32} (h : YT m ns nm nt) : YT (pWW m c).2 ns nm nt := by
  unfold pWW; split
  · exact YT_ah h
  · exact YT_fa h
theorem YT_sg {m : MM} {ns nm nt : Nat} {c : Int32} (h : YT m ns nm nt) : YT (pSg m c).2 ns nm nt := by
  unfold pSg; split
  · exact YT_ah h
  · exact YT_fa h
theorem YT_nu {m : MM} {ns nm nt t : Nat} {lo hi : Int32} (h : YT m ns nm nt) (ht : 3 ≤ t) : YT (pNu m t lo hi).2 ns nm nt := by
  unfold pNu; split
  · split
    · exact YT_fa h
    · exact YT_ah (YT_at h ht)
  · exact YT_fa h
theorem YT_ol {m : MM} {ns nm nt b c t : Nat} (h : YT m ns nm nt) (ht : 3 ≤ t) : YT (pOl m b c t).2 ns nm nt := by
  unfold pOl; split
  · split
    · exact YT_fa (YT_at h ht)
    · exact YT_ah (YT_at h ht)
  · exact YT_fa h
def pTo (m : MM) (t : Nat) : PR := pOl m 0 (m.1 54 0 0).toNatClampNeg t
def pMo (m : MM) (t : Nat) : PR := pOl m 4 (m.1 54 0 1).toNatClampNeg t

--tpl ⟨_, _, _, {1N}, by assumption, by omega, rfl⟩ || bI ((pTo {m} {1n}).1 = true) || (pTo {m} {1n}).2
def Pre_X12_suitorTo : PreT := fun m as => ∃ ns nm nt t, YT m ns nm nt ∧ t < 3060 ∧ as = [vR 12 0, vI (nI t)]
def Fn_X12_suitorTo : FnT := fun m as => match as with
  | [_, Sum.inl t] => (some (vI (bI ((pTo m t.toNatClampNeg).1 = true))), (pTo m t.toNatClampNeg).2)
  | _ => (none, m)
abbrev y_X12_suitorTo : MethodName := ⟨"GivenUpModel", "suitorTo", "(I)Z"⟩
def P_X12_suitorTo : List StpT := [s_aload 0, s_ic (0), s_aload 0, s_getR 12 0 54, s_ic (0), s_iald, s_iload 1, s_callV 12 3 Pre_X12_oldOne Fn_X12_oldOne, s_zret]
def pc_X12_suitorTo : Nat → Nat := fun i => [0, 1, 2, 3, 6, 7, 8, 9, 12].getD i 0
def dl_X12_suitorTo : List (Nat × Instr × Nat) := [(0, .aload_n 0, 1), (1, .iconst 0, 1), (2, .aload_n 0, 1), (3, .getfield 7, 3), (6, .iconst 0, 1), (7, .iaload, 1), (8, .iload_n 1, 1), (9, .invokevirtual 203, 3), (12, .ireturn, 1)]
theorem dc_X12_suitorTo : DEC prog_14_method_50_code pc_X12_suitorTo dl_X12_suitorTo := DEC_of (by decide +kernel)
abbrev rm_X12_suitorTo : Room := { frames := 8, cells := 0, slots := 0, locals := 176 }
set_option maxRecDepth 20000 in
theorem sa_X12_suitorTo (l : Launch) : SNDALL l prog_14_method_50_code "GivenUpModel" 2 (some .boolean) rm_X12_suitorTo P_X12_suitorTo pc_X12_suitorTo := fun p e s m args below meth c cells slots Q D dA ad A RR hC hR => by
  have hM := RTX_room (R := rm_X12_suitorTo) hR
  exact ⟨st_aload_n hC (n := 0) (k := 0) (dc_X12_suitorTo 0 (0, .aload_n 0, 1) rfl rfl) rfl rfl,
    st_iconst hC (n := 1) (x := 0) (dc_X12_suitorTo 1 (1, .iconst 0, 1) rfl rfl) rfl (by decide),
    st_aload_n hC (n := 2) (k := 0) (dc_X12_suitorTo 2 (2, .aload_n 0, 1) rfl rfl) rfl rfl,
    st_getR hC (n := 3) (k := 12) (j := 0) (dc_X12_suitorTo 3 (3, .getfield 7, 3) rfl rfl) rfl clf_12 (by decide) rfl (by decide) wd_1552,
    st_iconst hC (n := 4) (x := 0) (dc_X12_suitorTo 4 (6, .iconst 0, 1) rfl rfl) rfl (by decide),
    st_iald hC (n := 5) (dc_X12_suitorTo 5 (7, .iaload, 1) rfl rfl) rfl,
    st_iload_n hC (n := 6) (k := 1) (dc_X12_suitorTo 6 (8, .iload_n 1, 1) rfl rfl) rfl rfl,
    st_callV hC (n := 7) (k := 12) (na := 3) (con_X12_oldOne l) (dc_X12_suitorTo 7 (9, .invokevirtual 203, 3) rfl rfl) rfl wd_1817 wd_160 (by decide) ⟨rfl, rfl, by decide, by decide⟩ hM wd_1814 wd_1816 wd_71 clf_12,
    st_zret hC (n := 8) hR (dc_X12_suitorTo 8 (12, .ireturn, 1) rfl rfl), trivial⟩
set_option maxRecDepth 8000 in
theorem vc_X12_suitorTo : VC P_X12_suitorTo 2 Pre_X12_suitorTo Fn_X12_suitorTo := by
  rintro mm as hom hoa ⟨ns, nm, nt, t, hY, ht, rfl⟩
  refine ⟨Nat.le_of_ble_eq_true rfl, fun X h => ?_⟩
  have h0 : mm.1 54 0 0 = nI ns := hY.2.1.1
  have hns : ns ≤ 4 := hY.2.1.2
  replace h : RUN P_X12_suitorTo (RT (pTo mm (nI t).toNatClampNeg)) X := h
  show X 0 [some (vR 12 0), some (vI (nI t))] [] mm
  refine h (fun _ => false) 3000 0 _ _ _ ?_
  refine And.intro (show inb 0 (alen 54) = true from rfl) ?_
  refine And.intro (show Pre_X12_oldOne mm [vR 12 0, vI 0, vI (mm.1 54 0 0), vI (nI t)] from ⟨hY.1, 0, ns, t, by omega, ht, by rw [h0]; rfl⟩) ?_
  refine And.intro bI_in ?_
  show ((some (vI (bI ((pOl mm 0 (mm.1 54 0 0).toNatClampNeg (nI t).toNatClampNeg).1 = true))) : Option MV), (pOl mm 0 (mm.1 54 0 0).toNatClampNeg (nI t).toNatClampNeg).2) = _
  exact PR_q rfl
theorem con_X12_suitorTo (l : Launch) : CON l y_X12_suitorTo prog_14_method_50_code 2 (some .boolean) rm_X12_suitorTo Pre_X12_suitorTo Fn_X12_suitorTo := CON_of (by decide) rfl rfl (sa_X12_suitorTo l) vc_X12_suitorTo
--tpl ⟨_, _, _, {1N}, by assumption, by omega, rfl⟩ || bI ((pMo {m} {1n}).1 = true) || (pMo {m} {1n}).2
def Pre_X12_maidTo : PreT := fun m as => ∃ ns nm nt t, YT m ns nm nt ∧ t < 3060 ∧ as = [vR 12 0, vI (nI t)]
def Fn_X12_maidTo : FnT := fun m as => match as with
  | [_, Sum.inl t] => (some (vI (bI ((pMo m t.toNatClampNeg).1 = true))), (pMo m t.toNatClampNeg).2)
  | _ => (none, m)
abbrev y_X12_maidTo : MethodName := ⟨"GivenUpModel", "maidTo", "(I)Z"⟩
def P_X12_maidTo : List StpT := [s_aload 0, s_ic (4), s_aload 0, s_getR 12 0 54, s_ic (1), s_iald, s_iload 1, s_callV 12 3 Pre_X12_oldOne Fn_X12_oldOne, s_zret]
def pc_X12_maidTo : Nat → Nat := fun i => [0, 1, 2, 3, 6, 7, 8, 9, 12].getD i 0
def dl_X12_maidTo : List (Nat × Instr × Nat) := [(0, .aload_n 0, 1), (1, .iconst 4, 1), (2, .aload_n 0, 1), (3, .getfield 7, 3), (6, .iconst 1, 1), (7, .iaload, 1), (8, .iload_n 1, 1), (9, .invokevirtual 203, 3), (12, .ireturn, 1)]
theorem dc_X12_maidTo : DEC prog_14_method_51_code pc_X12_maidTo dl_X12_maidTo := DEC_of (by decide +kernel)
abbrev rm_X12_maidTo : Room := { frames := 8, cells := 0, slots := 0, locals := 176 }
set_option maxRecDepth 20000 in
theorem sa_X12_maidTo (l : Launch) : SNDALL l prog_14_method_51_code "GivenUpModel" 2 (some .boolean) rm_X12_maidTo P_X12_maidTo pc_X12_maidTo := fun p e s m args below meth c cells slots Q D dA ad A RR hC hR => by
  have hM := RTX_room (R := rm_X12_maidTo) hR
  exact ⟨st_aload_n hC (n := 0) (k := 0) (dc_X12_maidTo 0 (0, .aload_n 0, 1) rfl rfl) rfl rfl,
    st_iconst hC (n := 1) (x := 4) (dc_X12_maidTo 1 (1, .iconst 4, 1) rfl rfl) rfl (by decide),
    st_aload_n hC (n := 2) (k := 0) (dc_X12_maidTo 2 (2, .aload_n 0, 1) rfl rfl) rfl rfl,
    st_getR hC (n := 3) (k := 12) (j := 0) (dc_X12_maidTo 3 (3, .getfield 7, 3) rfl rfl) rfl clf_12 (by decide) rfl (by decide) wd_1552,
    st_iconst hC (n := 4) (x := 1) (dc_X12_maidTo 4 (6, .iconst 1, 1) rfl rfl) rfl (by decide),
    st_iald hC (n := 5) (dc_X12_maidTo 5 (7, .iaload, 1) rfl rfl) rfl,
    st_iload_n hC (n := 6) (k := 1) (dc_X12_maidTo 6 (8, .iload_n 1, 1) rfl rfl) rfl rfl,
    st_callV hC (n := 7) (k := 12) (na := 3) (con_X12_oldOne l) (dc_X12_maidTo 7 (9, .invokevirtual 203, 3) rfl rfl) rfl wd_1817 wd_160 (by decide) ⟨rfl, rfl, by decide, by decide⟩ hM wd_1814 wd_1816 wd_71 clf_12,
    st_zret hC (n := 8) hR (dc_X12_maidTo 8 (12, .ireturn, 1) rfl rfl), trivial⟩
set_option maxRecDepth 8000 in
theorem vc_X12_maidTo : VC P_X12_maidTo 2 Pre_X12_maidTo Fn_X12_maidTo := by
  rintro mm as hom hoa ⟨ns, nm, nt, t, hY, ht, rfl⟩
  refine ⟨Nat.le_of_ble_eq_true rfl, fun X h => ?_⟩
  have h0 : mm.1 54 0 1 = nI nm := hY.2.2.1.1
  have hns : nm ≤ 4 := hY.2.2.1.2
  replace h : RUN P_X12_maidTo (RT (pMo mm (nI t).toNatClampNeg)) X := h
  show X 0 [some (vR 12 0), some (vI (nI t))] [] mm
  refine h (fun _ => false) 3000 0 _ _ _ ?_
  refine And.intro (show inb 1 (alen 54) = true from rfl) ?_
  refine And.intro (show Pre_X12_oldOne mm [vR 12 0, vI 4, vI (mm.1 54 0 1), vI (nI t)] from ⟨hY.1, 4, nm, t, by omega, ht, by rw [h0]; rfl⟩) ?_
  refine And.intro bI_in ?_
  show ((some (vI (bI ((pOl mm 4 (mm.1 54 0 1).toNatClampNeg (nI t).toNatClampNeg).1 = true))) : Option MV), (pOl mm 4 (mm.1 54 0 1).toNatClampNeg (nI t).toNatClampNeg).2) = _
  exact PR_q rfl
theorem con_X12_maidTo (l : Launch) : CON l y_X12_maidTo prog_14_method_51_code 2 (some .boolean) rm_X12_maidTo Pre_X12_maidTo Fn_X12_maidTo := CON_of (by decide) rfl rfl (sa_X12_maidTo l) vc_X12_maidTo
abbrev cmP (m : MM) : Prop := sgP m 60 ∨ sgP m 62 ∨ sgP m 61
def teD (r : Nat) (m : MM) : PR := if cmP m then pNu (ahM (mI m 54 0 (r + 5) (m.1 12 0 15))) (r + 3) 0 9999 else (false, faM m 2)
def teC (k : Int32) (r : Nat) (m : MM) : PR := if k = 28 then (true, m) else teD r m
def teB2 (k : Int32) (r : Nat) (m : MM) : PR := pBd (pMo m (r + 2)) (teC k r)
def teB1 (k : Int32) (r : Nat) (m : MM) : PR := pBd (pWW m 15) (teB2 k r)
def teB (k : Int32) (r : Nat) (m : MM) : PR := if k = 29 then (true, m) else teB1 k r m
def teA (k : Int32) (r : Nat) (m : MM) : PR := pBd (pTo m (r + 1)) (teB k r)
def pTe (m : MM) (r : Nat) : PR := if kyA m < 27 then (false, faM m 2) else teA (kyA m) r (ahM (mI m 54 0 r (2300 + kyA m)))

--tpl ⟨_, _, _, {1N}, by assumption, by omega, by omega, rfl⟩ || bI ((pTe {m} {1n}).1 = true) || (pTe {m} {1n}).2
def Pre_X12_test : PreT := fun m as => ∃ ns nm nt r, YT m ns nm nt ∧ 2186 ≤ r ∧ r + 6 ≤ 3060 ∧ as = [vR 12 0, vI (nI r)]
def Fn_X12_test : FnT := fun m as => match as with
  | [_, Sum.inl r] => (some (vI (bI ((pTe m r.toNatClampNeg).1 = true))), (pTe m r.toNatClampNeg).2)
  | _ => (none, m)
abbrev y_X12_test : MethodName := ⟨"GivenUpModel", "test", "(I)Z"⟩
def P_X12_test : List StpT := [s_aload 0, s_ldS 1, s_callV 12 1 Pre_X12_inWords Fn_X12_inWords, s_istore 2, s_iload 2, s_ic (27), s_icge 11, s_aload 0, s_ic (2), s_callV 12 1 Pre_X12_fails Fn_X12_fails, s_zret, s_aload 0, s_getR 12 0 54, s_iload 1, s_ic (2300), s_iload 2, s_iadd, s_iast, s_aload 0, s_callV 12 0 Pre_X12_ahead Fn_X12_ahead, s_aload 0, s_iload 1, s_ic (1), s_iadd, s_callV 12 1 Pre_X12_suitorTo Fn_X12_suitorTo, s_ifne 28, s_ic (0), s_zret, s_iload 2, s_ic (29), s_icne 33, s_ic (1), s_zret, s_aload 0, s_ldS 1, s_ic (15), s_callV 12 2 Pre_X12_wantWord Fn_X12_wantWord, s_ifeq 44, s_aload 0, s_iload 1, s_ic (2), s_iadd, s_callV 12 1 Pre_X12_maidTo Fn_X12_maidTo, s_ifne 46, s_ic (0), s_zret, s_iload 2, s_ic (28), s_icne 51, s_ic (1), s_zret, s_aload 0, s_ic (60), s_callV 12 1 Pre_X12_isSign Fn_X12_isSign, s_ifne 67, s_aload 0, s_ic (62), s_callV 12 1 Pre_X12_isSign Fn_X12_isSign, s_ifne 67, s_aload 0, s_ic (61), s_callV 12 1 Pre_X12_isSign Fn_X12_isSign, s_ifne 67, s_aload 0, s_ic (2), s_callV 12 1 Pre_X12_fails Fn_X12_fails, s_zret, s_aload 0, s_getR 12 0 54, s_iload 1, s_ic (5), s_iadd, s_aload 0, s_getI 12 15, s_iast, s_aload 0, s_callV 12 0 Pre_X12_ahead Fn_X12_ahead, s_aload 0, s_iload 1, s_ic (3), s_iadd, s_ic (0), s_ic (9999), s_callV 12 3 Pre_X12_number Fn_X12_number, s_zret]
def pc_X12_test : Nat → Nat := fun i => [0, 1, 3, 6, 7, 8, 10, 13, 14, 15, 18, 19, 20, 23, 24, 27, 28, 29, 30, 31, 34, 35, 36, 37, 38, 41, 44, 45, 46, 47, 49, 52, 53, 54, 55, 57, 59, 62, 65, 66, 67, 68, 69, 72, 75, 76, 77, 78, 80, 83, 84, 85, 86, 88, 91, 94, 95, 97, 100, 103, 104, 106, 109, 112, 113, 114, 117, 118, 119, 122, 123, 124, 125, 126, 129, 130, 131, 134, 135, 136, 137, 138, 139, 142, 145].getD i 0
def dl_X12_test : List (Nat × Instr × Nat) := [(0, .aload_n 0, 1), (1, .ldc 180, 2), (3, .invokevirtual 172, 3), (6, .istore_n 2, 1), (7, .iload_n 2, 1), (8, .bipush 27, 2), (10, .if_icmp .ge 9, 3), (13, .aload_n 0, 1), (14, .iconst 2, 1), (15, .invokevirtual 169, 3), (18, .ireturn, 1), (19, .aload_n 0, 1), (20, .getfield 7, 3), (23, .iload_n 1, 1), (24, .sipush 2300, 3), (27, .iload_n 2, 1), (28, .iadd, 1), (29, .iastore, 1), (30, .aload_n 0, 1), (31, .invokevirtual 163, 3), (34, .aload_n 0, 1), (35, .iload_n 1, 1), (36, .iconst 1, 1), (37, .iadd, 1), (38, .invokevirtual 244, 3), (41, .ifCond .ne 5, 3), (44, .iconst 0, 1), (45, .ireturn, 1), (46, .iload_n 2, 1), (47, .bipush 29, 2), (49, .if_icmp .ne 5, 3), (52, .iconst 1, 1), (53, .ireturn, 1), (54, .aload_n 0, 1), (55, .ldc 180, 2), (57, .bipush 15, 2), (59, .invokevirtual 199, 3), (62, .ifCond .eq 13, 3), (65, .aload_n 0, 1), (66, .iload_n 1, 1), (67, .iconst 2, 1), (68, .iadd, 1), (69, .invokevirtual 247, 3), (72, .ifCond .ne 5, 3), (75, .iconst 0, 1), (76, .ireturn, 1), (77, .iload_n 2, 1), (78, .bipush 28, 2), (80, .if_icmp .ne 5, 3), (83, .iconst 1, 1), (84, .ireturn, 1), (85, .aload_n 0, 1), (86, .bipush 60, 2), (88, .invokevirtual 166, 3), (91, .ifCond .ne 27, 3), (94, .aload_n 0, 1), (95, .bipush 62, 2), (97, .invokevirtual 166, 3), (100, .ifCond .ne 18, 3), (103, .aload_n 0, 1), (104, .bipush 61, 2), (106, .invokevirtual 166, 3), (109, .ifCond .ne 9, 3), (112, .aload_n 0, 1), (113, .iconst 2, 1), (114, .invokevirtual 169, 3), (117, .ireturn, 1), (118, .aload_n 0, 1), (119, .getfield 7, 3), (122, .iload_n 1, 1), (123, .iconst 5, 1), (124, .iadd, 1), (125, .aload_n 0, 1), (126, .getfield 129, 3), (129, .iastore, 1), (130, .aload_n 0, 1), (131, .invokevirtual 163, 3), (134, .aload_n 0, 1), (135, .iload_n 1, 1), (136, .iconst 3, 1), (137, .iadd, 1), (138, .iconst 0, 1), (139, .sipush 9999, 3), (142, .invokevirtual 196, 3), (145, .ireturn, 1)]
theorem dc_X12_test : DEC prog_14_method_52_code pc_X12_test dl_X12_test := DEC_of (by decide +kernel)
abbrev rm_X12_test : Room := { frames := 9, cells := 0, slots := 0, locals := 197 }
set_option maxRecDepth 20000 in
theorem sa_X12_test (l : Launch) : SNDALL l prog_14_method_52_code "GivenUpModel" 3 (some .boolean) rm_X12_test P_X12_test pc_X12_test := fun p e s m args below meth c cells slots Q D dA ad A RR hC hR => by
  have hM := RTX_room (R := rm_X12_test) hR
  exact ⟨st_aload_n hC (n := 0) (k := 0) (dc_X12_test 0 (0, .aload_n 0, 1) rfl rfl) rfl rfl,
    st_ldS1 hC (n := 1) (dc_X12_test 1 (1, .ldc 180, 2) rfl rfl) rfl rfl,
    st_callV hC (n := 2) (k := 12) (na := 1) (con_X12_inWords l) (dc_X12_test 2 (3, .invokevirtual 172, 3) rfl rfl) rfl wd_1767 wd_160 (by decide) ⟨rfl, rfl, by decide, by decide⟩ hM wd_1764 wd_1766 wd_59 clf_12,
    st_istore_n hC (n := 3) (k := 2) (dc_X12_test 3 (6, .istore_n 2, 1) rfl rfl) rfl rfl (by decide),
    st_iload_n hC (n := 4) (k := 2) (dc_X12_test 4 (7, .iload_n 2, 1) rfl rfl) rfl rfl,
    st_bipush hC (n := 5) (x := 27) (dc_X12_test 5 (8, .bipush 27, 2) rfl rfl) rfl (by decide),
    st_icge hC (n := 6) (dc_X12_test 6 (10, .if_icmp .ge 9, 3) rfl rfl) rfl (by decide),
    st_aload_n hC (n := 7) (k := 0) (dc_X12_test 7 (13, .aload_n 0, 1) rfl rfl) rfl rfl,
    st_iconst hC (n := 8) (x := 2) (dc_X12_test 8 (14, .iconst 2, 1) rfl rfl) rfl (by decide),
    st_callV hC (n := 9) (k := 12) (na := 1) (con_X12_fails l) (dc_X12_test 9 (15, .invokevirtual 169, 3) rfl rfl) rfl wd_1781 wd_160 (by decide) ⟨rfl, rfl, by decide, by decide⟩ hM wd_1778 wd_1780 wd_62 clf_12,
    st_zret hC (n := 10) hR (dc_X12_test 10 (18, .ireturn, 1) rfl rfl),
    st_aload_n hC (n := 11) (k := 0) (dc_X12_test 11 (19, .aload_n 0, 1) rfl rfl) rfl rfl,
    st_getR hC (n := 12) (k := 12) (j := 0) (dc_X12_test 12 (20, .getfield 7, 3) rfl rfl) rfl clf_12 (by decide) rfl (by decide) wd_1552,
    st_iload_n hC (n := 13) (k := 1) (dc_X12_test 13 (23, .iload_n 1, 1) rfl rfl) rfl rfl,
    st_sipush hC (n := 14) (x := 2300) (dc_X12_test 14 (24, .sipush 2300, 3) rfl rfl) rfl (by decide),
    st_iload_n hC (n := 15) (k := 2) (dc_X12_test 15 (27, .iload_n 2, 1) rfl rfl) rfl rfl,
    st_iadd hC (n := 16) (dc_X12_test 16 (28, .iadd, 1) rfl rfl) rfl,
    st_iast hC (n := 17) (dc_X12_test 17 (29, .iastore, 1) rfl rfl) rfl,
    st_aload_n hC (n := 18) (k := 0) (dc_X12_test 18 (30, .aload_n 0, 1) rfl rfl) rfl rfl,
    st_callV hC (n := 19) (k := 12) (na := 0) (con_X12_ahead l) (dc_X12_test 19 (31, .invokevirtual 163, 3) rfl rfl) rfl wd_1742 wd_160 (by decide) ⟨rfl, rfl, by decide, by decide⟩ hM wd_1739 wd_1741 wd_55 clf_12,
    st_aload_n hC (n := 20) (k := 0) (dc_X12_test 20 (34, .aload_n 0, 1) rfl rfl) rfl rfl,
    st_iload_n hC (n := 21) (k := 1) (dc_X12_test 21 (35, .iload_n 1, 1) rfl rfl) rfl rfl,
    st_iconst hC (n := 22) (x := 1) (dc_X12_test 22 (36, .iconst 1, 1) rfl rfl) rfl (by decide),
    st_iadd hC (n := 23) (dc_X12_test 23 (37, .iadd, 1) rfl rfl) rfl,
    st_callV hC (n := 24) (k := 12) (na := 1) (con_X12_suitorTo l) (dc_X12_test 24 (38, .invokevirtual 244, 3) rfl rfl) rfl wd_1865 wd_160 (by decide) ⟨rfl, rfl, by decide, by decide⟩ hM wd_1862 wd_1864 wd_82 clf_12,
    st_ifne hC (n := 25) (dc_X12_test 25 (41, .ifCond .ne 5, 3) rfl rfl) rfl (by decide),
    st_iconst hC (n := 26) (x := 0) (dc_X12_test 26 (44, .iconst 0, 1) rfl rfl) rfl (by decide),
    st_zret hC (n := 27) hR (dc_X12_test 27 (45, .ireturn, 1) rfl rfl),
    st_iload_n hC (n := 28) (k := 2) (dc_X12_test 28 (46, .iload_n 2, 1) rfl rfl) rfl rfl,
    st_bipush hC (n := 29) (x := 29) (dc_X12_test 29 (47, .bipush 29, 2) rfl rfl) rfl (by decide),
    st_icne hC (n := 30) (dc_X12_test 30 (49, .if_icmp .ne 5, 3) rfl rfl) rfl (by decide),
    st_iconst hC (n := 31) (x := 1) (dc_X12_test 31 (52, .iconst 1, 1) rfl rfl) rfl (by decide),
    st_zret hC (n := 32) hR (dc_X12_test 32 (53, .ireturn, 1) rfl rfl),
    st_aload_n hC (n := 33) (k := 0) (dc_X12_test 33 (54, .aload_n 0, 1) rfl rfl) rfl rfl,
    st_ldS1 hC (n := 34) (dc_X12_test 34 (55, .ldc 180, 2) rfl rfl) rfl rfl,
    st_bipush hC (n := 35) (x := 15) (dc_X12_test 35 (57, .bipush 15, 2) rfl rfl) rfl (by decide),
    st_callV hC (n := 36) (k := 12) (na := 2) (con_X12_wantWord l) (dc_X12_test 36 (59, .invokevirtual 199, 3) rfl rfl) rfl wd_1809 wd_160 (by decide) ⟨rfl, rfl, by decide, by decide⟩ hM wd_1806 wd_1808 wd_69 clf_12,
    st_ifeq hC (n := 37) (dc_X12_test 37 (62, .ifCond .eq 13, 3) rfl rfl) rfl (by decide),
    st_aload_n hC (n := 38) (k := 0) (dc_X12_test 38 (65, .aload_n 0, 1) rfl rfl) rfl rfl,
    st_iload_n hC (n := 39) (k := 1) (dc_X12_test 39 (66, .iload_n 1, 1) rfl rfl) rfl rfl,
    st_iconst hC (n := 40) (x := 2) (dc_X12_test 40 (67, .iconst 2, 1) rfl rfl) rfl (by decide),
    st_iadd hC (n := 41) (dc_X12_test 41 (68, .iadd, 1) rfl rfl) rfl,
    st_callV hC (n := 42) (k := 12) (na := 1) (con_X12_maidTo l) (dc_X12_test 42 (69, .invokevirtual 247, 3) rfl rfl) rfl wd_1869 wd_160 (by decide) ⟨rfl, rfl, by decide, by decide⟩ hM wd_1866 wd_1868 wd_83 clf_12,
    st_ifne hC (n := 43) (dc_X12_test 43 (72, .ifCond .ne 5, 3) rfl rfl) rfl (by decide),
    st_iconst hC (n := 44) (x := 0) (dc_X12_test 44 (75, .iconst 0, 1) rfl rfl) rfl (by decide),
    st_zret hC (n := 45) hR (dc_X12_test 45 (76, .ireturn, 1) rfl rfl),
    st_iload_n hC (n := 46) (k := 2) (dc_X12_test 46 (77, .iload_n 2, 1) rfl rfl) rfl rfl,
    st_bipush hC (n := 47) (x := 28) (dc_X12_test 47 (78, .bipush 28, 2) rfl rfl) rfl (by decide),
    st_icne hC (n := 48) (dc_X12_test 48 (80, .if_icmp .ne 5, 3) rfl rfl) rfl (by decide),
    st_iconst hC (n := 49) (x := 1) (dc_X12_test 49 (83, .iconst 1, 1) rfl rfl) rfl (by decide),
    st_zret hC (n := 50) hR (dc_X12_test 50 (84, .ireturn, 1) rfl rfl),
    st_aload_n hC (n := 51) (k := 0) (dc_X12_test 51 (85, .aload_n 0, 1) rfl rfl) rfl rfl,
    st_bipush hC (n := 52) (x := 60) (dc_X12_test 52 (86, .bipush 60, 2) rfl rfl) rfl (by decide),
    st_callV hC (n := 53) (k := 12) (na := 1) (con_X12_isSign l) (dc_X12_test 53 (88, .invokevirtual 166, 3) rfl rfl) rfl wd_1841 wd_160 (by decide) ⟨rfl, rfl, by decide, by decide⟩ hM wd_1838 wd_1840 wd_77 clf_12,
    st_ifne hC (n := 54) (dc_X12_test 54 (91, .ifCond .ne 27, 3) rfl rfl) rfl (by decide),
    st_aload_n hC (n := 55) (k := 0) (dc_X12_test 55 (94, .aload_n 0, 1) rfl rfl) rfl rfl,
    st_bipush hC (n := 56) (x := 62) (dc_X12_test 56 (95, .bipush 62, 2) rfl rfl) rfl (by decide),
    st_callV hC (n := 57) (k := 12) (na := 1) (con_X12_isSign l) (dc_X12_test 57 (97, .invokevirtual 166, 3) rfl rfl) rfl wd_1841 wd_160 (by decide) ⟨rfl, rfl, by decide, by decide⟩ hM wd_1838 wd_1840 wd_77 clf_12,
    st_ifne hC (n := 58) (dc_X12_test 58 (100, .ifCond .ne 18, 3) rfl rfl) rfl (by decide),
    st_aload_n hC (n := 59) (k := 0) (dc_X12_test 59 (103, .aload_n 0, 1) rfl rfl) rfl rfl,
    st_bipush hC (n := 60) (x := 61) (dc_X12_test 60 (104, .bipush 61, 2) rfl rfl) rfl (by decide),
    st_callV hC (n := 61) (k := 12) (na := 1) (con_X12_isSign l) (dc_X12_test 61 (106, .invokevirtual 166, 3) rfl rfl) rfl wd_1841 wd_160 (by decide) ⟨rfl, rfl, by decide, by decide⟩ hM wd_1838 wd_1840 wd_77 clf_12,
    st_ifne hC (n := 62) (dc_X12_test 62 (109, .ifCond .ne 9, 3) rfl rfl) rfl (by decide),
    st_aload_n hC (n := 63) (k := 0) (dc_X12_test 63 (112, .aload_n 0, 1) rfl rfl) rfl rfl,
    st_iconst hC (n := 64) (x := 2) (dc_X12_test 64 (113, .iconst 2, 1) rfl rfl) rfl (by decide),
    st_callV hC (n := 65) (k := 12) (na := 1) (con_X12_fails l) (dc_X12_test 65 (114, .invokevirtual 169, 3) rfl rfl) rfl wd_1781 wd_160 (by decide) ⟨rfl, rfl, by decide, by decide⟩ hM wd_1778 wd_1780 wd_62 clf_12,
    st_zret hC (n := 66) hR (dc_X12_test 66 (117, .ireturn, 1) rfl rfl),
    st_aload_n hC (n := 67) (k := 0) (dc_X12_test 67 (118, .aload_n 0, 1) rfl rfl) rfl rfl,
    st_getR hC (n := 68) (k := 12) (j := 0) (dc_X12_test 68 (119, .getfield 7, 3) rfl rfl) rfl clf_12 (by decide) rfl (by decide) wd_1552,
    st_iload_n hC (n := 69) (k := 1) (dc_X12_test 69 (122, .iload_n 1, 1) rfl rfl) rfl rfl,
    st_iconst hC (n := 70) (x := 5) (dc_X12_test 70 (123, .iconst 5, 1) rfl rfl) rfl (by decide),
    st_iadd hC (n := 71) (dc_X12_test 71 (124, .iadd, 1) rfl rfl) rfl,
    st_aload_n hC (n := 72) (k := 0) (dc_X12_test 72 (125, .aload_n 0, 1) rfl rfl) rfl rfl,
    st_getI hC (n := 73) (k := 12) (j := 15) (dc_X12_test 73 (126, .getfield 129, 3) rfl rfl) rfl clf_12 (by decide) rfl wd_1567,
    st_iast hC (n := 74) (dc_X12_test 74 (129, .iastore, 1) rfl rfl) rfl,
    st_aload_n hC (n := 75) (k := 0) (dc_X12_test 75 (130, .aload_n 0, 1) rfl rfl) rfl rfl,
    st_callV hC (n := 76) (k := 12) (na := 0) (con_X12_ahead l) (dc_X12_test 76 (131, .invokevirtual 163, 3) rfl rfl) rfl wd_1742 wd_160 (by decide) ⟨rfl, rfl, by decide, by decide⟩ hM wd_1739 wd_1741 wd_55 clf_12,
    st_aload_n hC (n := 77) (k := 0) (dc_X12_test 77 (134, .aload_n 0, 1) rfl rfl) rfl rfl,
    st_iload_n hC (n := 78) (k := 1) (dc_X12_test 78 (135, .iload_n 1, 1) rfl rfl) rfl rfl,
    st_iconst hC (n := 79) (x := 3) (dc_X12_test 79 (136, .iconst 3, 1) rfl rfl) rfl (by decide),
    st_iadd hC (n := 80) (dc_X12_test 80 (137, .iadd, 1) rfl rfl) rfl,
    st_iconst hC (n := 81) (x := 0) (dc_X12_test 81 (138, .iconst 0, 1) rfl rfl) rfl (by decide),
    st_sipush hC (n := 82) (x := 9999) (dc_X12_test 82 (139, .sipush 9999, 3) rfl rfl) rfl (by decide),
    st_callV hC (n := 83) (k := 12) (na := 3) (con_X12_number l) (dc_X12_test 83 (142, .invokevirtual 196, 3) rfl rfl) rfl wd_1801 wd_160 (by decide) ⟨rfl, rfl, by decide, by decide⟩ hM wd_1798 wd_1800 wd_67 clf_12,
    st_zret hC (n := 84) hR (dc_X12_test 84 (145, .ireturn, 1) rfl rfl), trivial⟩
set_option maxRecDepth 8000 in
theorem vc_X12_test : VC P_X12_test 3 Pre_X12_test Fn_X12_test := by
  rintro mm as hom hoa ⟨ns, nm, nt, r, hY, hr1, hr2, rfl⟩
  refine ⟨Nat.le_of_ble_eq_true rfl, fun X h => ?_⟩
  have er : (nI r).toNatClampNeg = r := nI_clamp (by omega)
  have x1 : nI r + 1 = nI (r + 1) := nI_1 _
  have x2 : nI r + 2 = nI (r + 2) := by simp (disch := omega) only [li, pk_mul, nI_add, nI_clamp]
  have x3 : nI r + 3 = nI (r + 3) := by simp (disch := omega) only [li, pk_mul, nI_add, nI_clamp]
  have x5 : nI r + 5 = nI (r + 5) := by simp (disch := omega) only [li, pk_mul, nI_add, nI_clamp]
  have e1 : (nI (r + 1)).toNatClampNeg = r + 1 := nI_clamp (by omega)
  have e2 : (nI (r + 2)).toNatClampNeg = r + 2 := nI_clamp (by omega)
  have e3 : (nI (r + 3)).toNatClampNeg = r + 3 := nI_clamp (by omega)
  have e5 : (nI (r + 5)).toNatClampNeg = r + 5 := nI_clamp (by omega)
  replace h : RUN P_X12_test (RT (pTe mm (nI r).toNatClampNeg)) X := h
  rw [er] at h
  obtain ⟨k, hk⟩ : ∃ k, k = kyA mm := ⟨_, rfl⟩
  have hp : pTe mm r = if k < 27 then (false, faM mm 2) else teA k r (ahM (mI mm 54 0 r (2300 + k))) := by rw [hk]; rfl
  rw [hp] at h
  have s4 : ∀ M p, YT M ns nm nt → p = teD r M → RUN P_X12_test (RT p) X → X 51 [some (vR 12 0), some (vI (nI r)), some (vI (k))] [] (M) := by
    intro M p hM hp h
    have yes : cmP M → X 67 [some (vR 12 0), some (vI (nI r)), some (vI (k))] [] (M) := by
      intro hc
      unfold teD at hp
      rw [if_pos hc] at hp
      have hM2 : YT (mI M 54 0 (r + 5) (M.1 12 0 15)) ns nm nt := YT_at hM (by omega)
      suffices z : X 75 [some (vR 12 0), some (vI (nI r)), some (vI (k))] [] (mI M 54 0 (r + 5) (M.1 12 0 15)) by
        show X 67 [some (vR 12 0), some (vI (nI r)), some (vI k)] [] M
        refine h (fun i => Nat.beq i 75) 3000 67 _ _ _ ?_
        refine And.intro (show inb ((nI r) + 5) (alen 54) = true from (inb_o 3060 rfl rfl x5 (by omega))) ?_
        show X 75 [some (vR 12 0), some (vI (nI r)), some (vI k)] [] (mRow M 54 0 (upd (M.1 54 0) ((nI r) + 5).toNatClampNeg (M.1 12 0 15)))
        rw [x5, e5]
        exact z
      show X 75 [some (vR 12 0), some (vI (nI r)), some (vI k)] [] (mI M 54 0 (r + 5) (M.1 12 0 15))
      refine h (fun _ => false) 3000 75 _ _ _ ?_
      refine And.intro (show Pre_X12_ahead (mI M 54 0 (r + 5) (M.1 12 0 15)) [vR 12 0] from (TXo_pre hM2.1)) ?_
      refine And.intro (show Pre_X12_number (ahM (mI M 54 0 (r + 5) (M.1 12 0 15))) [vR 12 0, vI ((nI r) + 3), vI 0, vI 9999] from ⟨(YT_ah hM2).1, r + 3, 0, 9999, by omega, by rw [x3]⟩) ?_
      refine And.intro bI_in ?_
      show ((some (vI (bI ((pNu (ahM (mI M 54 0 (r + 5) (M.1 12 0 15))) ((nI r) + 3).toNatClampNeg 0 9999).1 = true))) : Option MV), (pNu (ahM (mI M 54 0 (r + 5) (M.1 12 0 15))) ((nI r) + 3).toNatClampNeg 0 9999).2) = _
      (try simp only [x3, e3])
      exact PR_q hp
    show X 51 [some (vR 12 0), some (vI (nI r)), some (vI k)] [] M
    refine h (fun i => Nat.beq i 67) 3000 51 _ _ _ ?_
    refine And.intro (show Pre_X12_isSign M [vR 12 0, vI 60] from ⟨_, rfl⟩) ?_
    refine brn_c (fun b54 => ?_) (fun b54 => ?_)
    · -- 54: bI (M.1 12 0 12 = 4 ∧ M.1 12 0 15 = 60) = 0 taken
      replace b54 : M.1 12 0 12 = 4 ∧ M.1 12 0 15 = 60 := bI_n0.mp b54
      show X 67 [some (vR 12 0), some (vI (nI r)), some (vI k)] [] M
      exact yes (Or.inl b54)
    · -- 54: bI (M.1 12 0 12 = 4 ∧ M.1 12 0 15 = 60) = 0 on
      replace b54 : ¬ (M.1 12 0 12 = 4 ∧ M.1 12 0 15 = 60) := bI_0.mp b54
      refine And.intro (show Pre_X12_isSign M [vR 12 0, vI 62] from ⟨_, rfl⟩) ?_
      refine brn_c (fun b58 => ?_) (fun b58 => ?_)
      · -- 58: bI (M.1 12 0 12 = 4 ∧ M.1 12 0 15 = 62) = 0 taken
        replace b58 : M.1 12 0 12 = 4 ∧ M.1 12 0 15 = 62 := bI_n0.mp b58
        show X 67 [some (vR 12 0), some (vI (nI r)), some (vI k)] [] M
        exact yes (Or.inr (Or.inl b58))
      · -- 58: bI (M.1 12 0 12 = 4 ∧ M.1 12 0 15 = 62) = 0 on
        replace b58 : ¬ (M.1 12 0 12 = 4 ∧ M.1 12 0 15 = 62) := bI_0.mp b58
        refine And.intro (show Pre_X12_isSign M [vR 12 0, vI 61] from ⟨_, rfl⟩) ?_
        refine brn_c (fun b62 => ?_) (fun b62 => ?_)
        · -- 62: bI (M.1 12 0 12 = 4 ∧ M.1 12 0 15 = 61) = 0 taken
          replace b62 : M.1 12 0 12 = 4 ∧ M.1 12 0 15 = 61 := bI_n0.mp b62
          show X 67 [some (vR 12 0), some (vI (nI r)), some (vI k)] [] M
          exact yes (Or.inr (Or.inr b62))
        · -- 62: bI (M.1 12 0 12 = 4 ∧ M.1 12 0 15 = 61) = 0 on
          replace b62 : ¬ (M.1 12 0 12 = 4 ∧ M.1 12 0 15 = 61) := bI_0.mp b62
          refine And.intro (show Pre_X12_fails M [vR 12 0, vI 2] from ⟨_, rfl⟩) ?_
          refine And.intro (Or.inl rfl) ?_
          show ((some (vI 0) : Option MV), faM M 2) = _
          exact PR_f (hp.trans (if_neg (fun z => z.elim b54 (fun z => z.elim b58 b62))))
  have s3 : ∀ M p, YT M ns nm nt → p = teB1 k r M → RUN P_X12_test (RT p) X → X 33 [some (vR 12 0), some (vI (nI r)), some (vI (k))] [] (M) := by
    intro M p hM hp h
    unfold teB1 teB2 at hp
    have hM1 := YT_ww (c := 15) hM
    have hM2 : YT (pMo (pWW M 15).2 (r + 2)).2 ns nm nt := YT_ol hM1 (by omega)
    show X 33 [some (vR 12 0), some (vI (nI r)), some (vI k)] [] M
    refine h (fun i => Nat.beq i 51) 3000 33 _ _ _ ?_
    refine And.intro (show Pre_X12_wantWord M [vR 12 0, vR 72 1, vI 15] from ⟨hM.1, _, rfl⟩) ?_
    refine br_c (fun b37 => ?_) (fun b37 => ?_)
    · -- 37: bI ((pWW M 15).1 = true) = 0 taken
      replace b37 : ¬ ((pWW M 15).1 = true) := bI_0.mp b37
      (try simp only [x2, e2] at b37)
      refine And.intro (Or.inl rfl) ?_
      show ((some (vI 0) : Option MV), (pWW M 15).2) = _
      (try simp only [x2, e2])
      exact PR_f (by rw [hp, pBd_f b37])
    · -- 37: bI ((pWW M 15).1 = true) = 0 on
      replace b37 : (pWW M 15).1 = true := bI_n0.mp b37
      (try simp only [x2, e2] at b37)
      refine And.intro (show Pre_X12_maidTo ((pWW M 15).2) [vR 12 0, vI ((nI r) + 2)] from ⟨ns, nm, nt, r + 2, hM1, by omega, by rw [x2]⟩) ?_
      refine brn_c (fun b43 => ?_) (fun b43 => ?_)
      · -- 43: bI ((pMo ((pWW M 15).2) ((nI r) + 2).toNatClampNeg).1 = true) = 0 taken
        replace b43 : (pMo ((pWW M 15).2) ((nI r) + 2).toNatClampNeg).1 = true := bI_n0.mp b43
        (try simp only [x2, e2] at b43)
        refine brn_c (fun b48 => ?_) (fun b48 => ?_)
        · -- 48: k = 28 taken
          replace b48 : ¬ (k = 28) := b48
          (try simp only [x2, e2] at b48)
          show X 51 [some (vR 12 0), some (vI (nI r)), some (vI k)] [] ((pMo ((pWW M 15).2) ((nI r) + 2).toNatClampNeg).2)
          (try simp only [x2, e2])
          exact s4 _ _ hM2 (by rw [hp, pBd_t b37, pBd_t b43]; exact if_neg b48) h
        · -- 48: k = 28 on
          replace b48 : k = 28 := b48
          (try simp only [x2, e2] at b48)
          refine And.intro (Or.inr rfl) ?_
          show ((some (vI 1) : Option MV), (pMo ((pWW M 15).2) ((nI r) + 2).toNatClampNeg).2) = _
          (try simp only [x2, e2])
          exact PR_t (by rw [hp, pBd_t b37, pBd_t b43]; exact if_pos b48)
      · -- 43: bI ((pMo ((pWW M 15).2) ((nI r) + 2).toNatClampNeg).1 = true) = 0 on
        replace b43 : ¬ ((pMo ((pWW M 15).2) ((nI r) + 2).toNatClampNeg).1 = true) := bI_0.mp b43
        (try simp only [x2, e2] at b43)
        refine And.intro (Or.inl rfl) ?_
        show ((some (vI 0) : Option MV), (pMo ((pWW M 15).2) ((nI r) + 2).toNatClampNeg).2) = _
        (try simp only [x2, e2])
        exact PR_f (by rw [hp, pBd_t b37, pBd_f b43])
  have s2 : ∀ M p, YT M ns nm nt → p = teA k r M → RUN P_X12_test (RT p) X → X 20 [some (vR 12 0), some (vI (nI r)), some (vI (k))] [] (M) := by
    intro M p hM hp h
    unfold teA at hp
    have hM2 : YT (pTo M (r + 1)).2 ns nm nt := YT_ol hM (by omega)
    show X 20 [some (vR 12 0), some (vI (nI r)), some (vI k)] [] M
    refine h (fun i => Nat.beq i 33) 3000 20 _ _ _ ?_
    refine And.intro (show Pre_X12_suitorTo M [vR 12 0, vI ((nI r) + 1)] from ⟨ns, nm, nt, r + 1, hM, by omega, by rw [x1]⟩) ?_
    refine brn_c (fun b25 => ?_) (fun b25 => ?_)
    · -- 25: bI ((pTo M ((nI r) + 1).toNatClampNeg).1 = true) = 0 taken
      replace b25 : (pTo M ((nI r) + 1).toNatClampNeg).1 = true := bI_n0.mp b25
      (try simp only [x1, e1] at b25)
      refine brn_c (fun b30 => ?_) (fun b30 => ?_)
      · -- 30: k = 29 taken
        replace b30 : ¬ (k = 29) := b30
        (try simp only [x1, e1] at b30)
        show X 33 [some (vR 12 0), some (vI (nI r)), some (vI k)] [] ((pTo M ((nI r) + 1).toNatClampNeg).2)
        (try simp only [x1, e1])
        exact s3 _ _ hM2 (by rw [hp, pBd_t b25]; exact if_neg b30) h
      · -- 30: k = 29 on
        replace b30 : k = 29 := b30
        (try simp only [x1, e1] at b30)
        refine And.intro (Or.inr rfl) ?_
        show ((some (vI 1) : Option MV), (pTo M ((nI r) + 1).toNatClampNeg).2) = _
        (try simp only [x1, e1])
        exact PR_t (by rw [hp, pBd_t b25]; exact if_pos b30)
    · -- 25: bI ((pTo M ((nI r) + 1).toNatClampNeg).1 = true) = 0 on
      replace b25 : ¬ ((pTo M ((nI r) + 1).toNatClampNeg).1 = true) := bI_0.mp b25
      (try simp only [x1, e1] at b25)
      refine And.intro (Or.inl rfl) ?_
      show ((some (vI 0) : Option MV), (pTo M ((nI r) + 1).toNatClampNeg).2) = _
      (try simp only [x1, e1])
      exact PR_f (by rw [hp, pBd_f b25])
  suffices z : ¬ k < 27 → X 11 [some (vR 12 0), some (vI (nI r)), some (vI (k))] [] mm by
    show X 0 [some (vR 12 0), some (vI (nI r)), none] [] mm
    refine h (fun i => Nat.beq i 11) 3000 0 _ _ _ ?_
    refine And.intro (show Pre_X12_inWords mm [vR 12 0, vR 72 1] from ⟨hY.1, rfl⟩) ?_
    refine br_c (fun b6 => ?_) (fun b6 => ?_)
    · -- 6: 27 ≤ kyA mm taken
      replace b6 : 27 ≤ kyA mm := b6
      show X 11 [some (vR 12 0), some (vI (nI r)), some (vI (kyA mm))] [] mm
      rw [← hk] at b6 ⊢
      exact z (Int32.not_lt.mpr b6)
    · -- 6: 27 ≤ kyA mm on
      replace b6 : ¬ (27 ≤ kyA mm) := b6
      refine And.intro (show Pre_X12_fails mm [vR 12 0, vI 2] from ⟨_, rfl⟩) ?_
      refine And.intro (Or.inl rfl) ?_
      show ((some (vI 0) : Option MV), faM mm 2) = _
      rw [← hk] at b6
      exact PR_f (if_pos (Int32.not_le.mp b6))
  intro hc
  rw [if_neg hc] at h
  have hM : YT (mI mm 54 0 r (2300 + k)) ns nm nt := YT_at hY (by omega)
  suffices z : X 18 [some (vR 12 0), some (vI (nI r)), some (vI (k))] [] (mI mm 54 0 r (2300 + k)) by
    show X 11 [some (vR 12 0), some (vI (nI r)), some (vI k)] [] mm
    refine h (fun i => Nat.beq i 18) 3000 11 _ _ _ ?_
    refine And.intro (show inb (nI r) (alen 54) = true from (inb_o 3060 rfl rfl rfl (by omega))) ?_
    show X 18 [some (vR 12 0), some (vI (nI r)), some (vI k)] [] (mRow mm 54 0 (upd (mm.1 54 0) (nI r).toNatClampNeg (2300 + k)))
    rw [er]
    exact z
  show X 18 [some (vR 12 0), some (vI (nI r)), some (vI k)] [] (mI mm 54 0 r (2300 + k))
  refine h (fun i => Nat.beq i 20) 3000 18 _ _ _ ?_
  refine And.intro (show Pre_X12_ahead (mI mm 54 0 r (2300 + k)) [vR 12 0] from (TXo_pre hM.1)) ?_
  show X 20 [some (vR 12 0), some (vI (nI r)), some (vI k)] [] (ahM (mI mm 54 0 r (2300 + k)))
  exact s2 _ _ (YT_ah hM) rfl h
theorem con_X12_test (l : Launch) : CON l y_X12_test prog_14_method_52_code 3 (some .boolean) rm_X12_test Pre_X12_test Fn_X12_test := CON_of (by decide) rfl rfl (sa_X12_test l) vc_X12_test
def yoB (r : Nat) (m : MM) : PR := pMo m (r + 2)
def yoA (r : Nat) (m : MM) : PR := pBd (pWW m 22) (yoB r)
def pYo (m : MM) (k : Int32) (r : Nat) : PR := if k = 16 then pOl m 8 (m.1 54 0 2).toNatClampNeg (r + 1) else if k = 17 then pOl m 8 (m.1 54 0 2).toNatClampNeg (r + 1) else if k = 19 then pOl m 8 (m.1 54 0 2).toNatClampNeg (r + 1) else if k = 18 then pTo m (r + 1) else if k = 21 then pBd (pTo m (r + 1)) (yoA r) else if k = 23 then pTe m r else if k = 24 then pNu m (r + 1) 1 99 else (true, m)

--tpl ⟨_, _, _, _, {2N}, by assumption, by omega, by omega, rfl⟩ || bI ((pYo {m} {1} {2n}).1 = true) || (pYo {m} {1} {2n}).2
def Pre_X12_yearOrder : PreT := fun m as => ∃ ns nm nt, ∃ (k : Int32) (r : Nat), YT m ns nm nt ∧ 2186 ≤ r ∧ r + 6 ≤ 3060 ∧ as = [vR 12 0, vI k, vI (nI r)]
def Fn_X12_yearOrder : FnT := fun m as => match as with
  | [_, Sum.inl k, Sum.inl r] => (some (vI (bI ((pYo m k r.toNatClampNeg).1 = true))), (pYo m k r.toNatClampNeg).2)
  | _ => (none, m)
abbrev y_X12_yearOrder : MethodName := ⟨"GivenUpModel", "yearOrder", "(II)Z"⟩
def P_X12_yearOrder : List StpT := [s_iload 1, s_sw (tsw (16) [2, 2, 13, 2, 52, 19, 52, 40, 44]) 52, s_aload 0, s_ic (8), s_aload 0, s_getR 12 0 54, s_ic (2), s_iald, s_iload 2, s_ic (1), s_iadd, s_callV 12 3 Pre_X12_oldOne Fn_X12_oldOne, s_zret, s_aload 0, s_iload 2, s_ic (1), s_iadd, s_callV 12 1 Pre_X12_suitorTo Fn_X12_suitorTo, s_zret, s_aload 0, s_iload 2, s_ic (1), s_iadd, s_callV 12 1 Pre_X12_suitorTo Fn_X12_suitorTo, s_ifeq 38, s_aload 0, s_ldS 1, s_ic (22), s_callV 12 2 Pre_X12_wantWord Fn_X12_wantWord, s_ifeq 38, s_aload 0, s_iload 2, s_ic (2), s_iadd, s_callV 12 1 Pre_X12_maidTo Fn_X12_maidTo, s_ifeq 38, s_ic (1), s_goto 39, s_ic (0), s_zret, s_aload 0, s_iload 2, s_callV 12 1 Pre_X12_test Fn_X12_test, s_zret, s_aload 0, s_iload 2, s_ic (1), s_iadd, s_ic (1), s_ic (99), s_callV 12 3 Pre_X12_number Fn_X12_number, s_zret, s_ic (1), s_zret]
def pc_X12_yearOrder : Nat → Nat := fun i => [0, 1, 52, 53, 55, 56, 59, 60, 61, 62, 63, 64, 67, 68, 69, 70, 71, 72, 75, 76, 77, 78, 79, 80, 83, 86, 87, 89, 91, 94, 97, 98, 99, 100, 101, 104, 107, 108, 111, 112, 113, 114, 115, 118, 119, 120, 121, 122, 123, 124, 126, 129, 130, 131].getD i 0
def dl_X12_yearOrder : List (Nat × Instr × Nat) := [(0, .iload_n 1, 1), (1, .tableswitch 129 16 24 #[51, 51, 67, 51, 129, 75, 129, 112, 118], 51), (52, .aload_n 0, 1), (53, .bipush 8, 2), (55, .aload_n 0, 1), (56, .getfield 7, 3), (59, .iconst 2, 1), (60, .iaload, 1), (61, .iload_n 2, 1), (62, .iconst 1, 1), (63, .iadd, 1), (64, .invokevirtual 203, 3), (67, .ireturn, 1), (68, .aload_n 0, 1), (69, .iload_n 2, 1), (70, .iconst 1, 1), (71, .iadd, 1), (72, .invokevirtual 244, 3), (75, .ireturn, 1), (76, .aload_n 0, 1), (77, .iload_n 2, 1), (78, .iconst 1, 1), (79, .iadd, 1), (80, .invokevirtual 244, 3), (83, .ifCond .eq 28, 3), (86, .aload_n 0, 1), (87, .ldc 180, 2), (89, .bipush 22, 2), (91, .invokevirtual 199, 3), (94, .ifCond .eq 17, 3), (97, .aload_n 0, 1), (98, .iload_n 2, 1), (99, .iconst 2, 1), (100, .iadd, 1), (101, .invokevirtual 247, 3), (104, .ifCond .eq 7, 3), (107, .iconst 1, 1), (108, .goto 4, 3), (111, .iconst 0, 1), (112, .ireturn, 1), (113, .aload_n 0, 1), (114, .iload_n 2, 1), (115, .invokevirtual 250, 3), (118, .ireturn, 1), (119, .aload_n 0, 1), (120, .iload_n 2, 1), (121, .iconst 1, 1), (122, .iadd, 1), (123, .iconst 1, 1), (124, .bipush 99, 2), (126, .invokevirtual 196, 3), (129, .ireturn, 1), (130, .iconst 1, 1), (131, .ireturn, 1)]
theorem dc_X12_yearOrder : DEC prog_14_method_53_code pc_X12_yearOrder dl_X12_yearOrder := DEC_of (by decide +kernel)
abbrev rm_X12_yearOrder : Room := { frames := 10, cells := 0, slots := 0, locals := 219 }
set_option maxRecDepth 20000 in
theorem sa_X12_yearOrder (l : Launch) : SNDALL l prog_14_method_53_code "GivenUpModel" 3 (some .boolean) rm_X12_yearOrder P_X12_yearOrder pc_X12_yearOrder := fun p e s m args below meth c cells slots Q D dA ad A RR hC hR => by
  have hM := RTX_room (R := rm_X12_yearOrder) hR
  exact ⟨st_iload_n hC (n := 0) (k := 1) (dc_X12_yearOrder 0 (0, .iload_n 1, 1) rfl rfl) rfl rfl,
    st_table hC (n := 1) (ts := [2, 2, 13, 2, 52, 19, 52, 40, 44]) (dc_X12_yearOrder 1 (1, .tableswitch 129 16 24 #[51, 51, 67, 51, 129, 75, 129, 112, 118], 51) rfl rfl) (by decide) (by decide) (by decide) (by decide) (swt_of _ _ _ (by decide +kernel)),
    st_aload_n hC (n := 2) (k := 0) (dc_X12_yearOrder 2 (52, .aload_n 0, 1) rfl rfl) rfl rfl,
    st_bipush hC (n := 3) (x := 8) (dc_X12_yearOrder 3 (53, .bipush 8, 2) rfl rfl) rfl (by decide),
    st_aload_n hC (n := 4) (k := 0) (dc_X12_yearOrder 4 (55, .aload_n 0, 1) rfl rfl) rfl rfl,
    st_getR hC (n := 5) (k := 12) (j := 0) (dc_X12_yearOrder 5 (56, .getfield 7, 3) rfl rfl) rfl clf_12 (by decide) rfl (by decide) wd_1552,
    st_iconst hC (n := 6) (x := 2) (dc_X12_yearOrder 6 (59, .iconst 2, 1) rfl rfl) rfl (by decide),
    st_iald hC (n := 7) (dc_X12_yearOrder 7 (60, .iaload, 1) rfl rfl) rfl,
    st_iload_n hC (n := 8) (k := 2) (dc_X12_yearOrder 8 (61, .iload_n 2, 1) rfl rfl) rfl rfl,
    st_iconst hC (n := 9) (x := 1) (dc_X12_yearOrder 9 (62, .iconst 1, 1) rfl rfl) rfl (by decide),
    st_iadd hC (n := 10) (dc_X12_yearOrder 10 (63, .iadd, 1) rfl rfl) rfl,
    st_callV hC (n := 11) (k := 12) (na := 3) (con_X12_oldOne l) (dc_X12_yearOrder 11 (64, .invokevirtual 203, 3) rfl rfl) rfl wd_1817 wd_160 (by decide) ⟨rfl, rfl, by decide, by decide⟩ hM wd_1814 wd_1816 wd_71 clf_12,
    st_zret hC (n := 12) hR (dc_X12_yearOrder 12 (67, .ireturn, 1) rfl rfl),
    st_aload_n hC (n := 13) (k := 0) (dc_X12_yearOrder 13 (68, .aload_n 0, 1) rfl rfl) rfl rfl,
    st_iload_n hC (n := 14) (k := 2) (dc_X12_yearOrder 14 (69, .iload_n 2, 1) rfl rfl) rfl rfl,
    st_iconst hC (n := 15) (x := 1) (dc_X12_yearOrder 15 (70, .iconst 1, 1) rfl rfl) rfl (by decide),
    st_iadd hC (n := 16) (dc_X12_yearOrder 16 (71, .iadd, 1) rfl rfl) rfl,
    st_callV hC (n := 17) (k := 12) (na := 1) (con_X12_suitorTo l) (dc_X12_yearOrder 17 (72, .invokevirtual 244, 3) rfl rfl) rfl wd_1865 wd_160 (by decide) ⟨rfl, rfl, by decide, by decide⟩ hM wd_1862 wd_1864 wd_82 clf_12,
    st_zret hC (n := 18) hR (dc_X12_yearOrder 18 (75, .ireturn, 1) rfl rfl),
    st_aload_n hC (n := 19) (k := 0) (dc_X12_yearOrder 19 (76, .aload_n 0, 1) rfl rfl) rfl rfl,
    st_iload_n hC (n := 20) (k := 2) (dc_X12_yearOrder 20 (77, .iload_n 2, 1) rfl rfl) rfl rfl,
    st_iconst hC (n := 21) (x := 1) (dc_X12_yearOrder 21 (78, .iconst 1, 1) rfl rfl) rfl (by decide),
    st_iadd hC (n := 22) (dc_X12_yearOrder 22 (79, .iadd, 1) rfl rfl) rfl,
    st_callV hC (n := 23) (k := 12) (na := 1) (con_X12_suitorTo l) (dc_X12_yearOrder 23 (80, .invokevirtual 244, 3) rfl rfl) rfl wd_1865 wd_160 (by decide) ⟨rfl, rfl, by decide, by decide⟩ hM wd_1862 wd_1864 wd_82 clf_12,
    st_ifeq hC (n := 24) (dc_X12_yearOrder 24 (83, .ifCond .eq 28, 3) rfl rfl) rfl (by decide),
    st_aload_n hC (n := 25) (k := 0) (dc_X12_yearOrder 25 (86, .aload_n 0, 1) rfl rfl) rfl rfl,
    st_ldS1 hC (n := 26) (dc_X12_yearOrder 26 (87, .ldc 180, 2) rfl rfl) rfl rfl,
    st_bipush hC (n := 27) (x := 22) (dc_X12_yearOrder 27 (89, .bipush 22, 2) rfl rfl) rfl (by decide),
    st_callV hC (n := 28) (k := 12) (na := 2) (con_X12_wantWord l) (dc_X12_yearOrder 28 (91, .invokevirtual 199, 3) rfl rfl) rfl wd_1809 wd_160 (by decide) ⟨rfl, rfl, by decide, by decide⟩ hM wd_1806 wd_1808 wd_69 clf_12,
    st_ifeq hC (n := 29) (dc_X12_yearOrder 29 (94, .ifCond .eq 17, 3) rfl rfl) rfl (by decide),
    st_aload_n hC (n := 30) (k := 0) (dc_X12_yearOrder 30 (97, .aload_n 0, 1) rfl rfl) rfl rfl,
    st_iload_n hC (n := 31) (k := 2) (dc_X12_yearOrder 31 (98, .iload_n 2, 1) rfl rfl) rfl rfl,
    st_iconst hC (n := 32) (x := 2) (dc_X12_yearOrder 32 (99, .iconst 2, 1) rfl rfl) rfl (by decide),
    st_iadd hC (n := 33) (dc_X12_yearOrder 33 (100, .iadd, 1) rfl rfl) rfl,
    st_callV hC (n := 34) (k := 12) (na := 1) (con_X12_maidTo l) (dc_X12_yearOrder 34 (101, .invokevirtual 247, 3) rfl rfl) rfl wd_1869 wd_160 (by decide) ⟨rfl, rfl, by decide, by decide⟩ hM wd_1866 wd_1868 wd_83 clf_12,
    st_ifeq hC (n := 35) (dc_X12_yearOrder 35 (104, .ifCond .eq 7, 3) rfl rfl) rfl (by decide),
    st_iconst hC (n := 36) (x := 1) (dc_X12_yearOrder 36 (107, .iconst 1, 1) rfl rfl) rfl (by decide),
    st_goto hC (n := 37) (dc_X12_yearOrder 37 (108, .goto 4, 3) rfl rfl) (by decide),
    st_iconst hC (n := 38) (x := 0) (dc_X12_yearOrder 38 (111, .iconst 0, 1) rfl rfl) rfl (by decide),
    st_zret hC (n := 39) hR (dc_X12_yearOrder 39 (112, .ireturn, 1) rfl rfl),
    st_aload_n hC (n := 40) (k := 0) (dc_X12_yearOrder 40 (113, .aload_n 0, 1) rfl rfl) rfl rfl,
    st_iload_n hC (n := 41) (k := 2) (dc_X12_yearOrder 41 (114, .iload_n 2, 1) rfl rfl) rfl rfl,
    st_callV hC (n := 42) (k := 12) (na := 1) (con_X12_test l) (dc_X12_yearOrder 42 (115, .invokevirtual 250, 3) rfl rfl) rfl wd_1873 wd_160 (by decide) ⟨rfl, rfl, by decide, by decide⟩ hM wd_1870 wd_1872 wd_84 clf_12,
    st_zret hC (n := 43) hR (dc_X12_yearOrder 43 (118, .ireturn, 1) rfl rfl),
    st_aload_n hC (n := 44) (k := 0) (dc_X12_yearOrder 44 (119, .aload_n 0, 1) rfl rfl) rfl rfl,
    st_iload_n hC (n := 45) (k := 2) (dc_X12_yearOrder 45 (120, .iload_n 2, 1) rfl rfl) rfl rfl,
    st_iconst hC (n := 46) (x := 1) (dc_X12_yearOrder 46 (121, .iconst 1, 1) rfl rfl) rfl (by decide),
    st_iadd hC (n := 47) (dc_X12_yearOrder 47 (122, .iadd, 1) rfl rfl) rfl,
    st_iconst hC (n := 48) (x := 1) (dc_X12_yearOrder 48 (123, .iconst 1, 1) rfl rfl) rfl (by decide),
    st_bipush hC (n := 49) (x := 99) (dc_X12_yearOrder 49 (124, .bipush 99, 2) rfl rfl) rfl (by decide),
    st_callV hC (n := 50) (k := 12) (na := 3) (con_X12_number l) (dc_X12_yearOrder 50 (126, .invokevirtual 196, 3) rfl rfl) rfl wd_1801 wd_160 (by decide) ⟨rfl, rfl, by decide, by decide⟩ hM wd_1798 wd_1800 wd_67 clf_12,
    st_zret hC (n := 51) hR (dc_X12_yearOrder 51 (129, .ireturn, 1) rfl rfl),
    st_iconst hC (n := 52) (x := 1) (dc_X12_yearOrder 52 (130, .iconst 1, 1) rfl rfl) rfl (by decide),
    st_zret hC (n := 53) hR (dc_X12_yearOrder 53 (131, .ireturn, 1) rfl rfl), trivial⟩
set_option maxRecDepth 8000 in
theorem vc_X12_yearOrder : VC P_X12_yearOrder 3 Pre_X12_yearOrder Fn_X12_yearOrder := by
  rintro mm as hom hoa ⟨ns, nm, nt, k, r, hY, hr1, hr2, rfl⟩
  refine ⟨Nat.le_of_ble_eq_true rfl, fun X h => ?_⟩
  have er : (nI r).toNatClampNeg = r := nI_clamp (by omega)
  have x1 : nI r + 1 = nI (r + 1) := nI_1 _
  have x2 : nI r + 2 = nI (r + 2) := by simp (disch := omega) only [li, pk_mul, nI_add, nI_clamp]
  have e1 : (nI (r + 1)).toNatClampNeg = r + 1 := nI_clamp (by omega)
  have e2 : (nI (r + 2)).toNatClampNeg = r + 2 := nI_clamp (by omega)
  have h2 : mm.1 54 0 2 = nI nt := hY.2.2.2.1
  have hnt : nt ≤ 12 := hY.2.2.2.2
  have ent : (nI nt).toNatClampNeg = nt := nI_clamp (by omega)
  replace h : RUN P_X12_yearOrder (RT (pYo mm k (nI r).toNatClampNeg)) X := h
  rw [er] at h
  have hM1 : YT (pTo mm (r + 1)).2 ns nm nt := YT_ol hY (by omega)
  have hM2 := YT_ww (c := 22) hM1
  have one : pYo mm k r = pOl mm 8 nt (r + 1) → X 2 [some (vR 12 0), some (vI (k)), some (vI (nI r))] [] mm := by
    intro hp
    rw [hp] at h
    show X 2 [some (vR 12 0), some (vI k), some (vI (nI r))] [] mm
    refine h (fun _ => false) 3000 2 _ _ _ ?_
    refine And.intro (show inb 2 (alen 54) = true from rfl) ?_
    refine And.intro (show Pre_X12_oldOne mm [vR 12 0, vI 8, vI (mm.1 54 0 2), vI ((nI r) + 1)] from ⟨hY.1, 8, nt, r + 1, by omega, by omega, by rw [h2, x1]; rfl⟩) ?_
    refine And.intro bI_in ?_
    show ((some (vI (bI ((pOl mm 8 (mm.1 54 0 2).toNatClampNeg ((nI r) + 1).toNatClampNeg).1 = true))) : Option MV), (pOl mm 8 (mm.1 54 0 2).toNatClampNeg ((nI r) + 1).toNatClampNeg).2) = _
    (try simp only [x1, e1, h2, ent])
    all_goals exact PR_q rfl
  have last : pYo mm k r = (true, mm) → X 52 [some (vR 12 0), some (vI (k)), some (vI (nI r))] [] mm := by
    intro hp
    show X 52 [some (vR 12 0), some (vI k), some (vI (nI r))] [] mm
    refine h (fun _ => false) 3000 52 _ _ _ ?_
    refine And.intro (Or.inr rfl) ?_
    show ((some (vI 1) : Option MV), mm) = _
    exact PR_t hp
  have wed : pYo mm k r = pBd (pTo mm (r + 1)) (yoA r) → X 19 [some (vR 12 0), some (vI (k)), some (vI (nI r))] [] mm := by
    intro hp
    rw [hp] at h
    have bad : ∀ M, pBd (pTo mm (r + 1)) (yoA r) = (false, M) → X 38 [some (vR 12 0), some (vI (k)), some (vI (nI r))] [] (M) := by
      intro M hq
      show X 38 [some (vR 12 0), some (vI k), some (vI (nI r))] [] M
      refine h (fun _ => false) 3000 38 _ _ _ ?_
      refine And.intro (Or.inl rfl) ?_
      show ((some (vI 0) : Option MV), M) = _
      exact PR_f hq
    unfold yoA yoB at *
    show X 19 [some (vR 12 0), some (vI k), some (vI (nI r))] [] mm
    refine h (fun i => Nat.beq i 38) 3000 19 _ _ _ ?_
    refine And.intro (show Pre_X12_suitorTo mm [vR 12 0, vI ((nI r) + 1)] from ⟨ns, nm, nt, r + 1, hY, by omega, by rw [x1]⟩) ?_
    refine br_c (fun b24 => ?_) (fun b24 => ?_)
    · -- 24: bI ((pTo mm ((nI r) + 1).toNatClampNeg).1 = true) = 0 taken
      replace b24 : ¬ ((pTo mm ((nI r) + 1).toNatClampNeg).1 = true) := bI_0.mp b24
      (try simp only [x1, x2, e1, e2] at b24)
      show X 38 [some (vR 12 0), some (vI k), some (vI (nI r))] [] ((pTo mm ((nI r) + 1).toNatClampNeg).2)
      (try simp only [x1, x2, e1, e2])
      exact bad _ (pBd_f b24)
    · -- 24: bI ((pTo mm ((nI r) + 1).toNatClampNeg).1 = true) = 0 on
      replace b24 : (pTo mm ((nI r) + 1).toNatClampNeg).1 = true := bI_n0.mp b24
      (try simp only [x1, x2, e1, e2] at b24)
      refine And.intro (show Pre_X12_wantWord ((pTo mm ((nI r) + 1).toNatClampNeg).2) [vR 12 0, vR 72 1, vI 22] from ⟨by rw [x1, e1]; exact hM1.1, _, rfl⟩) ?_
      refine br_c (fun b29 => ?_) (fun b29 => ?_)
      · -- 29: bI ((pWW ((pTo mm ((nI r) + 1).toNatClampNeg).2) 22).1 = true) = 0 taken
        replace b29 : ¬ ((pWW ((pTo mm ((nI r) + 1).toNatClampNeg).2) 22).1 = true) := bI_0.mp b29
        (try simp only [x1, x2, e1, e2] at b29)
        show X 38 [some (vR 12 0), some (vI k), some (vI (nI r))] [] ((pWW ((pTo mm ((nI r) + 1).toNatClampNeg).2) 22).2)
        (try simp only [x1, x2, e1, e2])
        exact bad _ (by rw [pBd_t b24, pBd_f b29])
      · -- 29: bI ((pWW ((pTo mm ((nI r) + 1).toNatClampNeg).2) 22).1 = true) = 0 on
        replace b29 : (pWW ((pTo mm ((nI r) + 1).toNatClampNeg).2) 22).1 = true := bI_n0.mp b29
        (try simp only [x1, x2, e1, e2] at b29)
        refine And.intro (show Pre_X12_maidTo ((pWW ((pTo mm ((nI r) + 1).toNatClampNeg).2) 22).2) [vR 12 0, vI ((nI r) + 2)] from ⟨ns, nm, nt, r + 2, by rw [x1, e1]; exact hM2, by omega, by rw [x2]⟩) ?_
        refine br_c (fun b35 => ?_) (fun b35 => ?_)
        · -- 35: bI ((pMo ((pWW ((pTo mm ((nI r) + 1).toNatClampNeg).2) 22).2) ((nI r) + 2).toNatClampNeg).1 = true) = 0 taken
          replace b35 : ¬ ((pMo ((pWW ((pTo mm ((nI r) + 1).toNatClampNeg).2) 22).2) ((nI r) + 2).toNatClampNeg).1 = true) := bI_0.mp b35
          (try simp only [x1, x2, e1, e2] at b35)
          show X 38 [some (vR 12 0), some (vI k), some (vI (nI r))] [] ((pMo ((pWW ((pTo mm ((nI r) + 1).toNatClampNeg).2) 22).2) ((nI r) + 2).toNatClampNeg).2)
          (try simp only [x1, x2, e1, e2])
          exact bad _ (by rw [pBd_t b24, pBd_t b29]; exact Prod.ext (pr_n b35) rfl)
        · -- 35: bI ((pMo ((pWW ((pTo mm ((nI r) + 1).toNatClampNeg).2) 22).2) ((nI r) + 2).toNatClampNeg).1 = true) = 0 on
          replace b35 : (pMo ((pWW ((pTo mm ((nI r) + 1).toNatClampNeg).2) 22).2) ((nI r) + 2).toNatClampNeg).1 = true := bI_n0.mp b35
          (try simp only [x1, x2, e1, e2] at b35)
          refine And.intro (Or.inr rfl) ?_
          show ((some (vI 1) : Option MV), (pMo ((pWW ((pTo mm ((nI r) + 1).toNatClampNeg).2) 22).2) ((nI r) + 2).toNatClampNeg).2) = _
          (try simp only [x1, x2, e1, e2])
          exact PR_t (by rw [pBd_t b24, pBd_t b29]; exact Prod.ext b35 rfl)
  show X 0 [some (vR 12 0), some (vI k), some (vI (nI r))] [] mm
  refine h (fun i => Nat.beq i 2 || Nat.beq i 19 || Nat.beq i 52) 3000 0 _ _ _ ?_
  refine And.intro ⟨fun b1 => ?_, fun b1 => ?_, fun b1 => ?_, fun b1 => ?_, fun b1 => ?_, fun b1 => ?_, fun b1 => ?_, fun b1 => ?_, fun b1 => ?_, trivial⟩ ?_
  · replace b1 : k = 16 := b1
    (try simp only [x1, e1, er] at b1)
    show X 2 [some (vR 12 0), some (vI k), some (vI (nI r))] [] mm
    (try simp only [x1, e1, er])
    exact one (by unfold pYo; rw [h2, ent, b1]; rfl)
  · replace b1 : k = 17 := b1
    (try simp only [x1, e1, er] at b1)
    show X 2 [some (vR 12 0), some (vI k), some (vI (nI r))] [] mm
    (try simp only [x1, e1, er])
    exact one (by unfold pYo; rw [h2, ent, b1]; rfl)
  · replace b1 : k = 18 := b1
    (try simp only [x1, e1, er] at b1)
    refine And.intro (show Pre_X12_suitorTo mm [vR 12 0, vI ((nI r) + 1)] from ⟨ns, nm, nt, r + 1, hY, by omega, by rw [x1]⟩) ?_
    refine And.intro bI_in ?_
    show ((some (vI (bI ((pTo mm ((nI r) + 1).toNatClampNeg).1 = true))) : Option MV), (pTo mm ((nI r) + 1).toNatClampNeg).2) = _
    (try simp only [x1, e1, er])
    first | exact PR_q (by unfold pYo; rw [b1]; rfl)
  · replace b1 : k = 19 := b1
    (try simp only [x1, e1, er] at b1)
    show X 2 [some (vR 12 0), some (vI k), some (vI (nI r))] [] mm
    (try simp only [x1, e1, er])
    exact one (by unfold pYo; rw [h2, ent, b1]; rfl)
  · replace b1 : k = 20 := b1
    (try simp only [x1, e1, er] at b1)
    show X 52 [some (vR 12 0), some (vI k), some (vI (nI r))] [] mm
    (try simp only [x1, e1, er])
    exact last (by unfold pYo; rw [b1]; rfl)
  · replace b1 : k = 21 := b1
    (try simp only [x1, e1, er] at b1)
    show X 19 [some (vR 12 0), some (vI k), some (vI (nI r))] [] mm
    (try simp only [x1, e1, er])
    exact wed (by unfold pYo; rw [b1]; rfl)
  · replace b1 : k = 22 := b1
    (try simp only [x1, e1, er] at b1)
    show X 52 [some (vR 12 0), some (vI k), some (vI (nI r))] [] mm
    (try simp only [x1, e1, er])
    exact last (by unfold pYo; rw [b1]; rfl)
  · replace b1 : k = 23 := b1
    (try simp only [x1, e1, er] at b1)
    refine And.intro (show Pre_X12_test mm [vR 12 0, vI (nI r)] from ⟨ns, nm, nt, r, hY, hr1, hr2, rfl⟩) ?_
    refine And.intro bI_in ?_
    show ((some (vI (bI ((pTe mm (nI r).toNatClampNeg).1 = true))) : Option MV), (pTe mm (nI r).toNatClampNeg).2) = _
    (try simp only [x1, e1, er])
    first | exact PR_q (by unfold pYo; rw [b1]; rfl)
  · replace b1 : k = 24 := b1
    (try simp only [x1, e1, er] at b1)
    refine And.intro (show Pre_X12_number mm [vR 12 0, vI ((nI r) + 1), vI 1, vI 99] from ⟨hY.1, r + 1, 1, 99, by omega, by rw [x1]⟩) ?_
    refine And.intro bI_in ?_
    show ((some (vI (bI ((pNu mm ((nI r) + 1).toNatClampNeg 1 99).1 = true))) : Option MV), (pNu mm ((nI r) + 1).toNatClampNeg 1 99).2) = _
    (try simp only [x1, e1, er])
    first | exact PR_q (by unfold pYo; rw [b1]; rfl)
  · intro b1
    have n1_16 : ¬ k = 16 := b1 (16, 2) (by decide)
    have n1_17 : ¬ k = 17 := b1 (17, 2) (by decide)
    have n1_18 : ¬ k = 18 := b1 (18, 13) (by decide)
    have n1_19 : ¬ k = 19 := b1 (19, 2) (by decide)
    have n1_20 : ¬ k = 20 := b1 (20, 52) (by decide)
    have n1_21 : ¬ k = 21 := b1 (21, 19) (by decide)
    have n1_22 : ¬ k = 22 := b1 (22, 52) (by decide)
    have n1_23 : ¬ k = 23 := b1 (23, 40) (by decide)
    have n1_24 : ¬ k = 24 := b1 (24, 44) (by decide)
    (try simp only [x1, e1, er] at n1_16)
    (try simp only [x1, e1, er] at n1_17)
    (try simp only [x1, e1, er] at n1_18)
    (try simp only [x1, e1, er] at n1_19)
    (try simp only [x1, e1, er] at n1_20)
    (try simp only [x1, e1, er] at n1_21)
    (try simp only [x1, e1, er] at n1_22)
    (try simp only [x1, e1, er] at n1_23)
    (try simp only [x1, e1, er] at n1_24)
    show X 52 [some (vR 12 0), some (vI k), some (vI (nI r))] [] mm
    (try simp only [x1, e1, er])
    exact last (by unfold pYo; rw [if_neg n1_16, if_neg n1_17, if_neg n1_19, if_neg n1_18, if_neg n1_21, if_neg n1_23, if_neg n1_24])
theorem con_X12_yearOrder (l : Launch) : CON l y_X12_yearOrder prog_14_method_53_code 3 (some .boolean) rm_X12_yearOrder Pre_X12_yearOrder Fn_X12_yearOrder := CON_of (by decide) rfl rfl (sa_X12_yearOrder l) vc_X12_yearOrder
