/-! PART 94: the class: calls that plan; villages -/

noncomputable section
theorem if_2 {c : Prop} [Decidable c] {a b m : MM} (h : a.2 = m.2) (h' : b.2 = m.2) : (if c then a else b).2 = m.2 := by
  by_cases z : c
  · rw [if_pos z]; exact h
  · rw [if_neg z]; exact h'
theorem gaI_2 (F : Int32) (v d dp : Nat) : ∀ k t M, (gaI F v d dp k t M).2 = M.2
  | 0, _, _ => rfl
  | k + 1, t, M => by
    rw [gaI]
    exact if_2 ((gaI_2 F v d dp k (t + 1) _).trans (if_2 rfl rfl)) rfl
theorem gaO_2 (F : Int32) (v d nt : Nat) : ∀ k dp M, (gaO F v d nt k dp M).2 = M.2
  | 0, _, _ => rfl
  | k + 1, dp, M => (gaO_2 F v d nt k (dp + 1) _).trans (gaI_2 F v d dp nt 0 M)
theorem weM_2 (M : MM) (ch ma su he : Int32) : (weM M ch ma su he).2 = M.2 := by
  unfold weM we1 we3
  exact if_2 rfl (if_2 rfl rfl)
theorem grL_2 : ∀ k j ch ma su he M, (grL k j ch ma su he M).2 = M.2
  | 0, _, _, _, _, _, _ => rfl
  | k + 1, j, ch, ma, su, he, M => by
    rw [grL]
    exact if_2 ((grL_2 k (j + 1) _ _ _ _ _).trans (if_2 (if_2 (weM_2 _ _ _ _ _) ((grL_2 k (j + 1) _ _ _ _ _).trans (weM_2 _ _ _ _ _))) rfl)) rfl
theorem grM_2 (M : MM) (i : Nat) (ch ma su he : Int32) : (grM M i ch ma su he).2 = M.2 := if_2 (weM_2 _ _ _ _ _) ((grL_2 _ _ _ _ _ _ _).trans (weM_2 _ _ _ _ _))
theorem mkM_2 (m : MM) (v s d : Nat) (w : Int32) : (mkM m v s d w).2 = m.2 := by
  rw [mkM_eq]
  unfold mkM0 mkG gaM
  rw [grM_2, gaO_2]
  rfl
/-- the valley stands, with what its THINGS need -/
def VD (m : MM) (ns nm nt : Nat) : Prop := VN m ns nm nt ∧ NDo m (m.2.2 0)
theorem VD_3 {m M : MM} {ns nm nt : Nat} (h : SM3 m M) (h2 : M.2 = m.2) (hV : VD m ns nm nt) : VD M ns nm nt := by
  unfold VD VN NDo
  rw [h2]
  refine ⟨VC2_c (abV_3 h) hV.1, ?_⟩
  rw [h 38 _ (by decide) (by decide)]
  exact hV.2
theorem VD_mk {m : MM} {ns nm nt v s d : Nat} {w : Int32} (hV : VD m ns nm nt) : VD (mkM m v s d w) ns nm nt := VD_3 (SM3_mk m v s d w) (mkM_2 m v s d w) hV
def cl_ps1 (m : MM) : Int32 × MM := (if ¬ m.1 3 0 13 < 0 then 0 else 6, m)
def cl_ps (m : MM) (s d w : Int32) : Int32 × MM := if npC m s d then (1, m) else if w < 0 ∨ 99 < w then (1, m) else if ¬ abV m (m.2.2 0) (15 + 4 * s.toNatClampNeg) = -1 then (7, m) else if ¬ abV m (m.2.2 0) (31 + 4 * d.toNatClampNeg) = -1 then (7, m) else cl_ps1 (mkM m (m.2.2 0) s.toNatClampNeg d.toNatClampNeg w)

--tpl ⟨_, _, _, by assumption, _, _, _, rfl⟩ || (cl_ps {m} {1} {2} {3}).1 || (cl_ps {m} {1} {2} {3}).2
def Pre_X11_planStatus : PreT := fun m as => ∃ ns nm nt, VD m ns nm nt ∧ ∃ s d w : Int32, as = [vR 11 0, vI s, vI d, vI w]
def Fn_X11_planStatus : FnT := fun m as => match as with
  | [_, Sum.inl s, Sum.inl d, Sum.inl w] => (some (vI (cl_ps m s d w).1), (cl_ps m s d w).2)
  | _ => (none, m)
abbrev y_X11_planStatus : MethodName := ⟨"GivenUp", "planStatus", "(III)I"⟩
def P_X11_planStatus : List StpT := [s_aload 0, s_iload 1, s_iload 2, s_callV 11 2 Pre_X11_isNoPair Fn_X11_isNoPair, s_ifne 8, s_iload 3, s_callS 1 Pre_X11_isNoTime Fn_X11_isNoTime, s_ifeq 10, s_ic (1), s_iret, s_aload 0, s_getD 11 12 6 0, s_iload 1, s_callV 6 1 Pre_X6_isWed Fn_X6_isWed, s_ifne 20, s_aload 0, s_getD 11 12 6 0, s_iload 2, s_callV 6 1 Pre_X6_isTaken Fn_X6_isTaken, s_ifeq 22, s_ic (7), s_iret, s_aload 0, s_getC 11 5 3 0, s_aload 0, s_getD 11 12 6 0, s_iload 1, s_iload 2, s_iload 3, s_callV 3 4 Pre_X3_make Fn_X3_make, s_aload 0, s_getC 11 5 3 0, s_callV 3 0 Pre_X3_isFound Fn_X3_isFound, s_ifeq 36, s_ic (0), s_goto 37, s_ic (6), s_iret]
def pc_X11_planStatus : Nat → Nat := fun i => [0, 1, 2, 3, 6, 9, 10, 13, 16, 17, 18, 19, 22, 23, 26, 29, 30, 33, 34, 37, 40, 42, 43, 44, 47, 48, 51, 52, 53, 54, 57, 58, 61, 64, 67, 68, 71, 73].getD i 0
def dl_X11_planStatus : List (Nat × Instr × Nat) := [(0, .aload_n 0, 1), (1, .iload_n 1, 1), (2, .iload_n 2, 1), (3, .invokevirtual 288, 3), (6, .ifCond .ne 10, 3), (9, .iload_n 3, 1), (10, .invokestatic 360, 3), (13, .ifCond .eq 5, 3), (16, .iconst 1, 1), (17, .ireturn, 1), (18, .aload_n 0, 1), (19, .getfield 87, 3), (22, .iload_n 1, 1), (23, .invokevirtual 363, 3), (26, .ifCond .ne 14, 3), (29, .aload_n 0, 1), (30, .getfield 87, 3), (33, .iload_n 2, 1), (34, .invokevirtual 373, 3), (37, .ifCond .eq 6, 3), (40, .bipush 7, 2), (42, .ireturn, 1), (43, .aload_n 0, 1), (44, .getfield 47, 3), (47, .aload_n 0, 1), (48, .getfield 87, 3), (51, .iload_n 1, 1), (52, .iload_n 2, 1), (53, .iload_n 3, 1), (54, .invokevirtual 366, 3), (57, .aload_n 0, 1), (58, .getfield 47, 3), (61, .invokevirtual 376, 3), (64, .ifCond .eq 7, 3), (67, .iconst 0, 1), (68, .goto 5, 3), (71, .bipush 6, 2), (73, .ireturn, 1)]
theorem dc_X11_planStatus : DEC prog_1_method_76_code pc_X11_planStatus dl_X11_planStatus := DEC_of (by decide +kernel)
abbrev rm_X11_planStatus : Room := { frames := 17, cells := 0, slots := 0, locals := 436 }
set_option maxRecDepth 20000 in
theorem sa_X11_planStatus (l : Launch) : SNDALL l prog_1_method_76_code "GivenUp" 4 (some .int) rm_X11_planStatus P_X11_planStatus pc_X11_planStatus := fun p e s m args below meth c cells slots Q D dA ad A RR hC hR => by
  have hM := RTX_room (R := rm_X11_planStatus) hR
  exact ⟨st_aload_n hC (n := 0) (k := 0) (dc_X11_planStatus 0 (0, .aload_n 0, 1) rfl rfl) rfl rfl,
    st_iload_n hC (n := 1) (k := 1) (dc_X11_planStatus 1 (1, .iload_n 1, 1) rfl rfl) rfl rfl,
    st_iload_n hC (n := 2) (k := 2) (dc_X11_planStatus 2 (2, .iload_n 2, 1) rfl rfl) rfl rfl,
    st_callV hC (n := 3) (k := 11) (na := 2) (con_X11_isNoPair l) (dc_X11_planStatus 3 (3, .invokevirtual 288, 3) rfl rfl) rfl wd_1090 wd_143 (by decide) ⟨rfl, rfl, by decide, by decide⟩ hM wd_1087 wd_1089 wd_24 clf_11,
    st_ifne hC (n := 4) (dc_X11_planStatus 4 (6, .ifCond .ne 10, 3) rfl rfl) rfl (by decide),
    st_iload_n hC (n := 5) (k := 3) (dc_X11_planStatus 5 (9, .iload_n 3, 1) rfl rfl) rfl rfl,
    st_callS hC (n := 6) (na := 1) (con_X11_isNoTime l) (dc_X11_planStatus 6 (10, .invokestatic 360, 3) rfl rfl) rfl wd_1271 wd_143 (by decide) ⟨rfl, rfl, by decide, by decide⟩ hM wd_1269 wd_1270,
    st_ifeq hC (n := 7) (dc_X11_planStatus 7 (13, .ifCond .eq 5, 3) rfl rfl) rfl (by decide),
    st_iconst hC (n := 8) (x := 1) (dc_X11_planStatus 8 (16, .iconst 1, 1) rfl rfl) rfl (by decide),
    st_iret hC (n := 9) hR (dc_X11_planStatus 9 (17, .ireturn, 1) rfl rfl),
    st_aload_n hC (n := 10) (k := 0) (dc_X11_planStatus 10 (18, .aload_n 0, 1) rfl rfl) rfl rfl,
    st_getD hC (n := 11) (k := 11) (j := 12) (dc_X11_planStatus 11 (19, .getfield 87, 3) rfl rfl) rfl clf_11 (by decide) rfl (by decide) wd_723,
    st_iload_n hC (n := 12) (k := 1) (dc_X11_planStatus 12 (22, .iload_n 1, 1) rfl rfl) rfl rfl,
    st_callV hC (n := 13) (k := 6) (na := 1) (con_X6_isWed l) (dc_X11_planStatus 13 (23, .invokevirtual 363, 3) rfl rfl) rfl wd_1023 wd_155 (by decide) ⟨rfl, rfl, by decide, by decide⟩ hM wd_1272 wd_1021 wd_1022 clf_6,
    st_ifne hC (n := 14) (dc_X11_planStatus 14 (26, .ifCond .ne 14, 3) rfl rfl) rfl (by decide),
    st_aload_n hC (n := 15) (k := 0) (dc_X11_planStatus 15 (29, .aload_n 0, 1) rfl rfl) rfl rfl,
    st_getD hC (n := 16) (k := 11) (j := 12) (dc_X11_planStatus 16 (30, .getfield 87, 3) rfl rfl) rfl clf_11 (by decide) rfl (by decide) wd_723,
    st_iload_n hC (n := 17) (k := 2) (dc_X11_planStatus 17 (33, .iload_n 2, 1) rfl rfl) rfl rfl,
    st_callV hC (n := 18) (k := 6) (na := 1) (con_X6_isTaken l) (dc_X11_planStatus 18 (34, .invokevirtual 373, 3) rfl rfl) rfl wd_1159 wd_155 (by decide) ⟨rfl, rfl, by decide, by decide⟩ hM wd_1273 wd_1157 wd_1158 clf_6,
    st_ifeq hC (n := 19) (dc_X11_planStatus 19 (37, .ifCond .eq 6, 3) rfl rfl) rfl (by decide),
    st_bipush hC (n := 20) (x := 7) (dc_X11_planStatus 20 (40, .bipush 7, 2) rfl rfl) rfl (by decide),
    st_iret hC (n := 21) hR (dc_X11_planStatus 21 (42, .ireturn, 1) rfl rfl),
    st_aload_n hC (n := 22) (k := 0) (dc_X11_planStatus 22 (43, .aload_n 0, 1) rfl rfl) rfl rfl,
    st_getC hC (n := 23) (k := 11) (j := 5) (dc_X11_planStatus 23 (44, .getfield 47, 3) rfl rfl) rfl clf_11 (by decide) rfl (by decide) wd_716,
    st_aload_n hC (n := 24) (k := 0) (dc_X11_planStatus 24 (47, .aload_n 0, 1) rfl rfl) rfl rfl,
    st_getD hC (n := 25) (k := 11) (j := 12) (dc_X11_planStatus 25 (48, .getfield 87, 3) rfl rfl) rfl clf_11 (by decide) rfl (by decide) wd_723,
    st_iload_n hC (n := 26) (k := 1) (dc_X11_planStatus 26 (51, .iload_n 1, 1) rfl rfl) rfl rfl,
    st_iload_n hC (n := 27) (k := 2) (dc_X11_planStatus 27 (52, .iload_n 2, 1) rfl rfl) rfl rfl,
    st_iload_n hC (n := 28) (k := 3) (dc_X11_planStatus 28 (53, .iload_n 3, 1) rfl rfl) rfl rfl,
    st_callV hC (n := 29) (k := 3) (na := 4) (con_X3_make l) (dc_X11_planStatus 29 (54, .invokevirtual 366, 3) rfl rfl) rfl wd_1277 wd_151 (by decide) ⟨rfl, rfl, by decide, by decide⟩ hM wd_1274 wd_1275 wd_1276 clf_3,
    st_aload_n hC (n := 30) (k := 0) (dc_X11_planStatus 30 (57, .aload_n 0, 1) rfl rfl) rfl rfl,
    st_getC hC (n := 31) (k := 11) (j := 5) (dc_X11_planStatus 31 (58, .getfield 47, 3) rfl rfl) rfl clf_11 (by decide) rfl (by decide) wd_716,
    st_callV hC (n := 32) (k := 3) (na := 0) (con_X3_isFound l) (dc_X11_planStatus 32 (61, .invokevirtual 376, 3) rfl rfl) rfl wd_1305 wd_151 (by decide) ⟨rfl, rfl, by decide, by decide⟩ hM wd_1302 wd_1303 wd_1304 clf_3,
    st_ifeq hC (n := 33) (dc_X11_planStatus 33 (64, .ifCond .eq 7, 3) rfl rfl) rfl (by decide),
    st_iconst hC (n := 34) (x := 0) (dc_X11_planStatus 34 (67, .iconst 0, 1) rfl rfl) rfl (by decide),
    st_goto hC (n := 35) (dc_X11_planStatus 35 (68, .goto 5, 3) rfl rfl) (by decide),
    st_bipush hC (n := 36) (x := 6) (dc_X11_planStatus 36 (71, .bipush 6, 2) rfl rfl) rfl (by decide),
    st_iret hC (n := 37) hR (dc_X11_planStatus 37 (73, .ireturn, 1) rfl rfl), trivial⟩
set_option maxRecDepth 8000 in
theorem vc_X11_planStatus : VC P_X11_planStatus 4 Pre_X11_planStatus Fn_X11_planStatus := by
  rintro mm as hom hoa ⟨ns, nm, nt, ⟨hV, hND⟩, s, d, w, rfl⟩
  refine ⟨Nat.le_of_ble_eq_true rfl, fun X h => ?_⟩
  have hS : mm.1 6 (mm.2.2 0) 13 = nI ns := hV.1.1.1
  have hn4 : ns ≤ 4 := hV.1.1.2
  have hN : mm.1 6 (mm.2.2 0) 14 = nI nm := hV.1.2.1.1
  have hm4 : nm ≤ 4 := hV.1.2.1.2
  replace h : RUN P_X11_planStatus (RI (cl_ps mm s d w)) X := h
  obtain ⟨p, hp⟩ : ∃ p, p = cl_ps mm s d w := ⟨_, rfl⟩
  rw [← hp] at h
  unfold cl_ps at hp
  have s30 : ∀ M, p = cl_ps1 M → X 30 [some (vR 11 0), some (vI (s)), some (vI (d)), some (vI (w))] [] (M) := by
    intro M hp
    unfold cl_ps1 at hp
    show X 30 [some (vR 11 0), some (vI s), some (vI d), some (vI w)] [] M
    refine h (fun _ => false) 3000 30 _ _ _ ?_
    refine And.intro (show Pre_X3_isFound M [vR 3 0] from rfl) ?_
    refine br_c (fun b33 => ?_) (fun b33 => ?_)
    · -- 33: bI (¬ M.1 3 0 13 < 0) = 0 taken
      replace b33 : ¬ (¬ M.1 3 0 13 < 0) := bI_0.mp b33
      show ((some (vI 6) : Option MV), M) = _
      exact pI_q (by rw [hp, if_neg b33])
    · -- 33: bI (¬ M.1 3 0 13 < 0) = 0 on
      replace b33 : ¬ M.1 3 0 13 < 0 := bI_n0.mp b33
      show ((some (vI 0) : Option MV), M) = _
      exact pI_q (by rw [hp, if_pos b33])
  show X 0 [some (vR 11 0), some (vI s), some (vI d), some (vI w)] [] mm
  refine h (fun i => Nat.beq i 30) 3000 0 _ _ _ ?_
  refine And.intro (show Pre_X11_isNoPair mm [vR 11 0, vI s, vI d] from ⟨_, _, rfl⟩) ?_
  refine brn_c (fun b4 => ?_) (fun b4 => ?_)
  · -- 4: bI (npC mm s d) = 0 taken
    replace b4 : npC mm s d := bI_n0.mp b4
    show ((some (vI 1) : Option MV), mm) = _
    exact pI_q (by rw [hp, if_pos b4])
  · -- 4: bI (npC mm s d) = 0 on
    replace b4 : ¬ (npC mm s d) := bI_0.mp b4
    obtain ⟨i, hi, ex⟩ := ou_in hS (by omega) (fun z => b4 (Or.inl z))
    obtain ⟨j, hj, ey⟩ := ou_in hN (by omega) (fun z => b4 (Or.inr z))
    refine And.intro (show Pre_X11_isNoTime mm [vI w] from ⟨_, rfl⟩) ?_
    refine br_c (fun b7 => ?_) (fun b7 => ?_)
    · -- 7: bI (w < 0 ∨ 99 < w) = 0 taken
      replace b7 : ¬ (w < 0 ∨ 99 < w) := bI_0.mp b7
      refine And.intro (show Pre_X6_isWed mm [vR 6 (mm.2.2 0), vI s] from ⟨_, ns, nm, nt, i, hV, by omega, by rw [ex]⟩) ?_
      refine brn_c (fun b14 => ?_) (fun b14 => ?_)
      · -- 14: bI (¬ abV mm (mm.2.2 0) (15 + 4 * s.toNatClampNeg) = -1) = 0 taken
        replace b14 : ¬ abV mm (mm.2.2 0) (15 + 4 * s.toNatClampNeg) = -1 := bI_n0.mp b14
        show ((some (vI 7) : Option MV), mm) = _
        exact pI_q (by rw [hp, if_neg b4, if_neg b7, if_pos b14])
      · -- 14: bI (¬ abV mm (mm.2.2 0) (15 + 4 * s.toNatClampNeg) = -1) = 0 on
        replace b14 : ¬ (¬ abV mm (mm.2.2 0) (15 + 4 * s.toNatClampNeg) = -1) := bI_0.mp b14
        refine And.intro (show Pre_X6_isTaken mm [vR 6 (mm.2.2 0), vI d] from ⟨_, ns, nm, nt, j, hV, by omega, by rw [ey]⟩) ?_
        refine br_c (fun b19 => ?_) (fun b19 => ?_)
        · -- 19: bI (¬ abV mm (mm.2.2 0) (31 + 4 * d.toNatClampNeg) = -1) = 0 taken
          replace b19 : ¬ (¬ abV mm (mm.2.2 0) (31 + 4 * d.toNatClampNeg) = -1) := bI_0.mp b19
          refine And.intro (show Pre_X3_make mm [vR 3 0, vR 6 (mm.2.2 0), vI s, vI d, vI w] from ⟨_, ns, nm, nt, i, j, w, hV, hND, by omega, by omega, by rw [ex, ey]⟩) ?_
          show X 30 [some (vR 11 0), some (vI s), some (vI d), some (vI w)] [] (mkM mm (mm.2.2 0) s.toNatClampNeg d.toNatClampNeg w)
          rw [if_neg b4, if_neg b7, if_neg b14, if_neg b19] at hp
          exact s30 _ hp
        · -- 19: bI (¬ abV mm (mm.2.2 0) (31 + 4 * d.toNatClampNeg) = -1) = 0 on
          replace b19 : ¬ abV mm (mm.2.2 0) (31 + 4 * d.toNatClampNeg) = -1 := bI_n0.mp b19
          show ((some (vI 7) : Option MV), mm) = _
          exact pI_q (by rw [hp, if_neg b4, if_neg b7, if_neg b14, if_pos b19])
    · -- 7: bI (w < 0 ∨ 99 < w) = 0 on
      replace b7 : w < 0 ∨ 99 < w := bI_n0.mp b7
      show ((some (vI 1) : Option MV), mm) = _
      exact pI_q (by rw [hp, if_neg b4, if_pos b7])
theorem con_X11_planStatus (l : Launch) : CON l y_X11_planStatus prog_1_method_76_code 4 (some .int) rm_X11_planStatus Pre_X11_planStatus Fn_X11_planStatus := CON_of (by decide) rfl rfl (sa_X11_planStatus l) vc_X11_planStatus
theorem VD_ps {m : MM} {ns nm nt : Nat} {s d w : Int32} (hV : VD m ns nm nt) : VD (cl_ps m s d w).2 ns nm nt := by
  unfold cl_ps
  split
  · exact hV
  split
  · exact hV
  split
  · exact hV
  split
  · exact hV
  · exact VD_mk hV

--tpl ⟨_, _, _, by assumption, _, _, _, rfl⟩ || bI ((cl_ps {m} {1} {2} {3}).1 = 0) || (cl_ps {m} {1} {2} {3}).2
def Pre_X11_canPlan : PreT := fun m as => ∃ ns nm nt, VD m ns nm nt ∧ ∃ s d w : Int32, as = [vR 11 0, vI s, vI d, vI w]
def Fn_X11_canPlan : FnT := fun m as => match as with
  | [_, Sum.inl s, Sum.inl d, Sum.inl w] => (some (vI (bI ((cl_ps m s d w).1 = 0))), (cl_ps m s d w).2)
  | _ => (none, m)
abbrev y_X11_canPlan : MethodName := ⟨"GivenUp", "canPlan", "(III)Z"⟩
def P_X11_canPlan : List StpT := [s_aload 0, s_iload 1, s_iload 2, s_iload 3, s_callV 11 3 Pre_X11_planStatus Fn_X11_planStatus, s_ifne 8, s_ic (1), s_goto 9, s_ic (0), s_zret]
def pc_X11_canPlan : Nat → Nat := fun i => [0, 1, 2, 3, 4, 7, 10, 11, 14, 15].getD i 0
def dl_X11_canPlan : List (Nat × Instr × Nat) := [(0, .aload_n 0, 1), (1, .iload_n 1, 1), (2, .iload_n 2, 1), (3, .iload_n 3, 1), (4, .invokevirtual 346, 3), (7, .ifCond .ne 7, 3), (10, .iconst 1, 1), (11, .goto 4, 3), (14, .iconst 0, 1), (15, .ireturn, 1)]
theorem dc_X11_canPlan : DEC prog_1_method_77_code pc_X11_canPlan dl_X11_canPlan := DEC_of (by decide +kernel)
abbrev rm_X11_canPlan : Room := { frames := 18, cells := 0, slots := 0, locals := 459 }
set_option maxRecDepth 20000 in
theorem sa_X11_canPlan (l : Launch) : SNDALL l prog_1_method_77_code "GivenUp" 4 (some .boolean) rm_X11_canPlan P_X11_canPlan pc_X11_canPlan := fun p e s m args below meth c cells slots Q D dA ad A RR hC hR => by
  have hM := RTX_room (R := rm_X11_canPlan) hR
  exact ⟨st_aload_n hC (n := 0) (k := 0) (dc_X11_canPlan 0 (0, .aload_n 0, 1) rfl rfl) rfl rfl,
    st_iload_n hC (n := 1) (k := 1) (dc_X11_canPlan 1 (1, .iload_n 1, 1) rfl rfl) rfl rfl,
    st_iload_n hC (n := 2) (k := 2) (dc_X11_canPlan 2 (2, .iload_n 2, 1) rfl rfl) rfl rfl,
    st_iload_n hC (n := 3) (k := 3) (dc_X11_canPlan 3 (3, .iload_n 3, 1) rfl rfl) rfl rfl,
    st_callV hC (n := 4) (k := 11) (na := 3) (con_X11_planStatus l) (dc_X11_canPlan 4 (4, .invokevirtual 346, 3) rfl rfl) rfl wd_1268 wd_143 (by decide) ⟨rfl, rfl, by decide, by decide⟩ hM wd_1265 wd_1267 wd_29 clf_11,
    st_ifne hC (n := 5) (dc_X11_canPlan 5 (7, .ifCond .ne 7, 3) rfl rfl) rfl (by decide),
    st_iconst hC (n := 6) (x := 1) (dc_X11_canPlan 6 (10, .iconst 1, 1) rfl rfl) rfl (by decide),
    st_goto hC (n := 7) (dc_X11_canPlan 7 (11, .goto 4, 3) rfl rfl) (by decide),
    st_iconst hC (n := 8) (x := 0) (dc_X11_canPlan 8 (14, .iconst 0, 1) rfl rfl) rfl (by decide),
    st_zret hC (n := 9) hR (dc_X11_canPlan 9 (15, .ireturn, 1) rfl rfl), trivial⟩
set_option maxRecDepth 8000 in
theorem vc_X11_canPlan : VC P_X11_canPlan 4 Pre_X11_canPlan Fn_X11_canPlan := by
  rintro mm as hom hoa ⟨ns, nm, nt, hV, s, d, w, rfl⟩
  refine ⟨Nat.le_of_ble_eq_true rfl, fun X h => ?_⟩
  replace h : RUN P_X11_canPlan (fun r m' => (r, m') = (some (vI (bI ((cl_ps mm s d w).1 = 0))), (cl_ps mm s d w).2)) X := h
  obtain ⟨q, hq⟩ : ∃ q, q = cl_ps mm s d w := ⟨_, rfl⟩
  rw [← hq] at h
  have s5 : X 5 [some (vR 11 0), some (vI (s)), some (vI (d)), some (vI (w))] [vI (q.1)] (q.2) := by
    show X 5 [some (vR 11 0), some (vI s), some (vI d), some (vI w)] [vI q.1] q.2
    refine h (fun _ => false) 3000 5 _ _ _ ?_
    refine brn_c (fun b5 => ?_) (fun b5 => ?_)
    · -- 5: q.1 = 0 taken
      replace b5 : ¬ (q.1 = 0) := b5
      refine And.intro (Or.inl rfl) ?_
      show ((some (vI 0) : Option MV), q.2) = _
      rw [bI_f b5]
    · -- 5: q.1 = 0 on
      replace b5 : q.1 = 0 := b5
      refine And.intro (Or.inr rfl) ?_
      show ((some (vI 1) : Option MV), q.2) = _
      rw [bI_t b5]
  show X 0 [some (vR 11 0), some (vI s), some (vI d), some (vI w)] [] mm
  refine h (fun i => Nat.beq i 5) 3000 0 _ _ _ ?_
  refine And.intro (show Pre_X11_planStatus mm [vR 11 0, vI s, vI d, vI w] from ⟨ns, nm, nt, hV, s, d, w, rfl⟩) ?_
  show X 5 [some (vR 11 0), some (vI s), some (vI d), some (vI w)] [vI ((cl_ps mm s d w).1)] ((cl_ps mm s d w).2)
  rw [← hq]
  exact s5
theorem con_X11_canPlan (l : Launch) : CON l y_X11_canPlan prog_1_method_77_code 4 (some .boolean) rm_X11_canPlan Pre_X11_canPlan Fn_X11_canPlan := CON_of (by decide) rfl rfl (sa_X11_canPlan l) vc_X11_canPlan
def cl_lst (k : Nat) (q : Int32 × MM) : Option MV × MM := if q.1 = 0 then gvC q.2 (q.2.1 3 0 k) else rfC q.2 q.1

def Pre_X11_least : PreT := fun m as => ∃ ns nm nt, VD m ns nm nt ∧ ∃ s d w : Int32, as = [vR 11 0, vI s, vI d, vI w]
def Fn_X11_least : FnT := fun m as => match as with
  | [_, Sum.inl s, Sum.inl d, Sum.inl w] => cl_lst 12 (cl_ps m s d w)
  | _ => (none, m)
abbrev y_X11_least : MethodName := ⟨"GivenUp", "least", "(III)I"⟩
def P_X11_least : List StpT := [s_aload 0, s_iload 1, s_iload 2, s_iload 3, s_callV 11 3 Pre_X11_planStatus Fn_X11_planStatus, s_istore 4, s_iload 4, s_ifeq 12, s_aload 0, s_iload 4, s_callV 11 1 Pre_X11_refuse Fn_X11_refuse, s_goto 17, s_aload 0, s_aload 0, s_getC 11 5 3 0, s_getI 3 12, s_callV 11 1 Pre_X11_answer Fn_X11_answer, s_iret]
def pc_X11_least : Nat → Nat := fun i => [0, 1, 2, 3, 4, 7, 9, 11, 14, 15, 17, 20, 23, 24, 25, 28, 31, 34].getD i 0
def dl_X11_least : List (Nat × Instr × Nat) := [(0, .aload_n 0, 1), (1, .iload_n 1, 1), (2, .iload_n 2, 1), (3, .iload_n 3, 1), (4, .invokevirtual 346, 3), (7, .istore 4, 2), (9, .iload 4, 2), (11, .ifCond .eq 12, 3), (14, .aload_n 0, 1), (15, .iload 4, 2), (17, .invokevirtual 139, 3), (20, .goto 14, 3), (23, .aload_n 0, 1), (24, .aload_n 0, 1), (25, .getfield 47, 3), (28, .getfield 350, 3), (31, .invokevirtual 178, 3), (34, .ireturn, 1)]
theorem dc_X11_least : DEC prog_1_method_37_code pc_X11_least dl_X11_least := DEC_of (by decide +kernel)
abbrev rm_X11_least : Room := { frames := 18, cells := 0, slots := 0, locals := 459 }
set_option maxRecDepth 20000 in
theorem sa_X11_least (l : Launch) : SNDALL l prog_1_method_37_code "GivenUp" 5 (some .int) rm_X11_least P_X11_least pc_X11_least := fun p e s m args below meth c cells slots Q D dA ad A RR hC hR => by
  have hM := RTX_room (R := rm_X11_least) hR
  exact ⟨st_aload_n hC (n := 0) (k := 0) (dc_X11_least 0 (0, .aload_n 0, 1) rfl rfl) rfl rfl,
    st_iload_n hC (n := 1) (k := 1) (dc_X11_least 1 (1, .iload_n 1, 1) rfl rfl) rfl rfl,
    st_iload_n hC (n := 2) (k := 2) (dc_X11_least 2 (2, .iload_n 2, 1) rfl rfl) rfl rfl,
    st_iload_n hC (n := 3) (k := 3) (dc_X11_least 3 (3, .iload_n 3, 1) rfl rfl) rfl rfl,
    st_callV hC (n := 4) (k := 11) (na := 3) (con_X11_planStatus l) (dc_X11_least 4 (4, .invokevirtual 346, 3) rfl rfl) rfl wd_1268 wd_143 (by decide) ⟨rfl, rfl, by decide, by decide⟩ hM wd_1265 wd_1267 wd_29 clf_11,
    st_istore hC (n := 5) (dc_X11_least 5 (7, .istore 4, 2) rfl rfl) rfl (by decide),
    st_iload hC (n := 6) (dc_X11_least 6 (9, .iload 4, 2) rfl rfl) rfl,
    st_ifeq hC (n := 7) (dc_X11_least 7 (11, .ifCond .eq 12, 3) rfl rfl) rfl (by decide),
    st_aload_n hC (n := 8) (k := 0) (dc_X11_least 8 (14, .aload_n 0, 1) rfl rfl) rfl rfl,
    st_iload hC (n := 9) (dc_X11_least 9 (15, .iload 4, 2) rfl rfl) rfl,
    st_callV hC (n := 10) (k := 11) (na := 1) (con_X11_refuse l) (dc_X11_least 10 (17, .invokevirtual 139, 3) rfl rfl) rfl wd_824 wd_143 (by decide) ⟨rfl, rfl, by decide, by decide⟩ hM wd_821 wd_823 wd_3 clf_11,
    st_goto hC (n := 11) (dc_X11_least 11 (20, .goto 14, 3) rfl rfl) (by decide),
    st_aload_n hC (n := 12) (k := 0) (dc_X11_least 12 (23, .aload_n 0, 1) rfl rfl) rfl rfl,
    st_aload_n hC (n := 13) (k := 0) (dc_X11_least 13 (24, .aload_n 0, 1) rfl rfl) rfl rfl,
    st_getC hC (n := 14) (k := 11) (j := 5) (dc_X11_least 14 (25, .getfield 47, 3) rfl rfl) rfl clf_11 (by decide) rfl (by decide) wd_716,
    st_getI hC (n := 15) (k := 3) (j := 12) (dc_X11_least 15 (28, .getfield 350, 3) rfl rfl) rfl clf_3 (by decide) rfl wd_326,
    st_callV hC (n := 16) (k := 11) (na := 1) (con_X11_answer l) (dc_X11_least 16 (31, .invokevirtual 178, 3) rfl rfl) rfl wd_967 wd_143 (by decide) ⟨rfl, rfl, by decide, by decide⟩ hM wd_964 wd_966 wd_17 clf_11,
    st_iret hC (n := 17) hR (dc_X11_least 17 (34, .ireturn, 1) rfl rfl), trivial⟩
set_option maxRecDepth 8000 in
theorem vc_X11_least : VC P_X11_least 5 Pre_X11_least Fn_X11_least := by
  rintro mm as hom hoa ⟨ns, nm, nt, hV, s, d, w, rfl⟩
  refine ⟨Nat.le_of_ble_eq_true rfl, fun X h => ?_⟩
  replace h : RUN P_X11_least (fun r m' => (r, m') = cl_lst 12 (cl_ps mm s d w)) X := h
  obtain ⟨q, hq⟩ : ∃ q, q = cl_ps mm s d w := ⟨_, rfl⟩
  rw [← hq] at h
  unfold cl_lst at h
  have s5 : X 5 [some (vR 11 0), some (vI (s)), some (vI (d)), some (vI (w)), none] [vI (q.1)] (q.2) := by
    show X 5 [some (vR 11 0), some (vI s), some (vI d), some (vI w), none] [vI q.1] q.2
    refine h (fun _ => false) 3000 5 _ _ _ ?_
    refine br_c (fun b7 => ?_) (fun b7 => ?_)
    · -- 7: q.1 = 0 taken
      replace b7 : q.1 = 0 := b7
      refine And.intro (show Pre_X11_answer q.2 [vR 11 0, vI ((q.2).1 3 0 12)] from ⟨_, rfl⟩) ?_
      show ((some (vI ((q.2).1 3 0 12)) : Option MV), stC (q.2) 0) = _
      rw [if_pos b7]
      rfl
    · -- 7: q.1 = 0 on
      replace b7 : ¬ (q.1 = 0) := b7
      refine And.intro (show Pre_X11_refuse q.2 [vR 11 0, vI q.1] from ⟨_, rfl⟩) ?_
      show ((some (vI (-1)) : Option MV), stC (q.2) q.1) = _
      rw [if_neg b7]
      rfl
  show X 0 [some (vR 11 0), some (vI s), some (vI d), some (vI w), none] [] mm
  refine h (fun i => Nat.beq i 5) 3000 0 _ _ _ ?_
  refine And.intro (show Pre_X11_planStatus mm [vR 11 0, vI s, vI d, vI w] from ⟨ns, nm, nt, hV, s, d, w, rfl⟩) ?_
  show X 5 [some (vR 11 0), some (vI s), some (vI d), some (vI w), none] [vI ((cl_ps mm s d w).1)] ((cl_ps mm s d w).2)
  rw [← hq]
  exact s5
theorem con_X11_least (l : Launch) : CON l y_X11_least prog_1_method_37_code 5 (some .int) rm_X11_least Pre_X11_least Fn_X11_least := CON_of (by decide) rfl rfl (sa_X11_least l) vc_X11_least
def Pre_X11_leastSet : PreT := fun m as => ∃ ns nm nt, VD m ns nm nt ∧ ∃ s d w : Int32, as = [vR 11 0, vI s, vI d, vI w]
def Fn_X11_leastSet : FnT := fun m as => match as with
  | [_, Sum.inl s, Sum.inl d, Sum.inl w] => cl_lst 13 (cl_ps m s d w)
  | _ => (none, m)
abbrev y_X11_leastSet : MethodName := ⟨"GivenUp", "leastSet", "(III)I"⟩
def P_X11_leastSet : List StpT := [s_aload 0, s_iload 1, s_iload 2, s_iload 3, s_callV 11 3 Pre_X11_planStatus Fn_X11_planStatus, s_istore 4, s_iload 4, s_ifeq 12, s_aload 0, s_iload 4, s_callV 11 1 Pre_X11_refuse Fn_X11_refuse, s_goto 17, s_aload 0, s_aload 0, s_getC 11 5 3 0, s_getI 3 13, s_callV 11 1 Pre_X11_answer Fn_X11_answer, s_iret]
def pc_X11_leastSet : Nat → Nat := fun i => [0, 1, 2, 3, 4, 7, 9, 11, 14, 15, 17, 20, 23, 24, 25, 28, 31, 34].getD i 0
def dl_X11_leastSet : List (Nat × Instr × Nat) := [(0, .aload_n 0, 1), (1, .iload_n 1, 1), (2, .iload_n 2, 1), (3, .iload_n 3, 1), (4, .invokevirtual 346, 3), (7, .istore 4, 2), (9, .iload 4, 2), (11, .ifCond .eq 12, 3), (14, .aload_n 0, 1), (15, .iload 4, 2), (17, .invokevirtual 139, 3), (20, .goto 14, 3), (23, .aload_n 0, 1), (24, .aload_n 0, 1), (25, .getfield 47, 3), (28, .getfield 352, 3), (31, .invokevirtual 178, 3), (34, .ireturn, 1)]
theorem dc_X11_leastSet : DEC prog_1_method_38_code pc_X11_leastSet dl_X11_leastSet := DEC_of (by decide +kernel)
abbrev rm_X11_leastSet : Room := { frames := 18, cells := 0, slots := 0, locals := 459 }
set_option maxRecDepth 20000 in
theorem sa_X11_leastSet (l : Launch) : SNDALL l prog_1_method_38_code "GivenUp" 5 (some .int) rm_X11_leastSet P_X11_leastSet pc_X11_leastSet := fun p e s m args below meth c cells slots Q D dA ad A RR hC hR => by
  have hM := RTX_room (R := rm_X11_leastSet) hR
  exact ⟨st_aload_n hC (n := 0) (k := 0) (dc_X11_leastSet 0 (0, .aload_n 0, 1) rfl rfl) rfl rfl,
    st_iload_n hC (n := 1) (k := 1) (dc_X11_leastSet 1 (1, .iload_n 1, 1) rfl rfl) rfl rfl,
    st_iload_n hC (n := 2) (k := 2) (dc_X11_leastSet 2 (2, .iload_n 2, 1) rfl rfl) rfl rfl,
    st_iload_n hC (n := 3) (k := 3) (dc_X11_leastSet 3 (3, .iload_n 3, 1) rfl rfl) rfl rfl,
    st_callV hC (n := 4) (k := 11) (na := 3) (con_X11_planStatus l) (dc_X11_leastSet 4 (4, .invokevirtual 346, 3) rfl rfl) rfl wd_1268 wd_143 (by decide) ⟨rfl, rfl, by decide, by decide⟩ hM wd_1265 wd_1267 wd_29 clf_11,
    st_istore hC (n := 5) (dc_X11_leastSet 5 (7, .istore 4, 2) rfl rfl) rfl (by decide),
    st_iload hC (n := 6) (dc_X11_leastSet 6 (9, .iload 4, 2) rfl rfl) rfl,
    st_ifeq hC (n := 7) (dc_X11_leastSet 7 (11, .ifCond .eq 12, 3) rfl rfl) rfl (by decide),
    st_aload_n hC (n := 8) (k := 0) (dc_X11_leastSet 8 (14, .aload_n 0, 1) rfl rfl) rfl rfl,
    st_iload hC (n := 9) (dc_X11_leastSet 9 (15, .iload 4, 2) rfl rfl) rfl,
    st_callV hC (n := 10) (k := 11) (na := 1) (con_X11_refuse l) (dc_X11_leastSet 10 (17, .invokevirtual 139, 3) rfl rfl) rfl wd_824 wd_143 (by decide) ⟨rfl, rfl, by decide, by decide⟩ hM wd_821 wd_823 wd_3 clf_11,
    st_goto hC (n := 11) (dc_X11_leastSet 11 (20, .goto 14, 3) rfl rfl) (by decide),
    st_aload_n hC (n := 12) (k := 0) (dc_X11_leastSet 12 (23, .aload_n 0, 1) rfl rfl) rfl rfl,
    st_aload_n hC (n := 13) (k := 0) (dc_X11_leastSet 13 (24, .aload_n 0, 1) rfl rfl) rfl rfl,
    st_getC hC (n := 14) (k := 11) (j := 5) (dc_X11_leastSet 14 (25, .getfield 47, 3) rfl rfl) rfl clf_11 (by decide) rfl (by decide) wd_716,
    st_getI hC (n := 15) (k := 3) (j := 13) (dc_X11_leastSet 15 (28, .getfield 352, 3) rfl rfl) rfl clf_3 (by decide) rfl wd_328,
    st_callV hC (n := 16) (k := 11) (na := 1) (con_X11_answer l) (dc_X11_leastSet 16 (31, .invokevirtual 178, 3) rfl rfl) rfl wd_967 wd_143 (by decide) ⟨rfl, rfl, by decide, by decide⟩ hM wd_964 wd_966 wd_17 clf_11,
    st_iret hC (n := 17) hR (dc_X11_leastSet 17 (34, .ireturn, 1) rfl rfl), trivial⟩
set_option maxRecDepth 8000 in
theorem vc_X11_leastSet : VC P_X11_leastSet 5 Pre_X11_leastSet Fn_X11_leastSet := by
  rintro mm as hom hoa ⟨ns, nm, nt, hV, s, d, w, rfl⟩
  refine ⟨Nat.le_of_ble_eq_true rfl, fun X h => ?_⟩
  replace h : RUN P_X11_leastSet (fun r m' => (r, m') = cl_lst 13 (cl_ps mm s d w)) X := h
  obtain ⟨q, hq⟩ : ∃ q, q = cl_ps mm s d w := ⟨_, rfl⟩
  rw [← hq] at h
  unfold cl_lst at h
  have s5 : X 5 [some (vR 11 0), some (vI (s)), some (vI (d)), some (vI (w)), none] [vI (q.1)] (q.2) := by
    show X 5 [some (vR 11 0), some (vI s), some (vI d), some (vI w), none] [vI q.1] q.2
    refine h (fun _ => false) 3000 5 _ _ _ ?_
    refine br_c (fun b7 => ?_) (fun b7 => ?_)
    · -- 7: q.1 = 0 taken
      replace b7 : q.1 = 0 := b7
      refine And.intro (show Pre_X11_answer q.2 [vR 11 0, vI ((q.2).1 3 0 13)] from ⟨_, rfl⟩) ?_
      show ((some (vI ((q.2).1 3 0 13)) : Option MV), stC (q.2) 0) = _
      rw [if_pos b7]
      rfl
    · -- 7: q.1 = 0 on
      replace b7 : ¬ (q.1 = 0) := b7
      refine And.intro (show Pre_X11_refuse q.2 [vR 11 0, vI q.1] from ⟨_, rfl⟩) ?_
      show ((some (vI (-1)) : Option MV), stC (q.2) q.1) = _
      rw [if_neg b7]
      rfl
  show X 0 [some (vR 11 0), some (vI s), some (vI d), some (vI w), none] [] mm
  refine h (fun i => Nat.beq i 5) 3000 0 _ _ _ ?_
  refine And.intro (show Pre_X11_planStatus mm [vR 11 0, vI s, vI d, vI w] from ⟨ns, nm, nt, hV, s, d, w, rfl⟩) ?_
  show X 5 [some (vR 11 0), some (vI s), some (vI d), some (vI w), none] [vI ((cl_ps mm s d w).1)] ((cl_ps mm s d w).2)
  rw [← hq]
  exact s5
theorem con_X11_leastSet (l : Launch) : CON l y_X11_leastSet prog_1_method_38_code 5 (some .int) rm_X11_leastSet Pre_X11_leastSet Fn_X11_leastSet := CON_of (by decide) rfl rfl (sa_X11_leastSet l) vc_X11_leastSet
def Pre_X11_fewest : PreT := fun m as => ∃ ns nm nt, VD m ns nm nt ∧ ∃ s d w : Int32, as = [vR 11 0, vI s, vI d, vI w]
def Fn_X11_fewest : FnT := fun m as => match as with
  | [_, Sum.inl s, Sum.inl d, Sum.inl w] => cl_lst 14 (cl_ps m s d w)
  | _ => (none, m)
abbrev y_X11_fewest : MethodName := ⟨"GivenUp", "fewest", "(III)I"⟩
def P_X11_fewest : List StpT := [s_aload 0, s_iload 1, s_iload 2, s_iload 3, s_callV 11 3 Pre_X11_planStatus Fn_X11_planStatus, s_istore 4, s_iload 4, s_ifeq 12, s_aload 0, s_iload 4, s_callV 11 1 Pre_X11_refuse Fn_X11_refuse, s_goto 17, s_aload 0, s_aload 0, s_getC 11 5 3 0, s_getI 3 14, s_callV 11 1 Pre_X11_answer Fn_X11_answer, s_iret]
def pc_X11_fewest : Nat → Nat := fun i => [0, 1, 2, 3, 4, 7, 9, 11, 14, 15, 17, 20, 23, 24, 25, 28, 31, 34].getD i 0
def dl_X11_fewest : List (Nat × Instr × Nat) := [(0, .aload_n 0, 1), (1, .iload_n 1, 1), (2, .iload_n 2, 1), (3, .iload_n 3, 1), (4, .invokevirtual 346, 3), (7, .istore 4, 2), (9, .iload 4, 2), (11, .ifCond .eq 12, 3), (14, .aload_n 0, 1), (15, .iload 4, 2), (17, .invokevirtual 139, 3), (20, .goto 14, 3), (23, .aload_n 0, 1), (24, .aload_n 0, 1), (25, .getfield 47, 3), (28, .getfield 354, 3), (31, .invokevirtual 178, 3), (34, .ireturn, 1)]
theorem dc_X11_fewest : DEC prog_1_method_39_code pc_X11_fewest dl_X11_fewest := DEC_of (by decide +kernel)
abbrev rm_X11_fewest : Room := { frames := 18, cells := 0, slots := 0, locals := 459 }
set_option maxRecDepth 20000 in
theorem sa_X11_fewest (l : Launch) : SNDALL l prog_1_method_39_code "GivenUp" 5 (some .int) rm_X11_fewest P_X11_fewest pc_X11_fewest := fun p e s m args below meth c cells slots Q D dA ad A RR hC hR => by
  have hM := RTX_room (R := rm_X11_fewest) hR
  exact ⟨st_aload_n hC (n := 0) (k := 0) (dc_X11_fewest 0 (0, .aload_n 0, 1) rfl rfl) rfl rfl,
    st_iload_n hC (n := 1) (k := 1) (dc_X11_fewest 1 (1, .iload_n 1, 1) rfl rfl) rfl rfl,
    st_iload_n hC (n := 2) (k := 2) (dc_X11_fewest 2 (2, .iload_n 2, 1) rfl rfl) rfl rfl,
    st_iload_n hC (n := 3) (k := 3) (dc_X11_fewest 3 (3, .iload_n 3, 1) rfl rfl) rfl rfl,
    st_callV hC (n := 4) (k := 11) (na := 3) (con_X11_planStatus l) (dc_X11_fewest 4 (4, .invokevirtual 346, 3) rfl rfl) rfl wd_1268 wd_143 (by decide) ⟨rfl, rfl, by decide, by decide⟩ hM wd_1265 wd_1267 wd_29 clf_11,
    st_istore hC (n := 5) (dc_X11_fewest 5 (7, .istore 4, 2) rfl rfl) rfl (by decide),
    st_iload hC (n := 6) (dc_X11_fewest 6 (9, .iload 4, 2) rfl rfl) rfl,
    st_ifeq hC (n := 7) (dc_X11_fewest 7 (11, .ifCond .eq 12, 3) rfl rfl) rfl (by decide),
    st_aload_n hC (n := 8) (k := 0) (dc_X11_fewest 8 (14, .aload_n 0, 1) rfl rfl) rfl rfl,
    st_iload hC (n := 9) (dc_X11_fewest 9 (15, .iload 4, 2) rfl rfl) rfl,
    st_callV hC (n := 10) (k := 11) (na := 1) (con_X11_refuse l) (dc_X11_fewest 10 (17, .invokevirtual 139, 3) rfl rfl) rfl wd_824 wd_143 (by decide) ⟨rfl, rfl, by decide, by decide⟩ hM wd_821 wd_823 wd_3 clf_11,
    st_goto hC (n := 11) (dc_X11_fewest 11 (20, .goto 14, 3) rfl rfl) (by decide),
    st_aload_n hC (n := 12) (k := 0) (dc_X11_fewest 12 (23, .aload_n 0, 1) rfl rfl) rfl rfl,
    st_aload_n hC (n := 13) (k := 0) (dc_X11_fewest 13 (24, .aload_n 0, 1) rfl rfl) rfl rfl,
    st_getC hC (n := 14) (k := 11) (j := 5) (dc_X11_fewest 14 (25, .getfield 47, 3) rfl rfl) rfl clf_11 (by decide) rfl (by decide) wd_716,
    st_getI hC (n := 15) (k := 3) (j := 14) (dc_X11_fewest 15 (28, .getfield 354, 3) rfl rfl) rfl clf_3 (by decide) rfl wd_330,
    st_callV hC (n := 16) (k := 11) (na := 1) (con_X11_answer l) (dc_X11_fewest 16 (31, .invokevirtual 178, 3) rfl rfl) rfl wd_967 wd_143 (by decide) ⟨rfl, rfl, by decide, by decide⟩ hM wd_964 wd_966 wd_17 clf_11,
    st_iret hC (n := 17) hR (dc_X11_fewest 17 (34, .ireturn, 1) rfl rfl), trivial⟩
set_option maxRecDepth 8000 in
theorem vc_X11_fewest : VC P_X11_fewest 5 Pre_X11_fewest Fn_X11_fewest := by
  rintro mm as hom hoa ⟨ns, nm, nt, hV, s, d, w, rfl⟩
  refine ⟨Nat.le_of_ble_eq_true rfl, fun X h => ?_⟩
  replace h : RUN P_X11_fewest (fun r m' => (r, m') = cl_lst 14 (cl_ps mm s d w)) X := h
  obtain ⟨q, hq⟩ : ∃ q, q = cl_ps mm s d w := ⟨_, rfl⟩
  rw [← hq] at h
  unfold cl_lst at h
  have s5 : X 5 [some (vR 11 0), some (vI (s)), some (vI (d)), some (vI (w)), none] [vI (q.1)] (q.2) := by
    show X 5 [some (vR 11 0), some (vI s), some (vI d), some (vI w), none] [vI q.1] q.2
    refine h (fun _ => false) 3000 5 _ _ _ ?_
    refine br_c (fun b7 => ?_) (fun b7 => ?_)
    · -- 7: q.1 = 0 taken
      replace b7 : q.1 = 0 := b7
      refine And.intro (show Pre_X11_answer q.2 [vR 11 0, vI ((q.2).1 3 0 14)] from ⟨_, rfl⟩) ?_
      show ((some (vI ((q.2).1 3 0 14)) : Option MV), stC (q.2) 0) = _
      rw [if_pos b7]
      rfl
    · -- 7: q.1 = 0 on
      replace b7 : ¬ (q.1 = 0) := b7
      refine And.intro (show Pre_X11_refuse q.2 [vR 11 0, vI q.1] from ⟨_, rfl⟩) ?_
      show ((some (vI (-1)) : Option MV), stC (q.2) q.1) = _
      rw [if_neg b7]
      rfl
  show X 0 [some (vR 11 0), some (vI s), some (vI d), some (vI w), none] [] mm
  refine h (fun i => Nat.beq i 5) 3000 0 _ _ _ ?_
  refine And.intro (show Pre_X11_planStatus mm [vR 11 0, vI s, vI d, vI w] from ⟨ns, nm, nt, hV, s, d, w, rfl⟩) ?_
  show X 5 [some (vR 11 0), some (vI s), some (vI d), some (vI w), none] [vI ((cl_ps mm s d w).1)] ((cl_ps mm s d w).2)
  rw [← hq]
  exact s5
theorem con_X11_fewest (l : Launch) : CON l y_X11_fewest prog_1_method_39_code 5 (some .int) rm_X11_fewest Pre_X11_fewest Fn_X11_fewest := CON_of (by decide) rfl rfl (sa_X11_fewest l) vc_X11_fewest
def Pre_X11_soonest : PreT := fun m as => ∃ ns nm nt, VD m ns nm nt ∧ ∃ s d : Int32, as = [vR 11 0, vI s, vI d]
def Fn_X11_soonest : FnT := fun m as => match as with
  | [_, Sum.inl s, Sum.inl d] => cl_lst 15 (cl_ps m s d 99)
  | _ => (none, m)
abbrev y_X11_soonest : MethodName := ⟨"GivenUp", "soonest", "(II)I"⟩
def P_X11_soonest : List StpT := [s_aload 0, s_iload 1, s_iload 2, s_ic (99), s_callV 11 3 Pre_X11_planStatus Fn_X11_planStatus, s_istore 3, s_iload 3, s_ifeq 12, s_aload 0, s_iload 3, s_callV 11 1 Pre_X11_refuse Fn_X11_refuse, s_goto 17, s_aload 0, s_aload 0, s_getC 11 5 3 0, s_getI 3 15, s_callV 11 1 Pre_X11_answer Fn_X11_answer, s_iret]
def pc_X11_soonest : Nat → Nat := fun i => [0, 1, 2, 3, 5, 8, 9, 10, 13, 14, 15, 18, 21, 22, 23, 26, 29, 32].getD i 0
def dl_X11_soonest : List (Nat × Instr × Nat) := [(0, .aload_n 0, 1), (1, .iload_n 1, 1), (2, .iload_n 2, 1), (3, .bipush 99, 2), (5, .invokevirtual 346, 3), (8, .istore_n 3, 1), (9, .iload_n 3, 1), (10, .ifCond .eq 11, 3), (13, .aload_n 0, 1), (14, .iload_n 3, 1), (15, .invokevirtual 139, 3), (18, .goto 14, 3), (21, .aload_n 0, 1), (22, .aload_n 0, 1), (23, .getfield 47, 3), (26, .getfield 357, 3), (29, .invokevirtual 178, 3), (32, .ireturn, 1)]
theorem dc_X11_soonest : DEC prog_1_method_40_code pc_X11_soonest dl_X11_soonest := DEC_of (by decide +kernel)
abbrev rm_X11_soonest : Room := { frames := 18, cells := 0, slots := 0, locals := 459 }
set_option maxRecDepth 20000 in
theorem sa_X11_soonest (l : Launch) : SNDALL l prog_1_method_40_code "GivenUp" 4 (some .int) rm_X11_soonest P_X11_soonest pc_X11_soonest := fun p e s m args below meth c cells slots Q D dA ad A RR hC hR => by
  have hM := RTX_room (R := rm_X11_soonest) hR
  exact ⟨st_aload_n hC (n := 0) (k := 0) (dc_X11_soonest 0 (0, .aload_n 0, 1) rfl rfl) rfl rfl,
    st_iload_n hC (n := 1) (k := 1) (dc_X11_soonest 1 (1, .iload_n 1, 1) rfl rfl) rfl rfl,
    st_iload_n hC (n := 2) (k := 2) (dc_X11_soonest 2 (2, .iload_n 2, 1) rfl rfl) rfl rfl,
    st_bipush hC (n := 3) (x := 99) (dc_X11_soonest 3 (3, .bipush 99, 2) rfl rfl) rfl (by decide),
    st_callV hC (n := 4) (k := 11) (na := 3) (con_X11_planStatus l) (dc_X11_soonest 4 (5, .invokevirtual 346, 3) rfl rfl) rfl wd_1268 wd_143 (by decide) ⟨rfl, rfl, by decide, by decide⟩ hM wd_1265 wd_1267 wd_29 clf_11,
    st_istore_n hC (n := 5) (k := 3) (dc_X11_soonest 5 (8, .istore_n 3, 1) rfl rfl) rfl rfl (by decide),
    st_iload_n hC (n := 6) (k := 3) (dc_X11_soonest 6 (9, .iload_n 3, 1) rfl rfl) rfl rfl,
    st_ifeq hC (n := 7) (dc_X11_soonest 7 (10, .ifCond .eq 11, 3) rfl rfl) rfl (by decide),
    st_aload_n hC (n := 8) (k := 0) (dc_X11_soonest 8 (13, .aload_n 0, 1) rfl rfl) rfl rfl,
    st_iload_n hC (n := 9) (k := 3) (dc_X11_soonest 9 (14, .iload_n 3, 1) rfl rfl) rfl rfl,
    st_callV hC (n := 10) (k := 11) (na := 1) (con_X11_refuse l) (dc_X11_soonest 10 (15, .invokevirtual 139, 3) rfl rfl) rfl wd_824 wd_143 (by decide) ⟨rfl, rfl, by decide, by decide⟩ hM wd_821 wd_823 wd_3 clf_11,
    st_goto hC (n := 11) (dc_X11_soonest 11 (18, .goto 14, 3) rfl rfl) (by decide),
    st_aload_n hC (n := 12) (k := 0) (dc_X11_soonest 12 (21, .aload_n 0, 1) rfl rfl) rfl rfl,
    st_aload_n hC (n := 13) (k := 0) (dc_X11_soonest 13 (22, .aload_n 0, 1) rfl rfl) rfl rfl,
    st_getC hC (n := 14) (k := 11) (j := 5) (dc_X11_soonest 14 (23, .getfield 47, 3) rfl rfl) rfl clf_11 (by decide) rfl (by decide) wd_716,
    st_getI hC (n := 15) (k := 3) (j := 15) (dc_X11_soonest 15 (26, .getfield 357, 3) rfl rfl) rfl clf_3 (by decide) rfl wd_332,
    st_callV hC (n := 16) (k := 11) (na := 1) (con_X11_answer l) (dc_X11_soonest 16 (29, .invokevirtual 178, 3) rfl rfl) rfl wd_967 wd_143 (by decide) ⟨rfl, rfl, by decide, by decide⟩ hM wd_964 wd_966 wd_17 clf_11,
    st_iret hC (n := 17) hR (dc_X11_soonest 17 (32, .ireturn, 1) rfl rfl), trivial⟩
set_option maxRecDepth 8000 in
theorem vc_X11_soonest : VC P_X11_soonest 4 Pre_X11_soonest Fn_X11_soonest := by
  rintro mm as hom hoa ⟨ns, nm, nt, hV, s, d, rfl⟩
  refine ⟨Nat.le_of_ble_eq_true rfl, fun X h => ?_⟩
  replace h : RUN P_X11_soonest (fun r m' => (r, m') = cl_lst 15 (cl_ps mm s d 99)) X := h
  obtain ⟨q, hq⟩ : ∃ q, q = cl_ps mm s d 99 := ⟨_, rfl⟩
  rw [← hq] at h
  unfold cl_lst at h
  have s5 : X 5 [some (vR 11 0), some (vI (s)), some (vI (d)), none] [vI (q.1)] (q.2) := by
    show X 5 [some (vR 11 0), some (vI s), some (vI d), none] [vI q.1] q.2
    refine h (fun _ => false) 3000 5 _ _ _ ?_
    refine br_c (fun b7 => ?_) (fun b7 => ?_)
    · -- 7: q.1 = 0 taken
      replace b7 : q.1 = 0 := b7
      refine And.intro (show Pre_X11_answer q.2 [vR 11 0, vI ((q.2).1 3 0 15)] from ⟨_, rfl⟩) ?_
      show ((some (vI ((q.2).1 3 0 15)) : Option MV), stC (q.2) 0) = _
      rw [if_pos b7]
      rfl
    · -- 7: q.1 = 0 on
      replace b7 : ¬ (q.1 = 0) := b7
      refine And.intro (show Pre_X11_refuse q.2 [vR 11 0, vI q.1] from ⟨_, rfl⟩) ?_
      show ((some (vI (-1)) : Option MV), stC (q.2) q.1) = _
      rw [if_neg b7]
      rfl
  show X 0 [some (vR 11 0), some (vI s), some (vI d), none] [] mm
  refine h (fun i => Nat.beq i 5) 3000 0 _ _ _ ?_
  refine And.intro (show Pre_X11_planStatus mm [vR 11 0, vI s, vI d, vI 99] from ⟨ns, nm, nt, hV, s, d, 99, rfl⟩) ?_
  show X 5 [some (vR 11 0), some (vI s), some (vI d), none] [vI ((cl_ps mm s d 99).1)] ((cl_ps mm s d 99).2)
  rw [← hq]
  exact s5
theorem con_X11_soonest (l : Launch) : CON l y_X11_soonest prog_1_method_40_code 4 (some .int) rm_X11_soonest Pre_X11_soonest Fn_X11_soonest := CON_of (by decide) rfl rfl (sa_X11_soonest l) vc_X11_soonest
def cl_mo1 (m : MM) : Option MV × MM := gvC m (m.1 3 0 16)
def cl_most (m : MM) (s d w : Int32) : Option MV × MM := if npC m s d then rfC m 1 else if w < 0 ∨ 99 < w then rfC m 1 else if ¬ abV m (m.2.2 0) (15 + 4 * s.toNatClampNeg) = -1 then rfC m 7 else cl_mo1 (mkM m (m.2.2 0) s.toNatClampNeg d.toNatClampNeg w)

def Pre_X11_most : PreT := fun m as => ∃ ns nm nt, VD m ns nm nt ∧ ∃ s d w : Int32, as = [vR 11 0, vI s, vI d, vI w]
def Fn_X11_most : FnT := fun m as => match as with
  | [_, Sum.inl s, Sum.inl d, Sum.inl w] => cl_most m s d w
  | _ => (none, m)
abbrev y_X11_most : MethodName := ⟨"GivenUp", "most", "(III)I"⟩
def P_X11_most : List StpT := [s_aload 0, s_iload 1, s_iload 2, s_callV 11 2 Pre_X11_isNoPair Fn_X11_isNoPair, s_ifne 8, s_iload 3, s_callS 1 Pre_X11_isNoTime Fn_X11_isNoTime, s_ifeq 12, s_aload 0, s_ic (1), s_callV 11 1 Pre_X11_refuse Fn_X11_refuse, s_iret, s_aload 0, s_getD 11 12 6 0, s_iload 1, s_callV 6 1 Pre_X6_isWed Fn_X6_isWed, s_ifeq 21, s_aload 0, s_ic (7), s_callV 11 1 Pre_X11_refuse Fn_X11_refuse, s_iret, s_aload 0, s_getC 11 5 3 0, s_aload 0, s_getD 11 12 6 0, s_iload 1, s_iload 2, s_iload 3, s_callV 3 4 Pre_X3_make Fn_X3_make, s_aload 0, s_aload 0, s_getC 11 5 3 0, s_getI 3 16, s_callV 11 1 Pre_X11_answer Fn_X11_answer, s_iret]
def pc_X11_most : Nat → Nat := fun i => [0, 1, 2, 3, 6, 9, 10, 13, 16, 17, 18, 21, 22, 23, 26, 27, 30, 33, 34, 36, 39, 40, 41, 44, 45, 48, 49, 50, 51, 54, 55, 56, 59, 62, 65].getD i 0
def dl_X11_most : List (Nat × Instr × Nat) := [(0, .aload_n 0, 1), (1, .iload_n 1, 1), (2, .iload_n 2, 1), (3, .invokevirtual 288, 3), (6, .ifCond .ne 10, 3), (9, .iload_n 3, 1), (10, .invokestatic 360, 3), (13, .ifCond .eq 9, 3), (16, .aload_n 0, 1), (17, .iconst 1, 1), (18, .invokevirtual 139, 3), (21, .ireturn, 1), (22, .aload_n 0, 1), (23, .getfield 87, 3), (26, .iload_n 1, 1), (27, .invokevirtual 363, 3), (30, .ifCond .eq 10, 3), (33, .aload_n 0, 1), (34, .bipush 7, 2), (36, .invokevirtual 139, 3), (39, .ireturn, 1), (40, .aload_n 0, 1), (41, .getfield 47, 3), (44, .aload_n 0, 1), (45, .getfield 87, 3), (48, .iload_n 1, 1), (49, .iload_n 2, 1), (50, .iload_n 3, 1), (51, .invokevirtual 366, 3), (54, .aload_n 0, 1), (55, .aload_n 0, 1), (56, .getfield 47, 3), (59, .getfield 370, 3), (62, .invokevirtual 178, 3), (65, .ireturn, 1)]
theorem dc_X11_most : DEC prog_1_method_41_code pc_X11_most dl_X11_most := DEC_of (by decide +kernel)
abbrev rm_X11_most : Room := { frames := 17, cells := 0, slots := 0, locals := 436 }
set_option maxRecDepth 20000 in
theorem sa_X11_most (l : Launch) : SNDALL l prog_1_method_41_code "GivenUp" 4 (some .int) rm_X11_most P_X11_most pc_X11_most := fun p e s m args below meth c cells slots Q D dA ad A RR hC hR => by
  have hM := RTX_room (R := rm_X11_most) hR
  exact ⟨st_aload_n hC (n := 0) (k := 0) (dc_X11_most 0 (0, .aload_n 0, 1) rfl rfl) rfl rfl,
    st_iload_n hC (n := 1) (k := 1) (dc_X11_most 1 (1, .iload_n 1, 1) rfl rfl) rfl rfl,
    st_iload_n hC (n := 2) (k := 2) (dc_X11_most 2 (2, .iload_n 2, 1) rfl rfl) rfl rfl,
    st_callV hC (n := 3) (k := 11) (na := 2) (con_X11_isNoPair l) (dc_X11_most 3 (3, .invokevirtual 288, 3) rfl rfl) rfl wd_1090 wd_143 (by decide) ⟨rfl, rfl, by decide, by decide⟩ hM wd_1087 wd_1089 wd_24 clf_11,
    st_ifne hC (n := 4) (dc_X11_most 4 (6, .ifCond .ne 10, 3) rfl rfl) rfl (by decide),
    st_iload_n hC (n := 5) (k := 3) (dc_X11_most 5 (9, .iload_n 3, 1) rfl rfl) rfl rfl,
    st_callS hC (n := 6) (na := 1) (con_X11_isNoTime l) (dc_X11_most 6 (10, .invokestatic 360, 3) rfl rfl) rfl wd_1271 wd_143 (by decide) ⟨rfl, rfl, by decide, by decide⟩ hM wd_1269 wd_1270,
    st_ifeq hC (n := 7) (dc_X11_most 7 (13, .ifCond .eq 9, 3) rfl rfl) rfl (by decide),
    st_aload_n hC (n := 8) (k := 0) (dc_X11_most 8 (16, .aload_n 0, 1) rfl rfl) rfl rfl,
    st_iconst hC (n := 9) (x := 1) (dc_X11_most 9 (17, .iconst 1, 1) rfl rfl) rfl (by decide),
    st_callV hC (n := 10) (k := 11) (na := 1) (con_X11_refuse l) (dc_X11_most 10 (18, .invokevirtual 139, 3) rfl rfl) rfl wd_824 wd_143 (by decide) ⟨rfl, rfl, by decide, by decide⟩ hM wd_821 wd_823 wd_3 clf_11,
    st_iret hC (n := 11) hR (dc_X11_most 11 (21, .ireturn, 1) rfl rfl),
    st_aload_n hC (n := 12) (k := 0) (dc_X11_most 12 (22, .aload_n 0, 1) rfl rfl) rfl rfl,
    st_getD hC (n := 13) (k := 11) (j := 12) (dc_X11_most 13 (23, .getfield 87, 3) rfl rfl) rfl clf_11 (by decide) rfl (by decide) wd_723,
    st_iload_n hC (n := 14) (k := 1) (dc_X11_most 14 (26, .iload_n 1, 1) rfl rfl) rfl rfl,
    st_callV hC (n := 15) (k := 6) (na := 1) (con_X6_isWed l) (dc_X11_most 15 (27, .invokevirtual 363, 3) rfl rfl) rfl wd_1023 wd_155 (by decide) ⟨rfl, rfl, by decide, by decide⟩ hM wd_1272 wd_1021 wd_1022 clf_6,
    st_ifeq hC (n := 16) (dc_X11_most 16 (30, .ifCond .eq 10, 3) rfl rfl) rfl (by decide),
    st_aload_n hC (n := 17) (k := 0) (dc_X11_most 17 (33, .aload_n 0, 1) rfl rfl) rfl rfl,
    st_bipush hC (n := 18) (x := 7) (dc_X11_most 18 (34, .bipush 7, 2) rfl rfl) rfl (by decide),
    st_callV hC (n := 19) (k := 11) (na := 1) (con_X11_refuse l) (dc_X11_most 19 (36, .invokevirtual 139, 3) rfl rfl) rfl wd_824 wd_143 (by decide) ⟨rfl, rfl, by decide, by decide⟩ hM wd_821 wd_823 wd_3 clf_11,
    st_iret hC (n := 20) hR (dc_X11_most 20 (39, .ireturn, 1) rfl rfl),
    st_aload_n hC (n := 21) (k := 0) (dc_X11_most 21 (40, .aload_n 0, 1) rfl rfl) rfl rfl,
    st_getC hC (n := 22) (k := 11) (j := 5) (dc_X11_most 22 (41, .getfield 47, 3) rfl rfl) rfl clf_11 (by decide) rfl (by decide) wd_716,
    st_aload_n hC (n := 23) (k := 0) (dc_X11_most 23 (44, .aload_n 0, 1) rfl rfl) rfl rfl,
    st_getD hC (n := 24) (k := 11) (j := 12) (dc_X11_most 24 (45, .getfield 87, 3) rfl rfl) rfl clf_11 (by decide) rfl (by decide) wd_723,
    st_iload_n hC (n := 25) (k := 1) (dc_X11_most 25 (48, .iload_n 1, 1) rfl rfl) rfl rfl,
    st_iload_n hC (n := 26) (k := 2) (dc_X11_most 26 (49, .iload_n 2, 1) rfl rfl) rfl rfl,
    st_iload_n hC (n := 27) (k := 3) (dc_X11_most 27 (50, .iload_n 3, 1) rfl rfl) rfl rfl,
    st_callV hC (n := 28) (k := 3) (na := 4) (con_X3_make l) (dc_X11_most 28 (51, .invokevirtual 366, 3) rfl rfl) rfl wd_1277 wd_151 (by decide) ⟨rfl, rfl, by decide, by decide⟩ hM wd_1274 wd_1275 wd_1276 clf_3,
    st_aload_n hC (n := 29) (k := 0) (dc_X11_most 29 (54, .aload_n 0, 1) rfl rfl) rfl rfl,
    st_aload_n hC (n := 30) (k := 0) (dc_X11_most 30 (55, .aload_n 0, 1) rfl rfl) rfl rfl,
    st_getC hC (n := 31) (k := 11) (j := 5) (dc_X11_most 31 (56, .getfield 47, 3) rfl rfl) rfl clf_11 (by decide) rfl (by decide) wd_716,
    st_getI hC (n := 32) (k := 3) (j := 16) (dc_X11_most 32 (59, .getfield 370, 3) rfl rfl) rfl clf_3 (by decide) rfl wd_334,
    st_callV hC (n := 33) (k := 11) (na := 1) (con_X11_answer l) (dc_X11_most 33 (62, .invokevirtual 178, 3) rfl rfl) rfl wd_967 wd_143 (by decide) ⟨rfl, rfl, by decide, by decide⟩ hM wd_964 wd_966 wd_17 clf_11,
    st_iret hC (n := 34) hR (dc_X11_most 34 (65, .ireturn, 1) rfl rfl), trivial⟩
set_option maxRecDepth 8000 in
theorem vc_X11_most : VC P_X11_most 4 Pre_X11_most Fn_X11_most := by
  rintro mm as hom hoa ⟨ns, nm, nt, ⟨hV, hND⟩, s, d, w, rfl⟩
  refine ⟨Nat.le_of_ble_eq_true rfl, fun X h => ?_⟩
  have hS : mm.1 6 (mm.2.2 0) 13 = nI ns := hV.1.1.1
  have hn4 : ns ≤ 4 := hV.1.1.2
  have hN : mm.1 6 (mm.2.2 0) 14 = nI nm := hV.1.2.1.1
  have hm4 : nm ≤ 4 := hV.1.2.1.2
  have s29 : ∀ M, cl_most mm s d w = cl_mo1 M → X 29 [some (vR 11 0), some (vI (s)), some (vI (d)), some (vI (w))] [] (M) := by
    intro M hp
    show X 29 [some (vR 11 0), some (vI s), some (vI d), some (vI w)] [] M
    refine h (fun _ => false) 3000 29 _ _ _ ?_
    refine And.intro (show Pre_X11_answer M [vR 11 0, vI (M.1 3 0 16)] from ⟨_, rfl⟩) ?_
    show ((some (vI (M.1 3 0 16)) : Option MV), stC M 0) = _
    exact hp.symm
  show X 0 [some (vR 11 0), some (vI s), some (vI d), some (vI w)] [] mm
  refine h (fun i => Nat.beq i 29) 3000 0 _ _ _ ?_
  refine And.intro (show Pre_X11_isNoPair mm [vR 11 0, vI s, vI d] from ⟨_, _, rfl⟩) ?_
  refine brn_c (fun b4 => ?_) (fun b4 => ?_)
  · -- 4: bI (npC mm s d) = 0 taken
    replace b4 : npC mm s d := bI_n0.mp b4
    refine And.intro (show Pre_X11_refuse mm [vR 11 0, vI 1] from ⟨_, rfl⟩) ?_
    show ((some (vI (-1)) : Option MV), stC mm 1) = _
    show _ = cl_most mm s d w
    unfold cl_most
    (try simp only [if_pos b4])
    all_goals exact rfl
  · -- 4: bI (npC mm s d) = 0 on
    replace b4 : ¬ (npC mm s d) := bI_0.mp b4
    obtain ⟨i, hi, ex⟩ := ou_in hS (by omega) (fun z => b4 (Or.inl z))
    obtain ⟨j, hj, ey⟩ := ou_in hN (by omega) (fun z => b4 (Or.inr z))
    refine And.intro (show Pre_X11_isNoTime mm [vI w] from ⟨_, rfl⟩) ?_
    refine br_c (fun b7 => ?_) (fun b7 => ?_)
    · -- 7: bI (w < 0 ∨ 99 < w) = 0 taken
      replace b7 : ¬ (w < 0 ∨ 99 < w) := bI_0.mp b7
      refine And.intro (show Pre_X6_isWed mm [vR 6 (mm.2.2 0), vI s] from ⟨_, ns, nm, nt, i, hV, by omega, by rw [ex]⟩) ?_
      refine br_c (fun b16 => ?_) (fun b16 => ?_)
      · -- 16: bI (¬ abV mm (mm.2.2 0) (15 + 4 * s.toNatClampNeg) = -1) = 0 taken
        replace b16 : ¬ (¬ abV mm (mm.2.2 0) (15 + 4 * s.toNatClampNeg) = -1) := bI_0.mp b16
        refine And.intro (show Pre_X3_make mm [vR 3 0, vR 6 (mm.2.2 0), vI s, vI d, vI w] from ⟨_, ns, nm, nt, i, j, w, hV, hND, by omega, by omega, by rw [ex, ey]⟩) ?_
        show X 29 [some (vR 11 0), some (vI s), some (vI d), some (vI w)] [] (mkM mm (mm.2.2 0) s.toNatClampNeg d.toNatClampNeg w)
        exact s29 _ (by unfold cl_most; rw [if_neg b4, if_neg b7, if_neg b16])
      · -- 16: bI (¬ abV mm (mm.2.2 0) (15 + 4 * s.toNatClampNeg) = -1) = 0 on
        replace b16 : ¬ abV mm (mm.2.2 0) (15 + 4 * s.toNatClampNeg) = -1 := bI_n0.mp b16
        refine And.intro (show Pre_X11_refuse mm [vR 11 0, vI 7] from ⟨_, rfl⟩) ?_
        show ((some (vI (-1)) : Option MV), stC mm 7) = _
        show _ = cl_most mm s d w
        unfold cl_most
        (try simp only [if_neg b4, if_neg b7, if_pos b16])
        all_goals exact rfl
    · -- 7: bI (w < 0 ∨ 99 < w) = 0 on
      replace b7 : w < 0 ∨ 99 < w := bI_n0.mp b7
      refine And.intro (show Pre_X11_refuse mm [vR 11 0, vI 1] from ⟨_, rfl⟩) ?_
      show ((some (vI (-1)) : Option MV), stC mm 1) = _
      show _ = cl_most mm s d w
      unfold cl_most
      (try simp only [if_neg b4, if_pos b7])
      all_goals exact rfl
theorem con_X11_most (l : Launch) : CON l y_X11_most prog_1_method_41_code 4 (some .int) rm_X11_most Pre_X11_most Fn_X11_most := CON_of (by decide) rfl rfl (sa_X11_most l) vc_X11_most
def cl_sn (m : MM) : Int32 := if ¬ m.1 3 0 13 < 0 then m.1 3 0 15 else 100
def cl_rv4 (m : MM) (a b sa sb : Int32) : Option MV × MM := if sa = sb then (if m.1 30 (m.2.2 0) a.toNatClampNeg = m.1 30 (m.2.2 0) b.toNatClampNeg then gvC m (if b ≤ a then b else a) else gvC m (if m.1 30 (m.2.2 0) a.toNatClampNeg ≤ m.1 30 (m.2.2 0) b.toNatClampNeg then b else a)) else gvC m (if sb ≤ sa then b else a)
def cl_rv3 (m : MM) (a b sa sb : Int32) : Option MV × MM := if sa ≤ 99 then cl_rv4 m a b sa sb else if sb ≤ 99 then cl_rv4 m a b sa sb else rfC m 6
def cl_rv2 (m : MM) (a b sa : Int32) : Option MV × MM := cl_rv3 m a b sa (cl_sn m)
def cl_rv1 (m : MM) (a b d : Int32) : Option MV × MM := cl_rv2 (mkM m (m.2.2 0) b.toNatClampNeg d.toNatClampNeg 99) a b (cl_sn m)
def cl_rv0 (m : MM) (a b d : Int32) : Option MV × MM := if ¬ abV m (m.2.2 0) (15 + 4 * a.toNatClampNeg) = -1 then rfC m 7 else if ¬ abV m (m.2.2 0) (15 + 4 * b.toNatClampNeg) = -1 then rfC m 7 else if ¬ abV m (m.2.2 0) (31 + 4 * d.toNatClampNeg) = -1 then rfC m 7 else cl_rv1 (mkM m (m.2.2 0) a.toNatClampNeg d.toNatClampNeg 99) a b d
def cl_rivals (m : MM) (a b d : Int32) : Option MV × MM := if npC m a d then rfC m 1 else if npC m b d then rfC m 1 else if a = b then rfC m 1 else cl_rv0 m a b d

def Pre_X11_rivals : PreT := fun m as => ∃ ns nm nt, VD m ns nm nt ∧ ∃ a b d : Int32, as = [vR 11 0, vI a, vI b, vI d]
def Fn_X11_rivals : FnT := fun m as => match as with
  | [_, Sum.inl a, Sum.inl b, Sum.inl d] => cl_rivals m a b d
  | _ => (none, m)
abbrev y_X11_rivals : MethodName := ⟨"GivenUp", "rivals", "(III)I"⟩
def P_X11_rivals : List StpT := [s_aload 0, s_iload 1, s_iload 3, s_callV 11 2 Pre_X11_isNoPair Fn_X11_isNoPair, s_ifne 13, s_aload 0, s_iload 2, s_iload 3, s_callV 11 2 Pre_X11_isNoPair Fn_X11_isNoPair, s_ifne 13, s_iload 1, s_iload 2, s_icne 17, s_aload 0, s_ic (1), s_callV 11 1 Pre_X11_refuse Fn_X11_refuse, s_iret, s_aload 0, s_getD 11 12 6 0, s_iload 1, s_callV 6 1 Pre_X6_isWed Fn_X6_isWed, s_ifne 32, s_aload 0, s_getD 11 12 6 0, s_iload 2, s_callV 6 1 Pre_X6_isWed Fn_X6_isWed, s_ifne 32, s_aload 0, s_getD 11 12 6 0, s_iload 3, s_callV 6 1 Pre_X6_isTaken Fn_X6_isTaken, s_ifeq 36, s_aload 0, s_ic (7), s_callV 11 1 Pre_X11_refuse Fn_X11_refuse, s_iret, s_aload 0, s_getC 11 5 3 0, s_aload 0, s_getD 11 12 6 0, s_iload 1, s_iload 3, s_ic (99), s_callV 3 4 Pre_X3_make Fn_X3_make, s_aload 0, s_getC 11 5 3 0, s_callV 3 0 Pre_X3_isFound Fn_X3_isFound, s_ifeq 52, s_aload 0, s_getC 11 5 3 0, s_getI 3 15, s_goto 53, s_ic (100), s_istore 4, s_aload 0, s_getC 11 5 3 0, s_aload 0, s_getD 11 12 6 0, s_iload 2, s_iload 3, s_ic (99), s_callV 3 4 Pre_X3_make Fn_X3_make, s_aload 0, s_getC 11 5 3 0, s_callV 3 0 Pre_X3_isFound Fn_X3_isFound, s_ifeq 70, s_aload 0, s_getC 11 5 3 0, s_getI 3 15, s_goto 71, s_ic (100), s_istore 5, s_iload 4, s_ic (99), s_icle 82, s_iload 5, s_ic (99), s_icle 82, s_aload 0, s_ic (6), s_callV 11 1 Pre_X11_refuse Fn_X11_refuse, s_iret, s_iload 4, s_iload 5, s_iceq 94, s_aload 0, s_iload 4, s_iload 5, s_icge 91, s_iload 1, s_goto 92, s_iload 2, s_callV 11 1 Pre_X11_answer Fn_X11_answer, s_iret, s_aload 0, s_getD 11 12 6 0, s_getR 6 1 30, s_iload 1, s_iald, s_aload 0, s_getD 11 12 6 0, s_getR 6 1 30, s_iload 2, s_iald, s_iceq 122, s_aload 0, s_aload 0, s_getD 11 12 6 0, s_getR 6 1 30, s_iload 1, s_iald, s_aload 0, s_getD 11 12 6 0, s_getR 6 1 30, s_iload 2, s_iald, s_icle 119, s_iload 1, s_goto 120, s_iload 2, s_callV 11 1 Pre_X11_answer Fn_X11_answer, s_iret, s_aload 0, s_iload 1, s_iload 2, s_icge 128, s_iload 1, s_goto 129, s_iload 2, s_callV 11 1 Pre_X11_answer Fn_X11_answer, s_iret]
def pc_X11_rivals : Nat → Nat := fun i => [0, 1, 2, 3, 6, 9, 10, 11, 12, 15, 18, 19, 20, 23, 24, 25, 28, 29, 30, 33, 34, 37, 40, 41, 44, 45, 48, 51, 52, 55, 56, 59, 62, 63, 65, 68, 69, 70, 73, 74, 77, 78, 79, 81, 84, 85, 88, 91, 94, 95, 98, 101, 104, 106, 108, 109, 112, 113, 116, 117, 118, 120, 123, 124, 127, 130, 133, 134, 137, 140, 143, 145, 147, 149, 151, 154, 156, 158, 161, 162, 164, 167, 168, 170, 172, 175, 176, 178, 180, 183, 184, 187, 188, 191, 192, 193, 196, 199, 200, 201, 202, 205, 208, 209, 210, 213, 214, 215, 218, 221, 222, 223, 224, 227, 230, 231, 232, 235, 236, 239, 240, 243, 244, 245, 246, 247, 250, 251, 254, 255, 258].getD i 0
def dl_X11_rivals : List (Nat × Instr × Nat) := [(0, .aload_n 0, 1), (1, .iload_n 1, 1), (2, .iload_n 3, 1), (3, .invokevirtual 288, 3), (6, .ifCond .ne 17, 3), (9, .aload_n 0, 1), (10, .iload_n 2, 1), (11, .iload_n 3, 1), (12, .invokevirtual 288, 3), (15, .ifCond .ne 8, 3), (18, .iload_n 1, 1), (19, .iload_n 2, 1), (20, .if_icmp .ne 9, 3), (23, .aload_n 0, 1), (24, .iconst 1, 1), (25, .invokevirtual 139, 3), (28, .ireturn, 1), (29, .aload_n 0, 1), (30, .getfield 87, 3), (33, .iload_n 1, 1), (34, .invokevirtual 363, 3), (37, .ifCond .ne 25, 3), (40, .aload_n 0, 1), (41, .getfield 87, 3), (44, .iload_n 2, 1), (45, .invokevirtual 363, 3), (48, .ifCond .ne 14, 3), (51, .aload_n 0, 1), (52, .getfield 87, 3), (55, .iload_n 3, 1), (56, .invokevirtual 373, 3), (59, .ifCond .eq 10, 3), (62, .aload_n 0, 1), (63, .bipush 7, 2), (65, .invokevirtual 139, 3), (68, .ireturn, 1), (69, .aload_n 0, 1), (70, .getfield 47, 3), (73, .aload_n 0, 1), (74, .getfield 87, 3), (77, .iload_n 1, 1), (78, .iload_n 3, 1), (79, .bipush 99, 2), (81, .invokevirtual 366, 3), (84, .aload_n 0, 1), (85, .getfield 47, 3), (88, .invokevirtual 376, 3), (91, .ifCond .eq 13, 3), (94, .aload_n 0, 1), (95, .getfield 47, 3), (98, .getfield 357, 3), (101, .goto 5, 3), (104, .bipush 100, 2), (106, .istore 4, 2), (108, .aload_n 0, 1), (109, .getfield 47, 3), (112, .aload_n 0, 1), (113, .getfield 87, 3), (116, .iload_n 2, 1), (117, .iload_n 3, 1), (118, .bipush 99, 2), (120, .invokevirtual 366, 3), (123, .aload_n 0, 1), (124, .getfield 47, 3), (127, .invokevirtual 376, 3), (130, .ifCond .eq 13, 3), (133, .aload_n 0, 1), (134, .getfield 47, 3), (137, .getfield 357, 3), (140, .goto 5, 3), (143, .bipush 100, 2), (145, .istore 5, 2), (147, .iload 4, 2), (149, .bipush 99, 2), (151, .if_icmp .le 17, 3), (154, .iload 5, 2), (156, .bipush 99, 2), (158, .if_icmp .le 10, 3), (161, .aload_n 0, 1), (162, .bipush 6, 2), (164, .invokevirtual 139, 3), (167, .ireturn, 1), (168, .iload 4, 2), (170, .iload 5, 2), (172, .if_icmp .eq 20, 3), (175, .aload_n 0, 1), (176, .iload 4, 2), (178, .iload 5, 2), (180, .if_icmp .ge 7, 3), (183, .iload_n 1, 1), (184, .goto 4, 3), (187, .iload_n 2, 1), (188, .invokevirtual 178, 3), (191, .ireturn, 1), (192, .aload_n 0, 1), (193, .getfield 87, 3), (196, .getfield 231, 3), (199, .iload_n 1, 1), (200, .iaload, 1), (201, .aload_n 0, 1), (202, .getfield 87, 3), (205, .getfield 231, 3), (208, .iload_n 2, 1), (209, .iaload, 1), (210, .if_icmp .eq 34, 3), (213, .aload_n 0, 1), (214, .aload_n 0, 1), (215, .getfield 87, 3), (218, .getfield 231, 3), (221, .iload_n 1, 1), (222, .iaload, 1), (223, .aload_n 0, 1), (224, .getfield 87, 3), (227, .getfield 231, 3), (230, .iload_n 2, 1), (231, .iaload, 1), (232, .if_icmp .le 7, 3), (235, .iload_n 1, 1), (236, .goto 4, 3), (239, .iload_n 2, 1), (240, .invokevirtual 178, 3), (243, .ireturn, 1), (244, .aload_n 0, 1), (245, .iload_n 1, 1), (246, .iload_n 2, 1), (247, .if_icmp .ge 7, 3), (250, .iload_n 1, 1), (251, .goto 4, 3), (254, .iload_n 2, 1), (255, .invokevirtual 178, 3), (258, .ireturn, 1)]
theorem dc_X11_rivals : DEC prog_1_method_42_code pc_X11_rivals dl_X11_rivals := DEC_of (by decide +kernel)
abbrev rm_X11_rivals : Room := { frames := 17, cells := 0, slots := 0, locals := 436 }
set_option maxRecDepth 20000 in
theorem sa_X11_rivals (l : Launch) : SNDALL l prog_1_method_42_code "GivenUp" 6 (some .int) rm_X11_rivals P_X11_rivals pc_X11_rivals := fun p e s m args below meth c cells slots Q D dA ad A RR hC hR => by
  have hM := RTX_room (R := rm_X11_rivals) hR
  exact ⟨st_aload_n hC (n := 0) (k := 0) (dc_X11_rivals 0 (0, .aload_n 0, 1) rfl rfl) rfl rfl,
    st_iload_n hC (n := 1) (k := 1) (dc_X11_rivals 1 (1, .iload_n 1, 1) rfl rfl) rfl rfl,
    st_iload_n hC (n := 2) (k := 3) (dc_X11_rivals 2 (2, .iload_n 3, 1) rfl rfl) rfl rfl,
    st_callV hC (n := 3) (k := 11) (na := 2) (con_X11_isNoPair l) (dc_X11_rivals 3 (3, .invokevirtual 288, 3) rfl rfl) rfl wd_1090 wd_143 (by decide) ⟨rfl, rfl, by decide, by decide⟩ hM wd_1087 wd_1089 wd_24 clf_11,
    st_ifne hC (n := 4) (dc_X11_rivals 4 (6, .ifCond .ne 17, 3) rfl rfl) rfl (by decide),
    st_aload_n hC (n := 5) (k := 0) (dc_X11_rivals 5 (9, .aload_n 0, 1) rfl rfl) rfl rfl,
    st_iload_n hC (n := 6) (k := 2) (dc_X11_rivals 6 (10, .iload_n 2, 1) rfl rfl) rfl rfl,
    st_iload_n hC (n := 7) (k := 3) (dc_X11_rivals 7 (11, .iload_n 3, 1) rfl rfl) rfl rfl,
    st_callV hC (n := 8) (k := 11) (na := 2) (con_X11_isNoPair l) (dc_X11_rivals 8 (12, .invokevirtual 288, 3) rfl rfl) rfl wd_1090 wd_143 (by decide) ⟨rfl, rfl, by decide, by decide⟩ hM wd_1087 wd_1089 wd_24 clf_11,
    st_ifne hC (n := 9) (dc_X11_rivals 9 (15, .ifCond .ne 8, 3) rfl rfl) rfl (by decide),
    st_iload_n hC (n := 10) (k := 1) (dc_X11_rivals 10 (18, .iload_n 1, 1) rfl rfl) rfl rfl,
    st_iload_n hC (n := 11) (k := 2) (dc_X11_rivals 11 (19, .iload_n 2, 1) rfl rfl) rfl rfl,
    st_icne hC (n := 12) (dc_X11_rivals 12 (20, .if_icmp .ne 9, 3) rfl rfl) rfl (by decide),
    st_aload_n hC (n := 13) (k := 0) (dc_X11_rivals 13 (23, .aload_n 0, 1) rfl rfl) rfl rfl,
    st_iconst hC (n := 14) (x := 1) (dc_X11_rivals 14 (24, .iconst 1, 1) rfl rfl) rfl (by decide),
    st_callV hC (n := 15) (k := 11) (na := 1) (con_X11_refuse l) (dc_X11_rivals 15 (25, .invokevirtual 139, 3) rfl rfl) rfl wd_824 wd_143 (by decide) ⟨rfl, rfl, by decide, by decide⟩ hM wd_821 wd_823 wd_3 clf_11,
    st_iret hC (n := 16) hR (dc_X11_rivals 16 (28, .ireturn, 1) rfl rfl),
    st_aload_n hC (n := 17) (k := 0) (dc_X11_rivals 17 (29, .aload_n 0, 1) rfl rfl) rfl rfl,
    st_getD hC (n := 18) (k := 11) (j := 12) (dc_X11_rivals 18 (30, .getfield 87, 3) rfl rfl) rfl clf_11 (by decide) rfl (by decide) wd_723,
    st_iload_n hC (n := 19) (k := 1) (dc_X11_rivals 19 (33, .iload_n 1, 1) rfl rfl) rfl rfl,
    st_callV hC (n := 20) (k := 6) (na := 1) (con_X6_isWed l) (dc_X11_rivals 20 (34, .invokevirtual 363, 3) rfl rfl) rfl wd_1023 wd_155 (by decide) ⟨rfl, rfl, by decide, by decide⟩ hM wd_1272 wd_1021 wd_1022 clf_6,
    st_ifne hC (n := 21) (dc_X11_rivals 21 (37, .ifCond .ne 25, 3) rfl rfl) rfl (by decide),
    st_aload_n hC (n := 22) (k := 0) (dc_X11_rivals 22 (40, .aload_n 0, 1) rfl rfl) rfl rfl,
    st_getD hC (n := 23) (k := 11) (j := 12) (dc_X11_rivals 23 (41, .getfield 87, 3) rfl rfl) rfl clf_11 (by decide) rfl (by decide) wd_723,
    st_iload_n hC (n := 24) (k := 2) (dc_X11_rivals 24 (44, .iload_n 2, 1) rfl rfl) rfl rfl,
    st_callV hC (n := 25) (k := 6) (na := 1) (con_X6_isWed l) (dc_X11_rivals 25 (45, .invokevirtual 363, 3) rfl rfl) rfl wd_1023 wd_155 (by decide) ⟨rfl, rfl, by decide, by decide⟩ hM wd_1272 wd_1021 wd_1022 clf_6,
    st_ifne hC (n := 26) (dc_X11_rivals 26 (48, .ifCond .ne 14, 3) rfl rfl) rfl (by decide),
    st_aload_n hC (n := 27) (k := 0) (dc_X11_rivals 27 (51, .aload_n 0, 1) rfl rfl) rfl rfl,
    st_getD hC (n := 28) (k := 11) (j := 12) (dc_X11_rivals 28 (52, .getfield 87, 3) rfl rfl) rfl clf_11 (by decide) rfl (by decide) wd_723,
    st_iload_n hC (n := 29) (k := 3) (dc_X11_rivals 29 (55, .iload_n 3, 1) rfl rfl) rfl rfl,
    st_callV hC (n := 30) (k := 6) (na := 1) (con_X6_isTaken l) (dc_X11_rivals 30 (56, .invokevirtual 373, 3) rfl rfl) rfl wd_1159 wd_155 (by decide) ⟨rfl, rfl, by decide, by decide⟩ hM wd_1273 wd_1157 wd_1158 clf_6,
    st_ifeq hC (n := 31) (dc_X11_rivals 31 (59, .ifCond .eq 10, 3) rfl rfl) rfl (by decide),
    st_aload_n hC (n := 32) (k := 0) (dc_X11_rivals 32 (62, .aload_n 0, 1) rfl rfl) rfl rfl,
    st_bipush hC (n := 33) (x := 7) (dc_X11_rivals 33 (63, .bipush 7, 2) rfl rfl) rfl (by decide),
    st_callV hC (n := 34) (k := 11) (na := 1) (con_X11_refuse l) (dc_X11_rivals 34 (65, .invokevirtual 139, 3) rfl rfl) rfl wd_824 wd_143 (by decide) ⟨rfl, rfl, by decide, by decide⟩ hM wd_821 wd_823 wd_3 clf_11,
    st_iret hC (n := 35) hR (dc_X11_rivals 35 (68, .ireturn, 1) rfl rfl),
    st_aload_n hC (n := 36) (k := 0) (dc_X11_rivals 36 (69, .aload_n 0, 1) rfl rfl) rfl rfl,
    st_getC hC (n := 37) (k := 11) (j := 5) (dc_X11_rivals 37 (70, .getfield 47, 3) rfl rfl) rfl clf_11 (by decide) rfl (by decide) wd_716,
    st_aload_n hC (n := 38) (k := 0) (dc_X11_rivals 38 (73, .aload_n 0, 1) rfl rfl) rfl rfl,
    st_getD hC (n := 39) (k := 11) (j := 12) (dc_X11_rivals 39 (74, .getfield 87, 3) rfl rfl) rfl clf_11 (by decide) rfl (by decide) wd_723,
    st_iload_n hC (n := 40) (k := 1) (dc_X11_rivals 40 (77, .iload_n 1, 1) rfl rfl) rfl rfl,
    st_iload_n hC (n := 41) (k := 3) (dc_X11_rivals 41 (78, .iload_n 3, 1) rfl rfl) rfl rfl,
    st_bipush hC (n := 42) (x := 99) (dc_X11_rivals 42 (79, .bipush 99, 2) rfl rfl) rfl (by decide),
    st_callV hC (n := 43) (k := 3) (na := 4) (con_X3_make l) (dc_X11_rivals 43 (81, .invokevirtual 366, 3) rfl rfl) rfl wd_1277 wd_151 (by decide) ⟨rfl, rfl, by decide, by decide⟩ hM wd_1274 wd_1275 wd_1276 clf_3,
    st_aload_n hC (n := 44) (k := 0) (dc_X11_rivals 44 (84, .aload_n 0, 1) rfl rfl) rfl rfl,
    st_getC hC (n := 45) (k := 11) (j := 5) (dc_X11_rivals 45 (85, .getfield 47, 3) rfl rfl) rfl clf_11 (by decide) rfl (by decide) wd_716,
    st_callV hC (n := 46) (k := 3) (na := 0) (con_X3_isFound l) (dc_X11_rivals 46 (88, .invokevirtual 376, 3) rfl rfl) rfl wd_1305 wd_151 (by decide) ⟨rfl, rfl, by decide, by decide⟩ hM wd_1302 wd_1303 wd_1304 clf_3,
    st_ifeq hC (n := 47) (dc_X11_rivals 47 (91, .ifCond .eq 13, 3) rfl rfl) rfl (by decide),
    st_aload_n hC (n := 48) (k := 0) (dc_X11_rivals 48 (94, .aload_n 0, 1) rfl rfl) rfl rfl,
    st_getC hC (n := 49) (k := 11) (j := 5) (dc_X11_rivals 49 (95, .getfield 47, 3) rfl rfl) rfl clf_11 (by decide) rfl (by decide) wd_716,
    st_getI hC (n := 50) (k := 3) (j := 15) (dc_X11_rivals 50 (98, .getfield 357, 3) rfl rfl) rfl clf_3 (by decide) rfl wd_332,
    st_goto hC (n := 51) (dc_X11_rivals 51 (101, .goto 5, 3) rfl rfl) (by decide),
    st_bipush hC (n := 52) (x := 100) (dc_X11_rivals 52 (104, .bipush 100, 2) rfl rfl) rfl (by decide),
    st_istore hC (n := 53) (dc_X11_rivals 53 (106, .istore 4, 2) rfl rfl) rfl (by decide),
    st_aload_n hC (n := 54) (k := 0) (dc_X11_rivals 54 (108, .aload_n 0, 1) rfl rfl) rfl rfl,
    st_getC hC (n := 55) (k := 11) (j := 5) (dc_X11_rivals 55 (109, .getfield 47, 3) rfl rfl) rfl clf_11 (by decide) rfl (by decide) wd_716,
    st_aload_n hC (n := 56) (k := 0) (dc_X11_rivals 56 (112, .aload_n 0, 1) rfl rfl) rfl rfl,
    st_getD hC (n := 57) (k := 11) (j := 12) (dc_X11_rivals 57 (113, .getfield 87, 3) rfl rfl) rfl clf_11 (by decide) rfl (by decide) wd_723,
    st_iload_n hC (n := 58) (k := 2) (dc_X11_rivals 58 (116, .iload_n 2, 1) rfl rfl) rfl rfl,
    st_iload_n hC (n := 59) (k := 3) (dc_X11_rivals 59 (117, .iload_n 3, 1) rfl rfl) rfl rfl,
    st_bipush hC (n := 60) (x := 99) (dc_X11_rivals 60 (118, .bipush 99, 2) rfl rfl) rfl (by decide),
    st_callV hC (n := 61) (k := 3) (na := 4) (con_X3_make l) (dc_X11_rivals 61 (120, .invokevirtual 366, 3) rfl rfl) rfl wd_1277 wd_151 (by decide) ⟨rfl, rfl, by decide, by decide⟩ hM wd_1274 wd_1275 wd_1276 clf_3,
    st_aload_n hC (n := 62) (k := 0) (dc_X11_rivals 62 (123, .aload_n 0, 1) rfl rfl) rfl rfl,
    st_getC hC (n := 63) (k := 11) (j := 5) (dc_X11_rivals 63 (124, .getfield 47, 3) rfl rfl) rfl clf_11 (by decide) rfl (by decide) wd_716,
    st_callV hC (n := 64) (k := 3) (na := 0) (con_X3_isFound l) (dc_X11_rivals 64 (127, .invokevirtual 376, 3) rfl rfl) rfl wd_1305 wd_151 (by decide) ⟨rfl, rfl, by decide, by decide⟩ hM wd_1302 wd_1303 wd_1304 clf_3,
    st_ifeq hC (n := 65) (dc_X11_rivals 65 (130, .ifCond .eq 13, 3) rfl rfl) rfl (by decide),
    st_aload_n hC (n := 66) (k := 0) (dc_X11_rivals 66 (133, .aload_n 0, 1) rfl rfl) rfl rfl,
    st_getC hC (n := 67) (k := 11) (j := 5) (dc_X11_rivals 67 (134, .getfield 47, 3) rfl rfl) rfl clf_11 (by decide) rfl (by decide) wd_716,
    st_getI hC (n := 68) (k := 3) (j := 15) (dc_X11_rivals 68 (137, .getfield 357, 3) rfl rfl) rfl clf_3 (by decide) rfl wd_332,
    st_goto hC (n := 69) (dc_X11_rivals 69 (140, .goto 5, 3) rfl rfl) (by decide),
    st_bipush hC (n := 70) (x := 100) (dc_X11_rivals 70 (143, .bipush 100, 2) rfl rfl) rfl (by decide),
    st_istore hC (n := 71) (dc_X11_rivals 71 (145, .istore 5, 2) rfl rfl) rfl (by decide),
    st_iload hC (n := 72) (dc_X11_rivals 72 (147, .iload 4, 2) rfl rfl) rfl,
    st_bipush hC (n := 73) (x := 99) (dc_X11_rivals 73 (149, .bipush 99, 2) rfl rfl) rfl (by decide),
    st_icle hC (n := 74) (dc_X11_rivals 74 (151, .if_icmp .le 17, 3) rfl rfl) rfl (by decide),
    st_iload hC (n := 75) (dc_X11_rivals 75 (154, .iload 5, 2) rfl rfl) rfl,
    st_bipush hC (n := 76) (x := 99) (dc_X11_rivals 76 (156, .bipush 99, 2) rfl rfl) rfl (by decide),
    st_icle hC (n := 77) (dc_X11_rivals 77 (158, .if_icmp .le 10, 3) rfl rfl) rfl (by decide),
    st_aload_n hC (n := 78) (k := 0) (dc_X11_rivals 78 (161, .aload_n 0, 1) rfl rfl) rfl rfl,
    st_bipush hC (n := 79) (x := 6) (dc_X11_rivals 79 (162, .bipush 6, 2) rfl rfl) rfl (by decide),
    st_callV hC (n := 80) (k := 11) (na := 1) (con_X11_refuse l) (dc_X11_rivals 80 (164, .invokevirtual 139, 3) rfl rfl) rfl wd_824 wd_143 (by decide) ⟨rfl, rfl, by decide, by decide⟩ hM wd_821 wd_823 wd_3 clf_11,
    st_iret hC (n := 81) hR (dc_X11_rivals 81 (167, .ireturn, 1) rfl rfl),
    st_iload hC (n := 82) (dc_X11_rivals 82 (168, .iload 4, 2) rfl rfl) rfl,
    st_iload hC (n := 83) (dc_X11_rivals 83 (170, .iload 5, 2) rfl rfl) rfl,
    st_iceq hC (n := 84) (dc_X11_rivals 84 (172, .if_icmp .eq 20, 3) rfl rfl) rfl (by decide),
    st_aload_n hC (n := 85) (k := 0) (dc_X11_rivals 85 (175, .aload_n 0, 1) rfl rfl) rfl rfl,
    st_iload hC (n := 86) (dc_X11_rivals 86 (176, .iload 4, 2) rfl rfl) rfl,
    st_iload hC (n := 87) (dc_X11_rivals 87 (178, .iload 5, 2) rfl rfl) rfl,
    st_icge hC (n := 88) (dc_X11_rivals 88 (180, .if_icmp .ge 7, 3) rfl rfl) rfl (by decide),
    st_iload_n hC (n := 89) (k := 1) (dc_X11_rivals 89 (183, .iload_n 1, 1) rfl rfl) rfl rfl,
    st_goto hC (n := 90) (dc_X11_rivals 90 (184, .goto 4, 3) rfl rfl) (by decide),
    st_iload_n hC (n := 91) (k := 2) (dc_X11_rivals 91 (187, .iload_n 2, 1) rfl rfl) rfl rfl,
    st_callV hC (n := 92) (k := 11) (na := 1) (con_X11_answer l) (dc_X11_rivals 92 (188, .invokevirtual 178, 3) rfl rfl) rfl wd_967 wd_143 (by decide) ⟨rfl, rfl, by decide, by decide⟩ hM wd_964 wd_966 wd_17 clf_11,
    st_iret hC (n := 93) hR (dc_X11_rivals 93 (191, .ireturn, 1) rfl rfl),
    st_aload_n hC (n := 94) (k := 0) (dc_X11_rivals 94 (192, .aload_n 0, 1) rfl rfl) rfl rfl,
    st_getD hC (n := 95) (k := 11) (j := 12) (dc_X11_rivals 95 (193, .getfield 87, 3) rfl rfl) rfl clf_11 (by decide) rfl (by decide) wd_723,
    st_getR hC (n := 96) (k := 6) (j := 1) (dc_X11_rivals 96 (196, .getfield 231, 3) rfl rfl) rfl clf_6 (by decide) rfl (by decide) wd_580,
    st_iload_n hC (n := 97) (k := 1) (dc_X11_rivals 97 (199, .iload_n 1, 1) rfl rfl) rfl rfl,
    st_iald hC (n := 98) (dc_X11_rivals 98 (200, .iaload, 1) rfl rfl) rfl,
    st_aload_n hC (n := 99) (k := 0) (dc_X11_rivals 99 (201, .aload_n 0, 1) rfl rfl) rfl rfl,
    st_getD hC (n := 100) (k := 11) (j := 12) (dc_X11_rivals 100 (202, .getfield 87, 3) rfl rfl) rfl clf_11 (by decide) rfl (by decide) wd_723,
    st_getR hC (n := 101) (k := 6) (j := 1) (dc_X11_rivals 101 (205, .getfield 231, 3) rfl rfl) rfl clf_6 (by decide) rfl (by decide) wd_580,
    st_iload_n hC (n := 102) (k := 2) (dc_X11_rivals 102 (208, .iload_n 2, 1) rfl rfl) rfl rfl,
    st_iald hC (n := 103) (dc_X11_rivals 103 (209, .iaload, 1) rfl rfl) rfl,
    st_iceq hC (n := 104) (dc_X11_rivals 104 (210, .if_icmp .eq 34, 3) rfl rfl) rfl (by decide),
    st_aload_n hC (n := 105) (k := 0) (dc_X11_rivals 105 (213, .aload_n 0, 1) rfl rfl) rfl rfl,
    st_aload_n hC (n := 106) (k := 0) (dc_X11_rivals 106 (214, .aload_n 0, 1) rfl rfl) rfl rfl,
    st_getD hC (n := 107) (k := 11) (j := 12) (dc_X11_rivals 107 (215, .getfield 87, 3) rfl rfl) rfl clf_11 (by decide) rfl (by decide) wd_723,
    st_getR hC (n := 108) (k := 6) (j := 1) (dc_X11_rivals 108 (218, .getfield 231, 3) rfl rfl) rfl clf_6 (by decide) rfl (by decide) wd_580,
    st_iload_n hC (n := 109) (k := 1) (dc_X11_rivals 109 (221, .iload_n 1, 1) rfl rfl) rfl rfl,
    st_iald hC (n := 110) (dc_X11_rivals 110 (222, .iaload, 1) rfl rfl) rfl,
    st_aload_n hC (n := 111) (k := 0) (dc_X11_rivals 111 (223, .aload_n 0, 1) rfl rfl) rfl rfl,
    st_getD hC (n := 112) (k := 11) (j := 12) (dc_X11_rivals 112 (224, .getfield 87, 3) rfl rfl) rfl clf_11 (by decide) rfl (by decide) wd_723,
    st_getR hC (n := 113) (k := 6) (j := 1) (dc_X11_rivals 113 (227, .getfield 231, 3) rfl rfl) rfl clf_6 (by decide) rfl (by decide) wd_580,
    st_iload_n hC (n := 114) (k := 2) (dc_X11_rivals 114 (230, .iload_n 2, 1) rfl rfl) rfl rfl,
    st_iald hC (n := 115) (dc_X11_rivals 115 (231, .iaload, 1) rfl rfl) rfl,
    st_icle hC (n := 116) (dc_X11_rivals 116 (232, .if_icmp .le 7, 3) rfl rfl) rfl (by decide),
    st_iload_n hC (n := 117) (k := 1) (dc_X11_rivals 117 (235, .iload_n 1, 1) rfl rfl) rfl rfl,
    st_goto hC (n := 118) (dc_X11_rivals 118 (236, .goto 4, 3) rfl rfl) (by decide),
    st_iload_n hC (n := 119) (k := 2) (dc_X11_rivals 119 (239, .iload_n 2, 1) rfl rfl) rfl rfl,
    st_callV hC (n := 120) (k := 11) (na := 1) (con_X11_answer l) (dc_X11_rivals 120 (240, .invokevirtual 178, 3) rfl rfl) rfl wd_967 wd_143 (by decide) ⟨rfl, rfl, by decide, by decide⟩ hM wd_964 wd_966 wd_17 clf_11,
    st_iret hC (n := 121) hR (dc_X11_rivals 121 (243, .ireturn, 1) rfl rfl),
    st_aload_n hC (n := 122) (k := 0) (dc_X11_rivals 122 (244, .aload_n 0, 1) rfl rfl) rfl rfl,
    st_iload_n hC (n := 123) (k := 1) (dc_X11_rivals 123 (245, .iload_n 1, 1) rfl rfl) rfl rfl,
    st_iload_n hC (n := 124) (k := 2) (dc_X11_rivals 124 (246, .iload_n 2, 1) rfl rfl) rfl rfl,
    st_icge hC (n := 125) (dc_X11_rivals 125 (247, .if_icmp .ge 7, 3) rfl rfl) rfl (by decide),
    st_iload_n hC (n := 126) (k := 1) (dc_X11_rivals 126 (250, .iload_n 1, 1) rfl rfl) rfl rfl,
    st_goto hC (n := 127) (dc_X11_rivals 127 (251, .goto 4, 3) rfl rfl) (by decide),
    st_iload_n hC (n := 128) (k := 2) (dc_X11_rivals 128 (254, .iload_n 2, 1) rfl rfl) rfl rfl,
    st_callV hC (n := 129) (k := 11) (na := 1) (con_X11_answer l) (dc_X11_rivals 129 (255, .invokevirtual 178, 3) rfl rfl) rfl wd_967 wd_143 (by decide) ⟨rfl, rfl, by decide, by decide⟩ hM wd_964 wd_966 wd_17 clf_11,
    st_iret hC (n := 130) hR (dc_X11_rivals 130 (258, .ireturn, 1) rfl rfl), trivial⟩
set_option maxRecDepth 8000 in
theorem vc_X11_rivals : VC P_X11_rivals 6 Pre_X11_rivals Fn_X11_rivals := by
  rintro mm as hom hoa ⟨ns, nm, nt, hD, a, b, d, rfl⟩
  refine ⟨Nat.le_of_ble_eq_true rfl, fun X h => ?_⟩
  obtain ⟨hV, hND⟩ := hD
  have hS : mm.1 6 (mm.2.2 0) 13 = nI ns := hV.1.1.1
  have hn4 : ns ≤ 4 := hV.1.1.2
  have hN : mm.1 6 (mm.2.2 0) 14 = nI nm := hV.1.2.1.1
  have hm4 : nm ≤ 4 := hV.1.2.1.2
  obtain ⟨R, eR⟩ : ∃ R, R = cl_rivals mm a b d := ⟨_, rfl⟩
  replace h : RUN P_X11_rivals (fun r m' => (r, m') = cl_rivals mm a b d) X := h
  rw [← eR] at h
  have in1 : ¬ npC mm a d → ¬ npC mm b d → ∃ i j k, i < 4 ∧ a = nI i ∧ j < 4 ∧ b = nI j ∧ k < 4 ∧ d = nI k := by
    intro c1 c2
    obtain ⟨i, hi, ea⟩ := ou_in hS (by omega) (fun z => c1 (Or.inl z))
    obtain ⟨k, hk, ed⟩ := ou_in hN (by omega) (fun z => c1 (Or.inr z))
    obtain ⟨j, hj, eb⟩ := ou_in hS (by omega) (fun z => c2 (Or.inl z))
    exact ⟨i, j, k, by omega, ea, by omega, eb, by omega, ed⟩
  have s82 : (∃ i j k, i < 4 ∧ a = nI i ∧ j < 4 ∧ b = nI j ∧ k < 4 ∧ d = nI k) → ∀ M sa sb, R = cl_rv4 M a b sa sb → X 82 [some (vR 11 0), some (vI (a)), some (vI (b)), some (vI (d)), some (vI (sa)), some (vI (sb))] [] (M) := by
    intro ⟨i, j, k, hi, ea, hj, eb, hk, ed⟩ M sa sb hR
    unfold cl_rv4 at hR
    show X 82 [some (vR 11 0), some (vI a), some (vI b), some (vI d), some (vI sa), some (vI sb)] [] M
    refine h (fun _ => false) 3000 82 _ _ _ ?_
    refine br_c (fun b84 => ?_) (fun b84 => ?_)
    · -- 84: sa = sb taken
      replace b84 : sa = sb := b84
      refine And.intro (show inb a (alen 30) = true from (inb_o 4 rfl rfl ea (by omega))) ?_
      refine And.intro (show inb b (alen 30) = true from (inb_o 4 rfl rfl eb (by omega))) ?_
      refine br_c (fun b104 => ?_) (fun b104 => ?_)
      · -- 104: M.1 30 (M.2.2 0) a.toNatClampNeg = M.1 30 (M.2.2 0) b.toNatClampNeg taken
        replace b104 : M.1 30 (M.2.2 0) a.toNatClampNeg = M.1 30 (M.2.2 0) b.toNatClampNeg := b104
        refine br_c (fun b125 => ?_) (fun b125 => ?_)
        · -- 125: b ≤ a taken
          replace b125 : b ≤ a := b125
          refine And.intro (show Pre_X11_answer M [vR 11 0, vI b] from ⟨_, rfl⟩) ?_
          show ((some (vI b) : Option MV), stC M 0) = _
          rw [hR, if_pos b84, if_pos b104, if_pos b125]
          rfl
        · -- 125: b ≤ a on
          replace b125 : ¬ (b ≤ a) := b125
          refine And.intro (show Pre_X11_answer M [vR 11 0, vI a] from ⟨_, rfl⟩) ?_
          show ((some (vI a) : Option MV), stC M 0) = _
          rw [hR, if_pos b84, if_pos b104, if_neg b125]
          rfl
      · -- 104: M.1 30 (M.2.2 0) a.toNatClampNeg = M.1 30 (M.2.2 0) b.toNatClampNeg on
        replace b104 : ¬ (M.1 30 (M.2.2 0) a.toNatClampNeg = M.1 30 (M.2.2 0) b.toNatClampNeg) := b104
        refine And.intro (show inb a (alen 30) = true from (inb_o 4 rfl rfl ea (by omega))) ?_
        refine And.intro (show inb b (alen 30) = true from (inb_o 4 rfl rfl eb (by omega))) ?_
        refine br_c (fun b116 => ?_) (fun b116 => ?_)
        · -- 116: M.1 30 (M.2.2 0) a.toNatClampNeg ≤ M.1 30 (M.2.2 0) b.toNatClampNeg taken
          replace b116 : M.1 30 (M.2.2 0) a.toNatClampNeg ≤ M.1 30 (M.2.2 0) b.toNatClampNeg := b116
          refine And.intro (show Pre_X11_answer M [vR 11 0, vI b] from ⟨_, rfl⟩) ?_
          show ((some (vI b) : Option MV), stC M 0) = _
          rw [hR, if_pos b84, if_neg b104, if_pos b116]
          rfl
        · -- 116: M.1 30 (M.2.2 0) a.toNatClampNeg ≤ M.1 30 (M.2.2 0) b.toNatClampNeg on
          replace b116 : ¬ (M.1 30 (M.2.2 0) a.toNatClampNeg ≤ M.1 30 (M.2.2 0) b.toNatClampNeg) := b116
          refine And.intro (show Pre_X11_answer M [vR 11 0, vI a] from ⟨_, rfl⟩) ?_
          show ((some (vI a) : Option MV), stC M 0) = _
          rw [hR, if_pos b84, if_neg b104, if_neg b116]
          rfl
    · -- 84: sa = sb on
      replace b84 : ¬ (sa = sb) := b84
      refine br_c (fun b88 => ?_) (fun b88 => ?_)
      · -- 88: sb ≤ sa taken
        replace b88 : sb ≤ sa := b88
        refine And.intro (show Pre_X11_answer M [vR 11 0, vI b] from ⟨_, rfl⟩) ?_
        show ((some (vI b) : Option MV), stC M 0) = _
        rw [hR, if_neg b84, if_pos b88]
        rfl
      · -- 88: sb ≤ sa on
        replace b88 : ¬ (sb ≤ sa) := b88
        refine And.intro (show Pre_X11_answer M [vR 11 0, vI a] from ⟨_, rfl⟩) ?_
        show ((some (vI a) : Option MV), stC M 0) = _
        rw [hR, if_neg b84, if_neg b88]
        rfl
  have s71 : (∃ i j k, i < 4 ∧ a = nI i ∧ j < 4 ∧ b = nI j ∧ k < 4 ∧ d = nI k) → ∀ M sa sb, R = cl_rv3 M a b sa sb → X 71 [some (vR 11 0), some (vI (a)), some (vI (b)), some (vI (d)), some (vI (sa)), none] [vI (sb)] (M) := by
    intro hin M sa sb hR
    unfold cl_rv3 at hR
    show X 71 [some (vR 11 0), some (vI a), some (vI b), some (vI d), some (vI sa), none] [vI sb] M
    refine h (fun i => Nat.beq i 82) 3000 71 _ _ _ ?_
    refine br_c (fun b74 => ?_) (fun b74 => ?_)
    · -- 74: sa ≤ 99 taken
      replace b74 : sa ≤ 99 := b74
      show X 82 [some (vR 11 0), some (vI a), some (vI b), some (vI d), some (vI sa), some (vI sb)] [] M
      rw [if_pos b74] at hR
      exact s82 hin M sa sb hR
    · -- 74: sa ≤ 99 on
      replace b74 : ¬ (sa ≤ 99) := b74
      refine br_c (fun b77 => ?_) (fun b77 => ?_)
      · -- 77: sb ≤ 99 taken
        replace b77 : sb ≤ 99 := b77
        show X 82 [some (vR 11 0), some (vI a), some (vI b), some (vI d), some (vI sa), some (vI sb)] [] M
        rw [if_neg b74, if_pos b77] at hR
        exact s82 hin M sa sb hR
      · -- 77: sb ≤ 99 on
        replace b77 : ¬ (sb ≤ 99) := b77
        refine And.intro (show Pre_X11_refuse M [vR 11 0, vI 6] from ⟨_, rfl⟩) ?_
        show ((some (vI (-1)) : Option MV), stC M 6) = _
        rw [hR, if_neg b74, if_neg b77]
        rfl
  have s62 : (∃ i j k, i < 4 ∧ a = nI i ∧ j < 4 ∧ b = nI j ∧ k < 4 ∧ d = nI k) → ∀ M sa, R = cl_rv2 M a b sa → X 62 [some (vR 11 0), some (vI (a)), some (vI (b)), some (vI (d)), some (vI (sa)), none] [] (M) := by
    intro hin M sa hR
    unfold cl_rv2 cl_sn at hR
    show X 62 [some (vR 11 0), some (vI a), some (vI b), some (vI d), some (vI sa), none] [] M
    refine h (fun i => Nat.beq i 71) 3000 62 _ _ _ ?_
    refine And.intro (show Pre_X3_isFound M [vR 3 0] from rfl) ?_
    refine br_c (fun b65 => ?_) (fun b65 => ?_)
    · -- 65: bI (¬ M.1 3 0 13 < 0) = 0 taken
      replace b65 : ¬ (¬ M.1 3 0 13 < 0) := bI_0.mp b65
      show X 71 [some (vR 11 0), some (vI a), some (vI b), some (vI d), some (vI sa), none] [vI 100] M
      rw [if_neg b65] at hR
      exact s71 hin M sa _ hR
    · -- 65: bI (¬ M.1 3 0 13 < 0) = 0 on
      replace b65 : ¬ M.1 3 0 13 < 0 := bI_n0.mp b65
      show X 71 [some (vR 11 0), some (vI a), some (vI b), some (vI d), some (vI sa), none] [vI (M.1 3 0 15)] M
      rw [if_pos b65] at hR
      exact s71 hin M sa _ hR
  have s53 : (∃ i j k, i < 4 ∧ a = nI i ∧ j < 4 ∧ b = nI j ∧ k < 4 ∧ d = nI k) → ∀ M sa, VD M ns nm nt → R = cl_rv2 (mkM M (M.2.2 0) b.toNatClampNeg d.toNatClampNeg 99) a b sa → X 53 [some (vR 11 0), some (vI (a)), some (vI (b)), some (vI (d)), none, none] [vI (sa)] (M) := by
    intro hin M sa hM hR
    have z := s62 hin _ sa hR
    obtain ⟨i, j, k, hi, ea, hj, eb, hk, ed⟩ := hin
    show X 53 [some (vR 11 0), some (vI a), some (vI b), some (vI d), none, none] [vI sa] M
    refine h (fun i => Nat.beq i 62) 3000 53 _ _ _ ?_
    refine And.intro (show Pre_X3_make M [vR 3 0, vR 6 (M.2.2 0), vI b, vI d, vI 99] from ⟨_, ns, nm, nt, j, k, 99, hM.1, hM.2, by omega, by omega, by rw [eb, ed]⟩) ?_
    show X 62 [some (vR 11 0), some (vI a), some (vI b), some (vI d), some (vI sa), none] [] (mkM M (M.2.2 0) b.toNatClampNeg d.toNatClampNeg 99)
    exact z
  have s44 : (∃ i j k, i < 4 ∧ a = nI i ∧ j < 4 ∧ b = nI j ∧ k < 4 ∧ d = nI k) → ∀ M, VD M ns nm nt → R = cl_rv1 M a b d → X 44 [some (vR 11 0), some (vI (a)), some (vI (b)), some (vI (d)), none, none] [] (M) := by
    intro hin M hM hR
    unfold cl_rv1 cl_sn at hR
    show X 44 [some (vR 11 0), some (vI a), some (vI b), some (vI d), none, none] [] M
    refine h (fun i => Nat.beq i 53) 3000 44 _ _ _ ?_
    refine And.intro (show Pre_X3_isFound M [vR 3 0] from rfl) ?_
    refine br_c (fun b47 => ?_) (fun b47 => ?_)
    · -- 47: bI (¬ M.1 3 0 13 < 0) = 0 taken
      replace b47 : ¬ (¬ M.1 3 0 13 < 0) := bI_0.mp b47
      show X 53 [some (vR 11 0), some (vI a), some (vI b), some (vI d), none, none] [vI 100] M
      rw [if_neg b47] at hR
      exact s53 hin M _ hM hR
    · -- 47: bI (¬ M.1 3 0 13 < 0) = 0 on
      replace b47 : ¬ M.1 3 0 13 < 0 := bI_n0.mp b47
      show X 53 [some (vR 11 0), some (vI a), some (vI b), some (vI d), none, none] [vI (M.1 3 0 15)] M
      rw [if_pos b47] at hR
      exact s53 hin M _ hM hR
  have s17 : (∃ i j k, i < 4 ∧ a = nI i ∧ j < 4 ∧ b = nI j ∧ k < 4 ∧ d = nI k) → R = cl_rv0 mm a b d → X 17 [some (vR 11 0), some (vI (a)), some (vI (b)), some (vI (d)), none, none] [] mm := by
    intro hin hR
    have z := s44 hin (mkM mm (mm.2.2 0) a.toNatClampNeg d.toNatClampNeg 99) (VD_mk ⟨hV, hND⟩)
    obtain ⟨i, j, k, hi, ea, hj, eb, hk, ed⟩ := hin
    unfold cl_rv0 at hR
    show X 17 [some (vR 11 0), some (vI a), some (vI b), some (vI d), none, none] [] mm
    refine h (fun i => Nat.beq i 44) 3000 17 _ _ _ ?_
    refine And.intro (show Pre_X6_isWed mm [vR 6 (mm.2.2 0), vI a] from ⟨_, ns, nm, nt, i, hV, by omega, by rw [ea]⟩) ?_
    refine brn_c (fun b21 => ?_) (fun b21 => ?_)
    · -- 21: bI (¬ abV mm (mm.2.2 0) (15 + 4 * a.toNatClampNeg) = -1) = 0 taken
      replace b21 : ¬ abV mm (mm.2.2 0) (15 + 4 * a.toNatClampNeg) = -1 := bI_n0.mp b21
      refine And.intro (show Pre_X11_refuse mm [vR 11 0, vI 7] from ⟨_, rfl⟩) ?_
      show ((some (vI (-1)) : Option MV), stC mm 7) = _
      rw [hR, if_pos b21]
      rfl
    · -- 21: bI (¬ abV mm (mm.2.2 0) (15 + 4 * a.toNatClampNeg) = -1) = 0 on
      replace b21 : ¬ (¬ abV mm (mm.2.2 0) (15 + 4 * a.toNatClampNeg) = -1) := bI_0.mp b21
      refine And.intro (show Pre_X6_isWed mm [vR 6 (mm.2.2 0), vI b] from ⟨_, ns, nm, nt, j, hV, by omega, by rw [eb]⟩) ?_
      refine brn_c (fun b26 => ?_) (fun b26 => ?_)
      · -- 26: bI (¬ abV mm (mm.2.2 0) (15 + 4 * b.toNatClampNeg) = -1) = 0 taken
        replace b26 : ¬ abV mm (mm.2.2 0) (15 + 4 * b.toNatClampNeg) = -1 := bI_n0.mp b26
        refine And.intro (show Pre_X11_refuse mm [vR 11 0, vI 7] from ⟨_, rfl⟩) ?_
        show ((some (vI (-1)) : Option MV), stC mm 7) = _
        rw [hR, if_neg b21, if_pos b26]
        rfl
      · -- 26: bI (¬ abV mm (mm.2.2 0) (15 + 4 * b.toNatClampNeg) = -1) = 0 on
        replace b26 : ¬ (¬ abV mm (mm.2.2 0) (15 + 4 * b.toNatClampNeg) = -1) := bI_0.mp b26
        refine And.intro (show Pre_X6_isTaken mm [vR 6 (mm.2.2 0), vI d] from ⟨_, ns, nm, nt, k, hV, by omega, by rw [ed]⟩) ?_
        refine br_c (fun b31 => ?_) (fun b31 => ?_)
        · -- 31: bI (¬ abV mm (mm.2.2 0) (31 + 4 * d.toNatClampNeg) = -1) = 0 taken
          replace b31 : ¬ (¬ abV mm (mm.2.2 0) (31 + 4 * d.toNatClampNeg) = -1) := bI_0.mp b31
          refine And.intro (show Pre_X3_make mm [vR 3 0, vR 6 (mm.2.2 0), vI a, vI d, vI 99] from ⟨_, ns, nm, nt, i, k, 99, hV, hND, by omega, by omega, by rw [ea, ed]⟩) ?_
          show X 44 [some (vR 11 0), some (vI a), some (vI b), some (vI d), none, none] [] (mkM mm (mm.2.2 0) a.toNatClampNeg d.toNatClampNeg 99)
          rw [if_neg b21, if_neg b26, if_neg b31] at hR
          exact z hR
        · -- 31: bI (¬ abV mm (mm.2.2 0) (31 + 4 * d.toNatClampNeg) = -1) = 0 on
          replace b31 : ¬ abV mm (mm.2.2 0) (31 + 4 * d.toNatClampNeg) = -1 := bI_n0.mp b31
          refine And.intro (show Pre_X11_refuse mm [vR 11 0, vI 7] from ⟨_, rfl⟩) ?_
          show ((some (vI (-1)) : Option MV), stC mm 7) = _
          rw [hR, if_neg b21, if_neg b26, if_pos b31]
          rfl
  unfold cl_rivals at eR
  show X 0 [some (vR 11 0), some (vI a), some (vI b), some (vI d), none, none] [] mm
  refine h (fun i => Nat.beq i 17) 3000 0 _ _ _ ?_
  refine And.intro (show Pre_X11_isNoPair mm [vR 11 0, vI a, vI d] from ⟨_, _, rfl⟩) ?_
  refine brn_c (fun b4 => ?_) (fun b4 => ?_)
  · -- 4: bI (npC mm a d) = 0 taken
    replace b4 : npC mm a d := bI_n0.mp b4
    refine And.intro (show Pre_X11_refuse mm [vR 11 0, vI 1] from ⟨_, rfl⟩) ?_
    show ((some (vI (-1)) : Option MV), stC mm 1) = _
    rw [eR, if_pos b4]
    rfl
  · -- 4: bI (npC mm a d) = 0 on
    replace b4 : ¬ (npC mm a d) := bI_0.mp b4
    refine And.intro (show Pre_X11_isNoPair mm [vR 11 0, vI b, vI d] from ⟨_, _, rfl⟩) ?_
    refine brn_c (fun b9 => ?_) (fun b9 => ?_)
    · -- 9: bI (npC mm b d) = 0 taken
      replace b9 : npC mm b d := bI_n0.mp b9
      refine And.intro (show Pre_X11_refuse mm [vR 11 0, vI 1] from ⟨_, rfl⟩) ?_
      show ((some (vI (-1)) : Option MV), stC mm 1) = _
      rw [eR, if_neg b4, if_pos b9]
      rfl
    · -- 9: bI (npC mm b d) = 0 on
      replace b9 : ¬ (npC mm b d) := bI_0.mp b9
      refine brn_c (fun b12 => ?_) (fun b12 => ?_)
      · -- 12: a = b taken
        replace b12 : ¬ (a = b) := b12
        show X 17 [some (vR 11 0), some (vI a), some (vI b), some (vI d), none, none] [] mm
        rw [if_neg b4, if_neg b9, if_neg b12] at eR
        exact s17 (in1 b4 b9) eR
      · -- 12: a = b on
        replace b12 : a = b := b12
        refine And.intro (show Pre_X11_refuse mm [vR 11 0, vI 1] from ⟨_, rfl⟩) ?_
        show ((some (vI (-1)) : Option MV), stC mm 1) = _
        rw [eR, if_neg b4, if_neg b9, if_pos b12]
        rfl
theorem con_X11_rivals (l : Launch) : CON l y_X11_rivals prog_1_method_42_code 6 (some .int) rm_X11_rivals Pre_X11_rivals Fn_X11_rivals := CON_of (by decide) rfl rfl (sa_X11_rivals l) vc_X11_rivals
def cl_chL (s w : Int32) : Nat → Nat → Int32 → Int32 → MM → Int32 × MM
  | 0, _, best, _, m => (best, m)
  | k + 1, d, best, bw, m => if (cl_ps m s (nI d) w).1 = 0 then (if best < 0 then cl_chL s w k (d + 1) (nI d) ((cl_ps m s (nI d) w).2.1 3 0 12) (cl_ps m s (nI d) w).2 else if bw ≤ (cl_ps m s (nI d) w).2.1 3 0 12 then cl_chL s w k (d + 1) best bw (cl_ps m s (nI d) w).2 else cl_chL s w k (d + 1) (nI d) ((cl_ps m s (nI d) w).2.1 3 0 12) (cl_ps m s (nI d) w).2) else cl_chL s w k (d + 1) best bw (cl_ps m s (nI d) w).2
def cl_ch1 (q : Int32 × MM) : Option MV × MM := onC q.2 q.1
def cl_cheapest (m : MM) (s w : Int32) : Option MV × MM := if s < 0 ∨ m.1 6 (m.2.2 0) 13 ≤ s then rfC m 1 else if w < 0 ∨ 99 < w then rfC m 1 else if ¬ abV m (m.2.2 0) (15 + 4 * s.toNatClampNeg) = -1 then rfC m 7 else cl_ch1 (cl_chL s w (m.1 6 (m.2.2 0) 14).toNatClampNeg 0 (-1) 0 m)

def Pre_X11_cheapest : PreT := fun m as => ∃ ns nm nt, VD m ns nm nt ∧ ∃ s w : Int32, as = [vR 11 0, vI s, vI w]
def Fn_X11_cheapest : FnT := fun m as => match as with
  | [_, Sum.inl s, Sum.inl w] => cl_cheapest m s w
  | _ => (none, m)
abbrev y_X11_cheapest : MethodName := ⟨"GivenUp", "cheapest", "(II)I"⟩
def P_X11_cheapest : List StpT := [s_iload 1, s_aload 0, s_getD 11 12 6 0, s_getI 6 13, s_callS 2 Pre_X11_isOut Fn_X11_isOut, s_ifne 9, s_iload 2, s_callS 1 Pre_X11_isNoTime Fn_X11_isNoTime, s_ifeq 13, s_aload 0, s_ic (1), s_callV 11 1 Pre_X11_refuse Fn_X11_refuse, s_iret, s_aload 0, s_getD 11 12 6 0, s_iload 1, s_callV 6 1 Pre_X6_isWed Fn_X6_isWed, s_ifeq 22, s_aload 0, s_ic (7), s_callV 11 1 Pre_X11_refuse Fn_X11_refuse, s_iret, s_ic (-1), s_istore 3, s_ic (0), s_istore 4, s_ic (0), s_istore 5, s_iload 5, s_aload 0, s_getD 11 12 6 0, s_getI 6 14, s_icge 54, s_aload 0, s_iload 1, s_iload 5, s_iload 2, s_callV 11 3 Pre_X11_canPlan Fn_X11_canPlan, s_ifeq 52, s_iload 3, s_iflt 46, s_aload 0, s_getC 11 5 3 0, s_getI 3 12, s_iload 4, s_icge 52, s_iload 5, s_istore 3, s_aload 0, s_getC 11 5 3 0, s_getI 3 12, s_istore 4, s_iinc 5 (1), s_goto 28, s_aload 0, s_iload 3, s_callV 11 1 Pre_X11_answerOrNone Fn_X11_answerOrNone, s_iret]
def pc_X11_cheapest : Nat → Nat := fun i => [0, 1, 2, 5, 8, 11, 14, 15, 18, 21, 22, 23, 26, 27, 28, 31, 32, 35, 38, 39, 41, 44, 45, 46, 47, 48, 50, 51, 53, 55, 56, 59, 62, 65, 66, 67, 69, 70, 73, 76, 77, 80, 81, 84, 87, 89, 92, 94, 95, 96, 99, 102, 104, 107, 110, 111, 112, 115].getD i 0
def dl_X11_cheapest : List (Nat × Instr × Nat) := [(0, .iload_n 1, 1), (1, .aload_n 0, 1), (2, .getfield 87, 3), (5, .getfield 197, 3), (8, .invokestatic 115, 3), (11, .ifCond .ne 10, 3), (14, .iload_n 2, 1), (15, .invokestatic 360, 3), (18, .ifCond .eq 9, 3), (21, .aload_n 0, 1), (22, .iconst 1, 1), (23, .invokevirtual 139, 3), (26, .ireturn, 1), (27, .aload_n 0, 1), (28, .getfield 87, 3), (31, .iload_n 1, 1), (32, .invokevirtual 363, 3), (35, .ifCond .eq 10, 3), (38, .aload_n 0, 1), (39, .bipush 7, 2), (41, .invokevirtual 139, 3), (44, .ireturn, 1), (45, .iconst (-1), 1), (46, .istore_n 3, 1), (47, .iconst 0, 1), (48, .istore 4, 2), (50, .iconst 0, 1), (51, .istore 5, 2), (53, .iload 5, 2), (55, .aload_n 0, 1), (56, .getfield 87, 3), (59, .getfield 200, 3), (62, .if_icmp .ge 48, 3), (65, .aload_n 0, 1), (66, .iload_n 1, 1), (67, .iload 5, 2), (69, .iload_n 2, 1), (70, .invokevirtual 379, 3), (73, .ifCond .eq 31, 3), (76, .iload_n 3, 1), (77, .ifCond .lt 15, 3), (80, .aload_n 0, 1), (81, .getfield 47, 3), (84, .getfield 350, 3), (87, .iload 4, 2), (89, .if_icmp .ge 15, 3), (92, .iload 5, 2), (94, .istore_n 3, 1), (95, .aload_n 0, 1), (96, .getfield 47, 3), (99, .getfield 350, 3), (102, .istore 4, 2), (104, .iinc 5 1, 3), (107, .goto (-54), 3), (110, .aload_n 0, 1), (111, .iload_n 3, 1), (112, .invokevirtual 249, 3), (115, .ireturn, 1)]
theorem dc_X11_cheapest : DEC prog_1_method_43_code pc_X11_cheapest dl_X11_cheapest := DEC_of (by decide +kernel)
abbrev rm_X11_cheapest : Room := { frames := 19, cells := 0, slots := 0, locals := 482 }
set_option maxRecDepth 20000 in
theorem sa_X11_cheapest (l : Launch) : SNDALL l prog_1_method_43_code "GivenUp" 6 (some .int) rm_X11_cheapest P_X11_cheapest pc_X11_cheapest := fun p e s m args below meth c cells slots Q D dA ad A RR hC hR => by
  have hM := RTX_room (R := rm_X11_cheapest) hR
  exact ⟨st_iload_n hC (n := 0) (k := 1) (dc_X11_cheapest 0 (0, .iload_n 1, 1) rfl rfl) rfl rfl,
    st_aload_n hC (n := 1) (k := 0) (dc_X11_cheapest 1 (1, .aload_n 0, 1) rfl rfl) rfl rfl,
    st_getD hC (n := 2) (k := 11) (j := 12) (dc_X11_cheapest 2 (2, .getfield 87, 3) rfl rfl) rfl clf_11 (by decide) rfl (by decide) wd_723,
    st_getI hC (n := 3) (k := 6) (j := 13) (dc_X11_cheapest 3 (5, .getfield 197, 3) rfl rfl) rfl clf_6 (by decide) rfl wd_622,
    st_callS hC (n := 4) (na := 2) (con_X11_isOut l) (dc_X11_cheapest 4 (8, .invokestatic 115, 3) rfl rfl) rfl wd_790 wd_143 (by decide) ⟨rfl, rfl, by decide, by decide⟩ hM wd_788 wd_789,
    st_ifne hC (n := 5) (dc_X11_cheapest 5 (11, .ifCond .ne 10, 3) rfl rfl) rfl (by decide),
    st_iload_n hC (n := 6) (k := 2) (dc_X11_cheapest 6 (14, .iload_n 2, 1) rfl rfl) rfl rfl,
    st_callS hC (n := 7) (na := 1) (con_X11_isNoTime l) (dc_X11_cheapest 7 (15, .invokestatic 360, 3) rfl rfl) rfl wd_1271 wd_143 (by decide) ⟨rfl, rfl, by decide, by decide⟩ hM wd_1269 wd_1270,
    st_ifeq hC (n := 8) (dc_X11_cheapest 8 (18, .ifCond .eq 9, 3) rfl rfl) rfl (by decide),
    st_aload_n hC (n := 9) (k := 0) (dc_X11_cheapest 9 (21, .aload_n 0, 1) rfl rfl) rfl rfl,
    st_iconst hC (n := 10) (x := 1) (dc_X11_cheapest 10 (22, .iconst 1, 1) rfl rfl) rfl (by decide),
    st_callV hC (n := 11) (k := 11) (na := 1) (con_X11_refuse l) (dc_X11_cheapest 11 (23, .invokevirtual 139, 3) rfl rfl) rfl wd_824 wd_143 (by decide) ⟨rfl, rfl, by decide, by decide⟩ hM wd_821 wd_823 wd_3 clf_11,
    st_iret hC (n := 12) hR (dc_X11_cheapest 12 (26, .ireturn, 1) rfl rfl),
    st_aload_n hC (n := 13) (k := 0) (dc_X11_cheapest 13 (27, .aload_n 0, 1) rfl rfl) rfl rfl,
    st_getD hC (n := 14) (k := 11) (j := 12) (dc_X11_cheapest 14 (28, .getfield 87, 3) rfl rfl) rfl clf_11 (by decide) rfl (by decide) wd_723,
    st_iload_n hC (n := 15) (k := 1) (dc_X11_cheapest 15 (31, .iload_n 1, 1) rfl rfl) rfl rfl,
    st_callV hC (n := 16) (k := 6) (na := 1) (con_X6_isWed l) (dc_X11_cheapest 16 (32, .invokevirtual 363, 3) rfl rfl) rfl wd_1023 wd_155 (by decide) ⟨rfl, rfl, by decide, by decide⟩ hM wd_1272 wd_1021 wd_1022 clf_6,
    st_ifeq hC (n := 17) (dc_X11_cheapest 17 (35, .ifCond .eq 10, 3) rfl rfl) rfl (by decide),
    st_aload_n hC (n := 18) (k := 0) (dc_X11_cheapest 18 (38, .aload_n 0, 1) rfl rfl) rfl rfl,
    st_bipush hC (n := 19) (x := 7) (dc_X11_cheapest 19 (39, .bipush 7, 2) rfl rfl) rfl (by decide),
    st_callV hC (n := 20) (k := 11) (na := 1) (con_X11_refuse l) (dc_X11_cheapest 20 (41, .invokevirtual 139, 3) rfl rfl) rfl wd_824 wd_143 (by decide) ⟨rfl, rfl, by decide, by decide⟩ hM wd_821 wd_823 wd_3 clf_11,
    st_iret hC (n := 21) hR (dc_X11_cheapest 21 (44, .ireturn, 1) rfl rfl),
    st_iconst hC (n := 22) (x := (-1)) (dc_X11_cheapest 22 (45, .iconst (-1), 1) rfl rfl) rfl (by decide),
    st_istore_n hC (n := 23) (k := 3) (dc_X11_cheapest 23 (46, .istore_n 3, 1) rfl rfl) rfl rfl (by decide),
    st_iconst hC (n := 24) (x := 0) (dc_X11_cheapest 24 (47, .iconst 0, 1) rfl rfl) rfl (by decide),
    st_istore hC (n := 25) (dc_X11_cheapest 25 (48, .istore 4, 2) rfl rfl) rfl (by decide),
    st_iconst hC (n := 26) (x := 0) (dc_X11_cheapest 26 (50, .iconst 0, 1) rfl rfl) rfl (by decide),
    st_istore hC (n := 27) (dc_X11_cheapest 27 (51, .istore 5, 2) rfl rfl) rfl (by decide),
    st_iload hC (n := 28) (dc_X11_cheapest 28 (53, .iload 5, 2) rfl rfl) rfl,
    st_aload_n hC (n := 29) (k := 0) (dc_X11_cheapest 29 (55, .aload_n 0, 1) rfl rfl) rfl rfl,
    st_getD hC (n := 30) (k := 11) (j := 12) (dc_X11_cheapest 30 (56, .getfield 87, 3) rfl rfl) rfl clf_11 (by decide) rfl (by decide) wd_723,
    st_getI hC (n := 31) (k := 6) (j := 14) (dc_X11_cheapest 31 (59, .getfield 200, 3) rfl rfl) rfl clf_6 (by decide) rfl wd_628,
    st_icge hC (n := 32) (dc_X11_cheapest 32 (62, .if_icmp .ge 48, 3) rfl rfl) rfl (by decide),
    st_aload_n hC (n := 33) (k := 0) (dc_X11_cheapest 33 (65, .aload_n 0, 1) rfl rfl) rfl rfl,
    st_iload_n hC (n := 34) (k := 1) (dc_X11_cheapest 34 (66, .iload_n 1, 1) rfl rfl) rfl rfl,
    st_iload hC (n := 35) (dc_X11_cheapest 35 (67, .iload 5, 2) rfl rfl) rfl,
    st_iload_n hC (n := 36) (k := 2) (dc_X11_cheapest 36 (69, .iload_n 2, 1) rfl rfl) rfl rfl,
    st_callV hC (n := 37) (k := 11) (na := 3) (con_X11_canPlan l) (dc_X11_cheapest 37 (70, .invokevirtual 379, 3) rfl rfl) rfl wd_1333 wd_143 (by decide) ⟨rfl, rfl, by decide, by decide⟩ hM wd_1330 wd_1332 wd_34 clf_11,
    st_ifeq hC (n := 38) (dc_X11_cheapest 38 (73, .ifCond .eq 31, 3) rfl rfl) rfl (by decide),
    st_iload_n hC (n := 39) (k := 3) (dc_X11_cheapest 39 (76, .iload_n 3, 1) rfl rfl) rfl rfl,
    st_iflt hC (n := 40) (dc_X11_cheapest 40 (77, .ifCond .lt 15, 3) rfl rfl) rfl (by decide),
    st_aload_n hC (n := 41) (k := 0) (dc_X11_cheapest 41 (80, .aload_n 0, 1) rfl rfl) rfl rfl,
    st_getC hC (n := 42) (k := 11) (j := 5) (dc_X11_cheapest 42 (81, .getfield 47, 3) rfl rfl) rfl clf_11 (by decide) rfl (by decide) wd_716,
    st_getI hC (n := 43) (k := 3) (j := 12) (dc_X11_cheapest 43 (84, .getfield 350, 3) rfl rfl) rfl clf_3 (by decide) rfl wd_326,
    st_iload hC (n := 44) (dc_X11_cheapest 44 (87, .iload 4, 2) rfl rfl) rfl,
    st_icge hC (n := 45) (dc_X11_cheapest 45 (89, .if_icmp .ge 15, 3) rfl rfl) rfl (by decide),
    st_iload hC (n := 46) (dc_X11_cheapest 46 (92, .iload 5, 2) rfl rfl) rfl,
    st_istore_n hC (n := 47) (k := 3) (dc_X11_cheapest 47 (94, .istore_n 3, 1) rfl rfl) rfl rfl (by decide),
    st_aload_n hC (n := 48) (k := 0) (dc_X11_cheapest 48 (95, .aload_n 0, 1) rfl rfl) rfl rfl,
    st_getC hC (n := 49) (k := 11) (j := 5) (dc_X11_cheapest 49 (96, .getfield 47, 3) rfl rfl) rfl clf_11 (by decide) rfl (by decide) wd_716,
    st_getI hC (n := 50) (k := 3) (j := 12) (dc_X11_cheapest 50 (99, .getfield 350, 3) rfl rfl) rfl clf_3 (by decide) rfl wd_326,
    st_istore hC (n := 51) (dc_X11_cheapest 51 (102, .istore 4, 2) rfl rfl) rfl (by decide),
    st_iinc hC (n := 52) (x := 1) (dc_X11_cheapest 52 (104, .iinc 5 1, 3) rfl rfl) rfl (by decide) (by decide),
    st_goto hC (n := 53) (dc_X11_cheapest 53 (107, .goto (-54), 3) rfl rfl) (by decide),
    st_aload_n hC (n := 54) (k := 0) (dc_X11_cheapest 54 (110, .aload_n 0, 1) rfl rfl) rfl rfl,
    st_iload_n hC (n := 55) (k := 3) (dc_X11_cheapest 55 (111, .iload_n 3, 1) rfl rfl) rfl rfl,
    st_callV hC (n := 56) (k := 11) (na := 1) (con_X11_answerOrNone l) (dc_X11_cheapest 56 (112, .invokevirtual 249, 3) rfl rfl) rfl wd_1047 wd_143 (by decide) ⟨rfl, rfl, by decide, by decide⟩ hM wd_1044 wd_1046 wd_23 clf_11,
    st_iret hC (n := 57) hR (dc_X11_cheapest 57 (115, .ireturn, 1) rfl rfl), trivial⟩
set_option maxRecDepth 8000 in
theorem vc_X11_cheapest : VC P_X11_cheapest 6 Pre_X11_cheapest Fn_X11_cheapest := by
  rintro mm as hom hoa ⟨ns, nm, nt, hD, s, w, rfl⟩
  refine ⟨Nat.le_of_ble_eq_true rfl, fun X h => ?_⟩
  have hS : mm.1 6 (mm.2.2 0) 13 = nI ns := hD.1.1.1.1
  have hn4 : ns ≤ 4 := hD.1.1.1.2
  have hN : mm.1 6 (mm.2.2 0) 14 = nI nm := hD.1.1.2.1.1
  have hm4 : nm ≤ 4 := hD.1.1.2.1.2
  obtain ⟨R, eR⟩ : ∃ R, R = cl_cheapest mm s w := ⟨_, rfl⟩
  replace h : RUN P_X11_cheapest (fun r m' => (r, m') = cl_cheapest mm s w) X := h
  rw [← eR] at h
  unfold cl_cheapest at eR
  rw [hN, nI_clamp (show nm < 2 ^ 31 by omega)] at eR
  have loop : ∀ k d best bw M, d + k = nm → VD M ns nm nt → R = cl_ch1 (cl_chL s w k d best bw M) → X 28 [some (vR 11 0), some (vI (s)), some (vI (w)), some (vI (best)), some (vI (bw)), some (vI (nI d))] [] (M) := by
    intro k
    induction k with
    | zero =>
      intro d best bw M hd hM hR
      have hd2 : d = nm := by omega
      have e14 : M.1 6 (M.2.2 0) 14 = nI nm := hM.1.1.2.1.1
      rw [cl_chL] at hR
      show X 28 [some (vR 11 0), some (vI s), some (vI w), some (vI best), some (vI bw), some (vI (nI d))] [] M
      refine h (fun _ => false) 3000 28 _ _ _ ?_
      refine br_t (show M.1 6 (M.2.2 0) 14 ≤ nI d from by rw [e14, hd2]; exact Int32.le_refl _) ?_
      refine And.intro (show Pre_X11_answerOrNone M [vR 11 0, vI best] from ⟨_, rfl⟩) ?_
      show ((some (vI (if best < 0 then -1 else best)) : Option MV), stC M (if best < 0 then 6 else 0)) = _
      exact hR.symm
    | succ k ih =>
      intro d best bw M hd hM hR
      have e14 : M.1 6 (M.2.2 0) 14 = nI nm := hM.1.1.2.1.1
      rw [cl_chL] at hR
      have hq := VD_ps (s := s) (d := nI d) (w := w) hM
      obtain ⟨q, eq⟩ : ∃ q, q = cl_ps M s (nI d) w := ⟨_, rfl⟩
      rw [← eq] at hR hq
      have s52 : ∀ be b2, R = cl_ch1 (cl_chL s w k (d + 1) be b2 q.2) → X 52 [some (vR 11 0), some (vI (s)), some (vI (w)), some (vI (be)), some (vI (b2)), some (vI (nI d))] [] (q.2) := by
        intro be b2 hR'
        have z := ih (d + 1) be b2 q.2 (by omega) hq hR'
        show X 52 [some (vR 11 0), some (vI s), some (vI w), some (vI be), some (vI b2), some (vI (nI d))] [] q.2
        refine h (fun i => Nat.beq i 28) 3000 52 _ _ _ ?_
        show X 28 [some (vR 11 0), some (vI s), some (vI w), some (vI be), some (vI b2), some (vI ((nI d) + 1))] [] q.2
        rw [nI_1]
        exact z
      have s38 : X 38 [some (vR 11 0), some (vI (s)), some (vI (w)), some (vI (best)), some (vI (bw)), some (vI (nI d))] [vI (bI (q.1 = 0))] (q.2) := by
        show X 38 [some (vR 11 0), some (vI s), some (vI w), some (vI best), some (vI bw), some (vI (nI d))] [vI (bI (q.1 = 0))] q.2
        refine h (fun i => Nat.beq i 52) 3000 38 _ _ _ ?_
        refine br_c (fun b38 => ?_) (fun b38 => ?_)
        · -- 38: bI (q.1 = 0) = 0 taken
          replace b38 : ¬ (q.1 = 0) := bI_0.mp b38
          show X 52 [some (vR 11 0), some (vI s), some (vI w), some (vI best), some (vI bw), some (vI (nI d))] [] q.2
          rw [if_neg b38] at hR
          exact s52 _ _ hR
        · -- 38: bI (q.1 = 0) = 0 on
          replace b38 : q.1 = 0 := bI_n0.mp b38
          refine br_c (fun b40 => ?_) (fun b40 => ?_)
          · -- 40: best < 0 taken
            replace b40 : best < 0 := b40
            show X 52 [some (vR 11 0), some (vI s), some (vI w), some (vI (nI d)), some (vI ((q.2).1 3 0 12)), some (vI (nI d))] [] q.2
            rw [if_pos b38, if_pos b40] at hR
            exact s52 _ _ hR
          · -- 40: best < 0 on
            replace b40 : ¬ (best < 0) := b40
            refine br_c (fun b45 => ?_) (fun b45 => ?_)
            · -- 45: bw ≤ (q.2).1 3 0 12 taken
              replace b45 : bw ≤ (q.2).1 3 0 12 := b45
              show X 52 [some (vR 11 0), some (vI s), some (vI w), some (vI best), some (vI bw), some (vI (nI d))] [] q.2
              rw [if_pos b38, if_neg b40, if_pos b45] at hR
              exact s52 _ _ hR
            · -- 45: bw ≤ (q.2).1 3 0 12 on
              replace b45 : ¬ (bw ≤ (q.2).1 3 0 12) := b45
              show X 52 [some (vR 11 0), some (vI s), some (vI w), some (vI (nI d)), some (vI ((q.2).1 3 0 12)), some (vI (nI d))] [] q.2
              rw [if_pos b38, if_neg b40, if_neg b45] at hR
              exact s52 _ _ hR
      show X 28 [some (vR 11 0), some (vI s), some (vI w), some (vI best), some (vI bw), some (vI (nI d))] [] M
      refine h (fun i => Nat.beq i 38) 3000 28 _ _ _ ?_
      refine br_f (show ¬ (M.1 6 (M.2.2 0) 14 ≤ nI d) from by rw [e14]; exact nI_ge (by omega) (by omega)) ?_
      refine And.intro (show Pre_X11_canPlan M [vR 11 0, vI s, vI (nI d), vI w] from ⟨ns, nm, nt, hM, s, nI d, w, rfl⟩) ?_
      show X 38 [some (vR 11 0), some (vI s), some (vI w), some (vI best), some (vI bw), some (vI (nI d))] [vI (bI ((cl_ps M s (nI d) w).1 = 0))] ((cl_ps M s (nI d) w).2)
      rw [← eq]
      exact s38
  show X 0 [some (vR 11 0), some (vI s), some (vI w), none, none, none] [] mm
  refine h (fun i => Nat.beq i 28) 3000 0 _ _ _ ?_
  refine And.intro (show Pre_X11_isOut mm [vI s, vI (mm.1 6 (mm.2.2 0) 13)] from ⟨_, _, rfl⟩) ?_
  refine brn_c (fun b5 => ?_) (fun b5 => ?_)
  · -- 5: bI (s < 0 ∨ (mm.1 6 (mm.2.2 0) 13) ≤ s) = 0 taken
    replace b5 : s < 0 ∨ (mm.1 6 (mm.2.2 0) 13) ≤ s := bI_n0.mp b5
    refine And.intro (show Pre_X11_refuse mm [vR 11 0, vI 1] from ⟨_, rfl⟩) ?_
    show ((some (vI (-1)) : Option MV), stC mm 1) = _
    rw [eR, if_pos b5]
    rfl
  · -- 5: bI (s < 0 ∨ (mm.1 6 (mm.2.2 0) 13) ≤ s) = 0 on
    replace b5 : ¬ (s < 0 ∨ (mm.1 6 (mm.2.2 0) 13) ≤ s) := bI_0.mp b5
    obtain ⟨i, hi, ex⟩ := ou_in hS (by omega) b5
    refine And.intro (show Pre_X11_isNoTime mm [vI w] from ⟨_, rfl⟩) ?_
    refine br_c (fun b8 => ?_) (fun b8 => ?_)
    · -- 8: bI (w < 0 ∨ 99 < w) = 0 taken
      replace b8 : ¬ (w < 0 ∨ 99 < w) := bI_0.mp b8
      refine And.intro (show Pre_X6_isWed mm [vR 6 (mm.2.2 0), vI s] from ⟨_, ns, nm, nt, i, hD.1, by omega, by rw [ex]⟩) ?_
      refine br_c (fun b17 => ?_) (fun b17 => ?_)
      · -- 17: bI (¬ abV mm (mm.2.2 0) (15 + 4 * s.toNatClampNeg) = -1) = 0 taken
        replace b17 : ¬ (¬ abV mm (mm.2.2 0) (15 + 4 * s.toNatClampNeg) = -1) := bI_0.mp b17
        show X 28 [some (vR 11 0), some (vI s), some (vI w), some (vI (-1)), some (vI 0), some (vI 0)] [] mm
        rw [if_neg b5, if_neg b8, if_neg b17] at eR
        exact loop nm 0 _ _ mm (by omega) hD eR
      · -- 17: bI (¬ abV mm (mm.2.2 0) (15 + 4 * s.toNatClampNeg) = -1) = 0 on
        replace b17 : ¬ abV mm (mm.2.2 0) (15 + 4 * s.toNatClampNeg) = -1 := bI_n0.mp b17
        refine And.intro (show Pre_X11_refuse mm [vR 11 0, vI 7] from ⟨_, rfl⟩) ?_
        show ((some (vI (-1)) : Option MV), stC mm 7) = _
        rw [eR, if_neg b5, if_neg b8, if_pos b17]
        rfl
    · -- 8: bI (w < 0 ∨ 99 < w) = 0 on
      replace b8 : w < 0 ∨ 99 < w := bI_n0.mp b8
      refine And.intro (show Pre_X11_refuse mm [vR 11 0, vI 1] from ⟨_, rfl⟩) ?_
      show ((some (vI (-1)) : Option MV), stC mm 1) = _
      rw [eR, if_neg b5, if_pos b8]
      rfl
theorem con_X11_cheapest (l : Launch) : CON l y_X11_cheapest prog_1_method_43_code 6 (some .int) rm_X11_cheapest Pre_X11_cheapest Fn_X11_cheapest := CON_of (by decide) rfl rfl (sa_X11_cheapest l) vc_X11_cheapest
def cl_wiL (s w : Int32) : Nat → Nat → Int32 → MM → Int32 × MM
  | 0, _, set, m => (set, m)
  | k + 1, d, set, m => cl_wiL s w k (d + 1) (if (cl_ps m s (nI d) w).1 = 0 then set ||| 1 <<< (nI d &&& 31) else set) (cl_ps m s (nI d) w).2
def cl_wi1 (q : Int32 × MM) : Option MV × MM := gvC q.2 q.1
def cl_within (m : MM) (s w : Int32) : Option MV × MM := if s < 0 ∨ m.1 6 (m.2.2 0) 13 ≤ s then rfC m 1 else if w < 0 ∨ 99 < w then rfC m 1 else if ¬ abV m (m.2.2 0) (15 + 4 * s.toNatClampNeg) = -1 then rfC m 7 else cl_wi1 (cl_wiL s w (m.1 6 (m.2.2 0) 14).toNatClampNeg 0 0 m)

def Pre_X11_within : PreT := fun m as => ∃ ns nm nt, VD m ns nm nt ∧ ∃ s w : Int32, as = [vR 11 0, vI s, vI w]
def Fn_X11_within : FnT := fun m as => match as with
  | [_, Sum.inl s, Sum.inl w] => cl_within m s w
  | _ => (none, m)
abbrev y_X11_within : MethodName := ⟨"GivenUp", "within", "(II)I"⟩
def P_X11_within : List StpT := [s_iload 1, s_aload 0, s_getD 11 12 6 0, s_getI 6 13, s_callS 2 Pre_X11_isOut Fn_X11_isOut, s_ifne 9, s_iload 2, s_callS 1 Pre_X11_isNoTime Fn_X11_isNoTime, s_ifeq 13, s_aload 0, s_ic (1), s_callV 11 1 Pre_X11_refuse Fn_X11_refuse, s_iret, s_aload 0, s_getD 11 12 6 0, s_iload 1, s_callV 6 1 Pre_X6_isWed Fn_X6_isWed, s_ifeq 22, s_aload 0, s_ic (7), s_callV 11 1 Pre_X11_refuse Fn_X11_refuse, s_iret, s_ic (0), s_istore 3, s_ic (0), s_istore 4, s_iload 4, s_aload 0, s_getD 11 12 6 0, s_getI 6 14, s_icge 45, s_aload 0, s_iload 1, s_iload 4, s_iload 2, s_callV 11 3 Pre_X11_canPlan Fn_X11_canPlan, s_ifeq 43, s_iload 3, s_ic (1), s_iload 4, s_ishl, s_ior, s_istore 3, s_iinc 4 (1), s_goto 26, s_aload 0, s_iload 3, s_callV 11 1 Pre_X11_answer Fn_X11_answer, s_iret]
def pc_X11_within : Nat → Nat := fun i => [0, 1, 2, 5, 8, 11, 14, 15, 18, 21, 22, 23, 26, 27, 28, 31, 32, 35, 38, 39, 41, 44, 45, 46, 47, 48, 50, 52, 53, 56, 59, 62, 63, 64, 66, 67, 70, 73, 74, 75, 77, 78, 79, 80, 83, 86, 87, 88, 91].getD i 0
def dl_X11_within : List (Nat × Instr × Nat) := [(0, .iload_n 1, 1), (1, .aload_n 0, 1), (2, .getfield 87, 3), (5, .getfield 197, 3), (8, .invokestatic 115, 3), (11, .ifCond .ne 10, 3), (14, .iload_n 2, 1), (15, .invokestatic 360, 3), (18, .ifCond .eq 9, 3), (21, .aload_n 0, 1), (22, .iconst 1, 1), (23, .invokevirtual 139, 3), (26, .ireturn, 1), (27, .aload_n 0, 1), (28, .getfield 87, 3), (31, .iload_n 1, 1), (32, .invokevirtual 363, 3), (35, .ifCond .eq 10, 3), (38, .aload_n 0, 1), (39, .bipush 7, 2), (41, .invokevirtual 139, 3), (44, .ireturn, 1), (45, .iconst 0, 1), (46, .istore_n 3, 1), (47, .iconst 0, 1), (48, .istore 4, 2), (50, .iload 4, 2), (52, .aload_n 0, 1), (53, .getfield 87, 3), (56, .getfield 200, 3), (59, .if_icmp .ge 27, 3), (62, .aload_n 0, 1), (63, .iload_n 1, 1), (64, .iload 4, 2), (66, .iload_n 2, 1), (67, .invokevirtual 379, 3), (70, .ifCond .eq 10, 3), (73, .iload_n 3, 1), (74, .iconst 1, 1), (75, .iload 4, 2), (77, .ishl, 1), (78, .ior, 1), (79, .istore_n 3, 1), (80, .iinc 4 1, 3), (83, .goto (-33), 3), (86, .aload_n 0, 1), (87, .iload_n 3, 1), (88, .invokevirtual 178, 3), (91, .ireturn, 1)]
theorem dc_X11_within : DEC prog_1_method_44_code pc_X11_within dl_X11_within := DEC_of (by decide +kernel)
abbrev rm_X11_within : Room := { frames := 19, cells := 0, slots := 0, locals := 482 }
set_option maxRecDepth 20000 in
theorem sa_X11_within (l : Launch) : SNDALL l prog_1_method_44_code "GivenUp" 5 (some .int) rm_X11_within P_X11_within pc_X11_within := fun p e s m args below meth c cells slots Q D dA ad A RR hC hR => by
  have hM := RTX_room (R := rm_X11_within) hR
  exact ⟨st_iload_n hC (n := 0) (k := 1) (dc_X11_within 0 (0, .iload_n 1, 1) rfl rfl) rfl rfl,
    st_aload_n hC (n := 1) (k := 0) (dc_X11_within 1 (1, .aload_n 0, 1) rfl rfl) rfl rfl,
    st_getD hC (n := 2) (k := 11) (j := 12) (dc_X11_within 2 (2, .getfield 87, 3) rfl rfl) rfl clf_11 (by decide) rfl (by decide) wd_723,
    st_getI hC (n := 3) (k := 6) (j := 13) (dc_X11_within 3 (5, .getfield 197, 3) rfl rfl) rfl clf_6 (by decide) rfl wd_622,
    st_callS hC (n := 4) (na := 2) (con_X11_isOut l) (dc_X11_within 4 (8, .invokestatic 115, 3) rfl rfl) rfl wd_790 wd_143 (by decide) ⟨rfl, rfl, by decide, by decide⟩ hM wd_788 wd_789,
    st_ifne hC (n := 5) (dc_X11_within 5 (11, .ifCond .ne 10, 3) rfl rfl) rfl (by decide),
    st_iload_n hC (n := 6) (k := 2) (dc_X11_within 6 (14, .iload_n 2, 1) rfl rfl) rfl rfl,
    st_callS hC (n := 7) (na := 1) (con_X11_isNoTime l) (dc_X11_within 7 (15, .invokestatic 360, 3) rfl rfl) rfl wd_1271 wd_143 (by decide) ⟨rfl, rfl, by decide, by decide⟩ hM wd_1269 wd_1270,
    st_ifeq hC (n := 8) (dc_X11_within 8 (18, .ifCond .eq 9, 3) rfl rfl) rfl (by decide),
    st_aload_n hC (n := 9) (k := 0) (dc_X11_within 9 (21, .aload_n 0, 1) rfl rfl) rfl rfl,
    st_iconst hC (n := 10) (x := 1) (dc_X11_within 10 (22, .iconst 1, 1) rfl rfl) rfl (by decide),
    st_callV hC (n := 11) (k := 11) (na := 1) (con_X11_refuse l) (dc_X11_within 11 (23, .invokevirtual 139, 3) rfl rfl) rfl wd_824 wd_143 (by decide) ⟨rfl, rfl, by decide, by decide⟩ hM wd_821 wd_823 wd_3 clf_11,
    st_iret hC (n := 12) hR (dc_X11_within 12 (26, .ireturn, 1) rfl rfl),
    st_aload_n hC (n := 13) (k := 0) (dc_X11_within 13 (27, .aload_n 0, 1) rfl rfl) rfl rfl,
    st_getD hC (n := 14) (k := 11) (j := 12) (dc_X11_within 14 (28, .getfield 87, 3) rfl rfl) rfl clf_11 (by decide) rfl (by decide) wd_723,
    st_iload_n hC (n := 15) (k := 1) (dc_X11_within 15 (31, .iload_n 1, 1) rfl rfl) rfl rfl,
    st_callV hC (n := 16) (k := 6) (na := 1) (con_X6_isWed l) (dc_X11_within 16 (32, .invokevirtual 363, 3) rfl rfl) rfl wd_1023 wd_155 (by decide) ⟨rfl, rfl, by decide, by decide⟩ hM wd_1272 wd_1021 wd_1022 clf_6,
    st_ifeq hC (n := 17) (dc_X11_within 17 (35, .ifCond .eq 10, 3) rfl rfl) rfl (by decide),
    st_aload_n hC (n := 18) (k := 0) (dc_X11_within 18 (38, .aload_n 0, 1) rfl rfl) rfl rfl,
    st_bipush hC (n := 19) (x := 7) (dc_X11_within 19 (39, .bipush 7, 2) rfl rfl) rfl (by decide),
    st_callV hC (n := 20) (k := 11) (na := 1) (con_X11_refuse l) (dc_X11_within 20 (41, .invokevirtual 139, 3) rfl rfl) rfl wd_824 wd_143 (by decide) ⟨rfl, rfl, by decide, by decide⟩ hM wd_821 wd_823 wd_3 clf_11,
    st_iret hC (n := 21) hR (dc_X11_within 21 (44, .ireturn, 1) rfl rfl),
    st_iconst hC (n := 22) (x := 0) (dc_X11_within 22 (45, .iconst 0, 1) rfl rfl) rfl (by decide),
    st_istore_n hC (n := 23) (k := 3) (dc_X11_within 23 (46, .istore_n 3, 1) rfl rfl) rfl rfl (by decide),
    st_iconst hC (n := 24) (x := 0) (dc_X11_within 24 (47, .iconst 0, 1) rfl rfl) rfl (by decide),
    st_istore hC (n := 25) (dc_X11_within 25 (48, .istore 4, 2) rfl rfl) rfl (by decide),
    st_iload hC (n := 26) (dc_X11_within 26 (50, .iload 4, 2) rfl rfl) rfl,
    st_aload_n hC (n := 27) (k := 0) (dc_X11_within 27 (52, .aload_n 0, 1) rfl rfl) rfl rfl,
    st_getD hC (n := 28) (k := 11) (j := 12) (dc_X11_within 28 (53, .getfield 87, 3) rfl rfl) rfl clf_11 (by decide) rfl (by decide) wd_723,
    st_getI hC (n := 29) (k := 6) (j := 14) (dc_X11_within 29 (56, .getfield 200, 3) rfl rfl) rfl clf_6 (by decide) rfl wd_628,
    st_icge hC (n := 30) (dc_X11_within 30 (59, .if_icmp .ge 27, 3) rfl rfl) rfl (by decide),
    st_aload_n hC (n := 31) (k := 0) (dc_X11_within 31 (62, .aload_n 0, 1) rfl rfl) rfl rfl,
    st_iload_n hC (n := 32) (k := 1) (dc_X11_within 32 (63, .iload_n 1, 1) rfl rfl) rfl rfl,
    st_iload hC (n := 33) (dc_X11_within 33 (64, .iload 4, 2) rfl rfl) rfl,
    st_iload_n hC (n := 34) (k := 2) (dc_X11_within 34 (66, .iload_n 2, 1) rfl rfl) rfl rfl,
    st_callV hC (n := 35) (k := 11) (na := 3) (con_X11_canPlan l) (dc_X11_within 35 (67, .invokevirtual 379, 3) rfl rfl) rfl wd_1333 wd_143 (by decide) ⟨rfl, rfl, by decide, by decide⟩ hM wd_1330 wd_1332 wd_34 clf_11,
    st_ifeq hC (n := 36) (dc_X11_within 36 (70, .ifCond .eq 10, 3) rfl rfl) rfl (by decide),
    st_iload_n hC (n := 37) (k := 3) (dc_X11_within 37 (73, .iload_n 3, 1) rfl rfl) rfl rfl,
    st_iconst hC (n := 38) (x := 1) (dc_X11_within 38 (74, .iconst 1, 1) rfl rfl) rfl (by decide),
    st_iload hC (n := 39) (dc_X11_within 39 (75, .iload 4, 2) rfl rfl) rfl,
    st_ishl hC (n := 40) (dc_X11_within 40 (77, .ishl, 1) rfl rfl) rfl,
    st_ior hC (n := 41) (dc_X11_within 41 (78, .ior, 1) rfl rfl) rfl,
    st_istore_n hC (n := 42) (k := 3) (dc_X11_within 42 (79, .istore_n 3, 1) rfl rfl) rfl rfl (by decide),
    st_iinc hC (n := 43) (x := 1) (dc_X11_within 43 (80, .iinc 4 1, 3) rfl rfl) rfl (by decide) (by decide),
    st_goto hC (n := 44) (dc_X11_within 44 (83, .goto (-33), 3) rfl rfl) (by decide),
    st_aload_n hC (n := 45) (k := 0) (dc_X11_within 45 (86, .aload_n 0, 1) rfl rfl) rfl rfl,
    st_iload_n hC (n := 46) (k := 3) (dc_X11_within 46 (87, .iload_n 3, 1) rfl rfl) rfl rfl,
    st_callV hC (n := 47) (k := 11) (na := 1) (con_X11_answer l) (dc_X11_within 47 (88, .invokevirtual 178, 3) rfl rfl) rfl wd_967 wd_143 (by decide) ⟨rfl, rfl, by decide, by decide⟩ hM wd_964 wd_966 wd_17 clf_11,
    st_iret hC (n := 48) hR (dc_X11_within 48 (91, .ireturn, 1) rfl rfl), trivial⟩
set_option maxRecDepth 8000 in
theorem vc_X11_within : VC P_X11_within 5 Pre_X11_within Fn_X11_within := by
  rintro mm as hom hoa ⟨ns, nm, nt, hD, s, w, rfl⟩
  refine ⟨Nat.le_of_ble_eq_true rfl, fun X h => ?_⟩
  have hS : mm.1 6 (mm.2.2 0) 13 = nI ns := hD.1.1.1.1
  have hn4 : ns ≤ 4 := hD.1.1.1.2
  have hN : mm.1 6 (mm.2.2 0) 14 = nI nm := hD.1.1.2.1.1
  have hm4 : nm ≤ 4 := hD.1.1.2.1.2
  obtain ⟨R, eR⟩ : ∃ R, R = cl_within mm s w := ⟨_, rfl⟩
  replace h : RUN P_X11_within (fun r m' => (r, m') = cl_within mm s w) X := h
  rw [← eR] at h
  unfold cl_within at eR
  rw [hN, nI_clamp (show nm < 2 ^ 31 by omega)] at eR
  have loop : ∀ k d set M, d + k = nm → VD M ns nm nt → R = cl_wi1 (cl_wiL s w k d set M) → X 26 [some (vR 11 0), some (vI (s)), some (vI (w)), some (vI (set)), some (vI (nI d))] [] (M) := by
    intro k
    induction k with
    | zero =>
      intro d set M hd hM hR
      have hd2 : d = nm := by omega
      have e14 : M.1 6 (M.2.2 0) 14 = nI nm := hM.1.1.2.1.1
      rw [cl_wiL] at hR
      show X 26 [some (vR 11 0), some (vI s), some (vI w), some (vI set), some (vI (nI d))] [] M
      refine h (fun _ => false) 3000 26 _ _ _ ?_
      refine br_t (show M.1 6 (M.2.2 0) 14 ≤ nI d from by rw [e14, hd2]; exact Int32.le_refl _) ?_
      refine And.intro (show Pre_X11_answer M [vR 11 0, vI set] from ⟨_, rfl⟩) ?_
      show ((some (vI set) : Option MV), stC M 0) = _
      exact hR.symm
    | succ k ih =>
      intro d set M hd hM hR
      have e14 : M.1 6 (M.2.2 0) 14 = nI nm := hM.1.1.2.1.1
      rw [cl_wiL] at hR
      have hq := VD_ps (s := s) (d := nI d) (w := w) hM
      obtain ⟨q, eq⟩ : ∃ q, q = cl_ps M s (nI d) w := ⟨_, rfl⟩
      rw [← eq] at hR hq
      have s43 : ∀ se, R = cl_wi1 (cl_wiL s w k (d + 1) se q.2) → X 43 [some (vR 11 0), some (vI (s)), some (vI (w)), some (vI (se)), some (vI (nI d))] [] (q.2) := by
        intro se hR'
        have z := ih (d + 1) se q.2 (by omega) hq hR'
        show X 43 [some (vR 11 0), some (vI s), some (vI w), some (vI se), some (vI (nI d))] [] q.2
        refine h (fun i => Nat.beq i 26) 3000 43 _ _ _ ?_
        show X 26 [some (vR 11 0), some (vI s), some (vI w), some (vI se), some (vI ((nI d) + 1))] [] q.2
        rw [nI_1]
        exact z
      have s36 : X 36 [some (vR 11 0), some (vI (s)), some (vI (w)), some (vI (set)), some (vI (nI d))] [vI (bI (q.1 = 0))] (q.2) := by
        show X 36 [some (vR 11 0), some (vI s), some (vI w), some (vI set), some (vI (nI d))] [vI (bI (q.1 = 0))] q.2
        refine h (fun i => Nat.beq i 43) 3000 36 _ _ _ ?_
        refine br_c (fun b36 => ?_) (fun b36 => ?_)
        · -- 36: bI (q.1 = 0) = 0 taken
          replace b36 : ¬ (q.1 = 0) := bI_0.mp b36
          show X 43 [some (vR 11 0), some (vI s), some (vI w), some (vI set), some (vI (nI d))] [] q.2
          rw [if_neg b36] at hR
          exact s43 _ hR
        · -- 36: bI (q.1 = 0) = 0 on
          replace b36 : q.1 = 0 := bI_n0.mp b36
          show X 43 [some (vR 11 0), some (vI s), some (vI w), some (vI (set ||| (1 <<< ((nI d) &&& 31)))), some (vI (nI d))] [] q.2
          rw [if_pos b36] at hR
          exact s43 _ hR
      show X 26 [some (vR 11 0), some (vI s), some (vI w), some (vI set), some (vI (nI d))] [] M
      refine h (fun i => Nat.beq i 36) 3000 26 _ _ _ ?_
      refine br_f (show ¬ (M.1 6 (M.2.2 0) 14 ≤ nI d) from by rw [e14]; exact nI_ge (by omega) (by omega)) ?_
      refine And.intro (show Pre_X11_canPlan M [vR 11 0, vI s, vI (nI d), vI w] from ⟨ns, nm, nt, hM, s, nI d, w, rfl⟩) ?_
      show X 36 [some (vR 11 0), some (vI s), some (vI w), some (vI set), some (vI (nI d))] [vI (bI ((cl_ps M s (nI d) w).1 = 0))] ((cl_ps M s (nI d) w).2)
      rw [← eq]
      exact s36
  show X 0 [some (vR 11 0), some (vI s), some (vI w), none, none] [] mm
  refine h (fun i => Nat.beq i 26) 3000 0 _ _ _ ?_
  refine And.intro (show Pre_X11_isOut mm [vI s, vI (mm.1 6 (mm.2.2 0) 13)] from ⟨_, _, rfl⟩) ?_
  refine brn_c (fun b5 => ?_) (fun b5 => ?_)
  · -- 5: bI (s < 0 ∨ (mm.1 6 (mm.2.2 0) 13) ≤ s) = 0 taken
    replace b5 : s < 0 ∨ (mm.1 6 (mm.2.2 0) 13) ≤ s := bI_n0.mp b5
    refine And.intro (show Pre_X11_refuse mm [vR 11 0, vI 1] from ⟨_, rfl⟩) ?_
    show ((some (vI (-1)) : Option MV), stC mm 1) = _
    rw [eR, if_pos b5]
    rfl
  · -- 5: bI (s < 0 ∨ (mm.1 6 (mm.2.2 0) 13) ≤ s) = 0 on
    replace b5 : ¬ (s < 0 ∨ (mm.1 6 (mm.2.2 0) 13) ≤ s) := bI_0.mp b5
    obtain ⟨i, hi, ex⟩ := ou_in hS (by omega) b5
    refine And.intro (show Pre_X11_isNoTime mm [vI w] from ⟨_, rfl⟩) ?_
    refine br_c (fun b8 => ?_) (fun b8 => ?_)
    · -- 8: bI (w < 0 ∨ 99 < w) = 0 taken
      replace b8 : ¬ (w < 0 ∨ 99 < w) := bI_0.mp b8
      refine And.intro (show Pre_X6_isWed mm [vR 6 (mm.2.2 0), vI s] from ⟨_, ns, nm, nt, i, hD.1, by omega, by rw [ex]⟩) ?_
      refine br_c (fun b17 => ?_) (fun b17 => ?_)
      · -- 17: bI (¬ abV mm (mm.2.2 0) (15 + 4 * s.toNatClampNeg) = -1) = 0 taken
        replace b17 : ¬ (¬ abV mm (mm.2.2 0) (15 + 4 * s.toNatClampNeg) = -1) := bI_0.mp b17
        show X 26 [some (vR 11 0), some (vI s), some (vI w), some (vI 0), some (vI 0)] [] mm
        rw [if_neg b5, if_neg b8, if_neg b17] at eR
        exact loop nm 0 _ mm (by omega) hD eR
      · -- 17: bI (¬ abV mm (mm.2.2 0) (15 + 4 * s.toNatClampNeg) = -1) = 0 on
        replace b17 : ¬ abV mm (mm.2.2 0) (15 + 4 * s.toNatClampNeg) = -1 := bI_n0.mp b17
        refine And.intro (show Pre_X11_refuse mm [vR 11 0, vI 7] from ⟨_, rfl⟩) ?_
        show ((some (vI (-1)) : Option MV), stC mm 7) = _
        rw [eR, if_neg b5, if_neg b8, if_pos b17]
        rfl
    · -- 8: bI (w < 0 ∨ 99 < w) = 0 on
      replace b8 : w < 0 ∨ 99 < w := bI_n0.mp b8
      refine And.intro (show Pre_X11_refuse mm [vR 11 0, vI 1] from ⟨_, rfl⟩) ?_
      show ((some (vI (-1)) : Option MV), stC mm 1) = _
      rw [eR, if_neg b5, if_pos b8]
      rfl
theorem con_X11_within (l : Launch) : CON l y_X11_within prog_1_method_44_code 5 (some .int) rm_X11_within Pre_X11_within Fn_X11_within := CON_of (by decide) rfl rfl (sa_X11_within l) vc_X11_within
def cl_vg1 (m : MM) (x : Int32) : Option MV × MM := gvC m (if x = 0 then m.1 8 0 4 else m.1 8 0 5)
def cl_village (m : MM) (w x : Int32) : Option MV × MM := if w < 0 ∨ 99 < w then rfC m 1 else if x < 0 then rfC m 1 else if x ≤ 1 then cl_vg1 (vgM m (m.2.2 0) w) x else rfC m 1

def Pre_X11_village : PreT := fun m as => ∃ ns nm nt, VD m ns nm nt ∧ ∃ w x : Int32, as = [vR 11 0, vI w, vI x]
def Fn_X11_village : FnT := fun m as => match as with
  | [_, Sum.inl w, Sum.inl x] => cl_village m w x
  | _ => (none, m)
abbrev y_X11_village : MethodName := ⟨"GivenUp", "village", "(II)I"⟩
def P_X11_village : List StpT := [s_iload 1, s_callS 1 Pre_X11_isNoTime Fn_X11_isNoTime, s_ifne 8, s_iload 2, s_iflt 8, s_iload 2, s_ic (1), s_icle 12, s_aload 0, s_ic (1), s_callV 11 1 Pre_X11_refuse Fn_X11_refuse, s_iret, s_aload 0, s_getC 11 6 8 0, s_aload 0, s_getD 11 12 6 0, s_iload 1, s_callV 8 2 Pre_X8_settle Fn_X8_settle, s_aload 0, s_iload 2, s_ifne 25, s_aload 0, s_getC 11 6 8 0, s_getI 8 4, s_goto 28, s_aload 0, s_getC 11 6 8 0, s_getI 8 5, s_callV 11 1 Pre_X11_answer Fn_X11_answer, s_iret]
def pc_X11_village : Nat → Nat := fun i => [0, 1, 4, 7, 8, 11, 12, 13, 16, 17, 18, 21, 22, 23, 26, 27, 30, 31, 34, 35, 36, 39, 40, 43, 46, 49, 50, 53, 56, 59].getD i 0
def dl_X11_village : List (Nat × Instr × Nat) := [(0, .iload_n 1, 1), (1, .invokestatic 360, 3), (4, .ifCond .ne 12, 3), (7, .iload_n 2, 1), (8, .ifCond .lt 8, 3), (11, .iload_n 2, 1), (12, .iconst 1, 1), (13, .if_icmp .le 9, 3), (16, .aload_n 0, 1), (17, .iconst 1, 1), (18, .invokevirtual 139, 3), (21, .ireturn, 1), (22, .aload_n 0, 1), (23, .getfield 56, 3), (26, .aload_n 0, 1), (27, .getfield 87, 3), (30, .iload_n 1, 1), (31, .invokevirtual 383, 3), (34, .aload_n 0, 1), (35, .iload_n 2, 1), (36, .ifCond .ne 13, 3), (39, .aload_n 0, 1), (40, .getfield 56, 3), (43, .getfield 387, 3), (46, .goto 10, 3), (49, .aload_n 0, 1), (50, .getfield 56, 3), (53, .getfield 389, 3), (56, .invokevirtual 178, 3), (59, .ireturn, 1)]
theorem dc_X11_village : DEC prog_1_method_45_code pc_X11_village dl_X11_village := DEC_of (by decide +kernel)
abbrev rm_X11_village : Room := { frames := 19, cells := 0, slots := 0, locals := 485 }
set_option maxRecDepth 20000 in
theorem sa_X11_village (l : Launch) : SNDALL l prog_1_method_45_code "GivenUp" 3 (some .int) rm_X11_village P_X11_village pc_X11_village := fun p e s m args below meth c cells slots Q D dA ad A RR hC hR => by
  have hM := RTX_room (R := rm_X11_village) hR
  exact ⟨st_iload_n hC (n := 0) (k := 1) (dc_X11_village 0 (0, .iload_n 1, 1) rfl rfl) rfl rfl,
    st_callS hC (n := 1) (na := 1) (con_X11_isNoTime l) (dc_X11_village 1 (1, .invokestatic 360, 3) rfl rfl) rfl wd_1271 wd_143 (by decide) ⟨rfl, rfl, by decide, by decide⟩ hM wd_1269 wd_1270,
    st_ifne hC (n := 2) (dc_X11_village 2 (4, .ifCond .ne 12, 3) rfl rfl) rfl (by decide),
    st_iload_n hC (n := 3) (k := 2) (dc_X11_village 3 (7, .iload_n 2, 1) rfl rfl) rfl rfl,
    st_iflt hC (n := 4) (dc_X11_village 4 (8, .ifCond .lt 8, 3) rfl rfl) rfl (by decide),
    st_iload_n hC (n := 5) (k := 2) (dc_X11_village 5 (11, .iload_n 2, 1) rfl rfl) rfl rfl,
    st_iconst hC (n := 6) (x := 1) (dc_X11_village 6 (12, .iconst 1, 1) rfl rfl) rfl (by decide),
    st_icle hC (n := 7) (dc_X11_village 7 (13, .if_icmp .le 9, 3) rfl rfl) rfl (by decide),
    st_aload_n hC (n := 8) (k := 0) (dc_X11_village 8 (16, .aload_n 0, 1) rfl rfl) rfl rfl,
    st_iconst hC (n := 9) (x := 1) (dc_X11_village 9 (17, .iconst 1, 1) rfl rfl) rfl (by decide),
    st_callV hC (n := 10) (k := 11) (na := 1) (con_X11_refuse l) (dc_X11_village 10 (18, .invokevirtual 139, 3) rfl rfl) rfl wd_824 wd_143 (by decide) ⟨rfl, rfl, by decide, by decide⟩ hM wd_821 wd_823 wd_3 clf_11,
    st_iret hC (n := 11) hR (dc_X11_village 11 (21, .ireturn, 1) rfl rfl),
    st_aload_n hC (n := 12) (k := 0) (dc_X11_village 12 (22, .aload_n 0, 1) rfl rfl) rfl rfl,
    st_getC hC (n := 13) (k := 11) (j := 6) (dc_X11_village 13 (23, .getfield 56, 3) rfl rfl) rfl clf_11 (by decide) rfl (by decide) wd_717,
    st_aload_n hC (n := 14) (k := 0) (dc_X11_village 14 (26, .aload_n 0, 1) rfl rfl) rfl rfl,
    st_getD hC (n := 15) (k := 11) (j := 12) (dc_X11_village 15 (27, .getfield 87, 3) rfl rfl) rfl clf_11 (by decide) rfl (by decide) wd_723,
    st_iload_n hC (n := 16) (k := 1) (dc_X11_village 16 (30, .iload_n 1, 1) rfl rfl) rfl rfl,
    st_callV hC (n := 17) (k := 8) (na := 2) (con_X8_settle l) (dc_X11_village 17 (31, .invokevirtual 383, 3) rfl rfl) rfl wd_1345 wd_152 (by decide) ⟨rfl, rfl, by decide, by decide⟩ hM wd_1342 wd_1343 wd_1344 clf_8,
    st_aload_n hC (n := 18) (k := 0) (dc_X11_village 18 (34, .aload_n 0, 1) rfl rfl) rfl rfl,
    st_iload_n hC (n := 19) (k := 2) (dc_X11_village 19 (35, .iload_n 2, 1) rfl rfl) rfl rfl,
    st_ifne hC (n := 20) (dc_X11_village 20 (36, .ifCond .ne 13, 3) rfl rfl) rfl (by decide),
    st_aload_n hC (n := 21) (k := 0) (dc_X11_village 21 (39, .aload_n 0, 1) rfl rfl) rfl rfl,
    st_getC hC (n := 22) (k := 11) (j := 6) (dc_X11_village 22 (40, .getfield 56, 3) rfl rfl) rfl clf_11 (by decide) rfl (by decide) wd_717,
    st_getI hC (n := 23) (k := 8) (j := 4) (dc_X11_village 23 (43, .getfield 387, 3) rfl rfl) rfl clf_8 (by decide) rfl wd_382,
    st_goto hC (n := 24) (dc_X11_village 24 (46, .goto 10, 3) rfl rfl) (by decide),
    st_aload_n hC (n := 25) (k := 0) (dc_X11_village 25 (49, .aload_n 0, 1) rfl rfl) rfl rfl,
    st_getC hC (n := 26) (k := 11) (j := 6) (dc_X11_village 26 (50, .getfield 56, 3) rfl rfl) rfl clf_11 (by decide) rfl (by decide) wd_717,
    st_getI hC (n := 27) (k := 8) (j := 5) (dc_X11_village 27 (53, .getfield 389, 3) rfl rfl) rfl clf_8 (by decide) rfl wd_384,
    st_callV hC (n := 28) (k := 11) (na := 1) (con_X11_answer l) (dc_X11_village 28 (56, .invokevirtual 178, 3) rfl rfl) rfl wd_967 wd_143 (by decide) ⟨rfl, rfl, by decide, by decide⟩ hM wd_964 wd_966 wd_17 clf_11,
    st_iret hC (n := 29) hR (dc_X11_village 29 (59, .ireturn, 1) rfl rfl), trivial⟩
set_option maxRecDepth 8000 in
theorem vc_X11_village : VC P_X11_village 3 Pre_X11_village Fn_X11_village := by
  rintro mm as hom hoa ⟨ns, nm, nt, hD, w, x, rfl⟩
  refine ⟨Nat.le_of_ble_eq_true rfl, fun X h => ?_⟩
  have s18 : ∀ M, cl_village mm w x = cl_vg1 M x → X 18 [some (vR 11 0), some (vI (w)), some (vI (x))] [] (M) := by
    intro M hR
    unfold cl_vg1 at hR
    show X 18 [some (vR 11 0), some (vI w), some (vI x)] [] M
    refine h (fun _ => false) 3000 18 _ _ _ ?_
    refine brn_c (fun b20 => ?_) (fun b20 => ?_)
    · -- 20: x = 0 taken
      replace b20 : ¬ (x = 0) := b20
      refine And.intro (show Pre_X11_answer M [vR 11 0, vI (M.1 8 0 5)] from ⟨_, rfl⟩) ?_
      show ((some (vI (M.1 8 0 5)) : Option MV), stC M 0) = _
      refine Eq.trans ?_ hR.symm
      rw [if_neg b20] 
      rfl
    · -- 20: x = 0 on
      replace b20 : x = 0 := b20
      refine And.intro (show Pre_X11_answer M [vR 11 0, vI (M.1 8 0 4)] from ⟨_, rfl⟩) ?_
      show ((some (vI (M.1 8 0 4)) : Option MV), stC M 0) = _
      refine Eq.trans ?_ hR.symm
      rw [if_pos b20] 
      rfl
  show X 0 [some (vR 11 0), some (vI w), some (vI x)] [] mm
  refine h (fun i => Nat.beq i 18) 3000 0 _ _ _ ?_
  refine And.intro (show Pre_X11_isNoTime mm [vI w] from ⟨_, rfl⟩) ?_
  refine brn_c (fun b2 => ?_) (fun b2 => ?_)
  · -- 2: bI (w < 0 ∨ 99 < w) = 0 taken
    replace b2 : w < 0 ∨ 99 < w := bI_n0.mp b2
    refine And.intro (show Pre_X11_refuse mm [vR 11 0, vI 1] from ⟨_, rfl⟩) ?_
    show ((some (vI (-1)) : Option MV), stC mm 1) = _
    show _ = cl_village mm w x
    unfold cl_village
    (try simp only [if_pos b2])
    all_goals exact rfl
  · -- 2: bI (w < 0 ∨ 99 < w) = 0 on
    replace b2 : ¬ (w < 0 ∨ 99 < w) := bI_0.mp b2
    refine br_c (fun b4 => ?_) (fun b4 => ?_)
    · -- 4: x < 0 taken
      replace b4 : x < 0 := b4
      refine And.intro (show Pre_X11_refuse mm [vR 11 0, vI 1] from ⟨_, rfl⟩) ?_
      show ((some (vI (-1)) : Option MV), stC mm 1) = _
      show _ = cl_village mm w x
      unfold cl_village
      (try simp only [if_neg b2, if_pos b4])
      all_goals exact rfl
    · -- 4: x < 0 on
      replace b4 : ¬ (x < 0) := b4
      refine br_c (fun b7 => ?_) (fun b7 => ?_)
      · -- 7: x ≤ 1 taken
        replace b7 : x ≤ 1 := b7
        refine And.intro (show Pre_X8_settle mm [vR 8 0, vR 6 (mm.2.2 0), vI w] from ⟨_, ns, nm, nt, w, hD.1, hD.2, rfl⟩) ?_
        show X 18 [some (vR 11 0), some (vI w), some (vI x)] [] (vgM mm (mm.2.2 0) w)
        exact s18 _ (by unfold cl_village; rw [if_neg b2, if_neg b4, if_pos b7])
      · -- 7: x ≤ 1 on
        replace b7 : ¬ (x ≤ 1) := b7
        refine And.intro (show Pre_X11_refuse mm [vR 11 0, vI 1] from ⟨_, rfl⟩) ?_
        show ((some (vI (-1)) : Option MV), stC mm 1) = _
        show _ = cl_village mm w x
        unfold cl_village
        (try simp only [if_neg b2, if_neg b4, if_neg b7])
        all_goals exact rfl
theorem con_X11_village (l : Launch) : CON l y_X11_village prog_1_method_45_code 3 (some .int) rm_X11_village Pre_X11_village Fn_X11_village := CON_of (by decide) rfl rfl (sa_X11_village l) vc_X11_village
def cl_vr1 (m : MM) (x : Int32) : Option MV × MM := onC m (m.1 42 0 x.toNatClampNeg)
def cl_villager (m : MM) (w x : Int32) : Option MV × MM := if w < 0 ∨ 99 < w then rfC m 1 else if x < 0 ∨ m.1 6 (m.2.2 0) 13 ≤ x then rfC m 1 else cl_vr1 (vgM m (m.2.2 0) w) x

def Pre_X11_villager : PreT := fun m as => ∃ ns nm nt, VD m ns nm nt ∧ ∃ w x : Int32, as = [vR 11 0, vI w, vI x]
def Fn_X11_villager : FnT := fun m as => match as with
  | [_, Sum.inl w, Sum.inl x] => cl_villager m w x
  | _ => (none, m)
abbrev y_X11_villager : MethodName := ⟨"GivenUp", "villager", "(II)I"⟩
def P_X11_villager : List StpT := [s_iload 1, s_callS 1 Pre_X11_isNoTime Fn_X11_isNoTime, s_ifne 9, s_iload 2, s_aload 0, s_getD 11 12 6 0, s_getI 6 13, s_callS 2 Pre_X11_isOut Fn_X11_isOut, s_ifeq 13, s_aload 0, s_ic (1), s_callV 11 1 Pre_X11_refuse Fn_X11_refuse, s_iret, s_aload 0, s_getC 11 6 8 0, s_aload 0, s_getD 11 12 6 0, s_iload 1, s_callV 8 2 Pre_X8_settle Fn_X8_settle, s_aload 0, s_aload 0, s_getC 11 6 8 0, s_getR 8 3 42, s_iload 2, s_iald, s_callV 11 1 Pre_X11_answerOrNone Fn_X11_answerOrNone, s_iret]
def pc_X11_villager : Nat → Nat := fun i => [0, 1, 4, 7, 8, 9, 12, 15, 18, 21, 22, 23, 26, 27, 28, 31, 32, 35, 36, 39, 40, 41, 44, 47, 48, 49, 52].getD i 0
def dl_X11_villager : List (Nat × Instr × Nat) := [(0, .iload_n 1, 1), (1, .invokestatic 360, 3), (4, .ifCond .ne 17, 3), (7, .iload_n 2, 1), (8, .aload_n 0, 1), (9, .getfield 87, 3), (12, .getfield 197, 3), (15, .invokestatic 115, 3), (18, .ifCond .eq 9, 3), (21, .aload_n 0, 1), (22, .iconst 1, 1), (23, .invokevirtual 139, 3), (26, .ireturn, 1), (27, .aload_n 0, 1), (28, .getfield 56, 3), (31, .aload_n 0, 1), (32, .getfield 87, 3), (35, .iload_n 1, 1), (36, .invokevirtual 383, 3), (39, .aload_n 0, 1), (40, .aload_n 0, 1), (41, .getfield 56, 3), (44, .getfield 391, 3), (47, .iload_n 2, 1), (48, .iaload, 1), (49, .invokevirtual 249, 3), (52, .ireturn, 1)]
theorem dc_X11_villager : DEC prog_1_method_46_code pc_X11_villager dl_X11_villager := DEC_of (by decide +kernel)
abbrev rm_X11_villager : Room := { frames := 19, cells := 0, slots := 0, locals := 485 }
set_option maxRecDepth 20000 in
theorem sa_X11_villager (l : Launch) : SNDALL l prog_1_method_46_code "GivenUp" 3 (some .int) rm_X11_villager P_X11_villager pc_X11_villager := fun p e s m args below meth c cells slots Q D dA ad A RR hC hR => by
  have hM := RTX_room (R := rm_X11_villager) hR
  exact ⟨st_iload_n hC (n := 0) (k := 1) (dc_X11_villager 0 (0, .iload_n 1, 1) rfl rfl) rfl rfl,
    st_callS hC (n := 1) (na := 1) (con_X11_isNoTime l) (dc_X11_villager 1 (1, .invokestatic 360, 3) rfl rfl) rfl wd_1271 wd_143 (by decide) ⟨rfl, rfl, by decide, by decide⟩ hM wd_1269 wd_1270,
    st_ifne hC (n := 2) (dc_X11_villager 2 (4, .ifCond .ne 17, 3) rfl rfl) rfl (by decide),
    st_iload_n hC (n := 3) (k := 2) (dc_X11_villager 3 (7, .iload_n 2, 1) rfl rfl) rfl rfl,
    st_aload_n hC (n := 4) (k := 0) (dc_X11_villager 4 (8, .aload_n 0, 1) rfl rfl) rfl rfl,
    st_getD hC (n := 5) (k := 11) (j := 12) (dc_X11_villager 5 (9, .getfield 87, 3) rfl rfl) rfl clf_11 (by decide) rfl (by decide) wd_723,
    st_getI hC (n := 6) (k := 6) (j := 13) (dc_X11_villager 6 (12, .getfield 197, 3) rfl rfl) rfl clf_6 (by decide) rfl wd_622,
    st_callS hC (n := 7) (na := 2) (con_X11_isOut l) (dc_X11_villager 7 (15, .invokestatic 115, 3) rfl rfl) rfl wd_790 wd_143 (by decide) ⟨rfl, rfl, by decide, by decide⟩ hM wd_788 wd_789,
    st_ifeq hC (n := 8) (dc_X11_villager 8 (18, .ifCond .eq 9, 3) rfl rfl) rfl (by decide),
    st_aload_n hC (n := 9) (k := 0) (dc_X11_villager 9 (21, .aload_n 0, 1) rfl rfl) rfl rfl,
    st_iconst hC (n := 10) (x := 1) (dc_X11_villager 10 (22, .iconst 1, 1) rfl rfl) rfl (by decide),
    st_callV hC (n := 11) (k := 11) (na := 1) (con_X11_refuse l) (dc_X11_villager 11 (23, .invokevirtual 139, 3) rfl rfl) rfl wd_824 wd_143 (by decide) ⟨rfl, rfl, by decide, by decide⟩ hM wd_821 wd_823 wd_3 clf_11,
    st_iret hC (n := 12) hR (dc_X11_villager 12 (26, .ireturn, 1) rfl rfl),
    st_aload_n hC (n := 13) (k := 0) (dc_X11_villager 13 (27, .aload_n 0, 1) rfl rfl) rfl rfl,
    st_getC hC (n := 14) (k := 11) (j := 6) (dc_X11_villager 14 (28, .getfield 56, 3) rfl rfl) rfl clf_11 (by decide) rfl (by decide) wd_717,
    st_aload_n hC (n := 15) (k := 0) (dc_X11_villager 15 (31, .aload_n 0, 1) rfl rfl) rfl rfl,
    st_getD hC (n := 16) (k := 11) (j := 12) (dc_X11_villager 16 (32, .getfield 87, 3) rfl rfl) rfl clf_11 (by decide) rfl (by decide) wd_723,
    st_iload_n hC (n := 17) (k := 1) (dc_X11_villager 17 (35, .iload_n 1, 1) rfl rfl) rfl rfl,
    st_callV hC (n := 18) (k := 8) (na := 2) (con_X8_settle l) (dc_X11_villager 18 (36, .invokevirtual 383, 3) rfl rfl) rfl wd_1345 wd_152 (by decide) ⟨rfl, rfl, by decide, by decide⟩ hM wd_1342 wd_1343 wd_1344 clf_8,
    st_aload_n hC (n := 19) (k := 0) (dc_X11_villager 19 (39, .aload_n 0, 1) rfl rfl) rfl rfl,
    st_aload_n hC (n := 20) (k := 0) (dc_X11_villager 20 (40, .aload_n 0, 1) rfl rfl) rfl rfl,
    st_getC hC (n := 21) (k := 11) (j := 6) (dc_X11_villager 21 (41, .getfield 56, 3) rfl rfl) rfl clf_11 (by decide) rfl (by decide) wd_717,
    st_getR hC (n := 22) (k := 8) (j := 3) (dc_X11_villager 22 (44, .getfield 391, 3) rfl rfl) rfl clf_8 (by decide) rfl (by decide) wd_380,
    st_iload_n hC (n := 23) (k := 2) (dc_X11_villager 23 (47, .iload_n 2, 1) rfl rfl) rfl rfl,
    st_iald hC (n := 24) (dc_X11_villager 24 (48, .iaload, 1) rfl rfl) rfl,
    st_callV hC (n := 25) (k := 11) (na := 1) (con_X11_answerOrNone l) (dc_X11_villager 25 (49, .invokevirtual 249, 3) rfl rfl) rfl wd_1047 wd_143 (by decide) ⟨rfl, rfl, by decide, by decide⟩ hM wd_1044 wd_1046 wd_23 clf_11,
    st_iret hC (n := 26) hR (dc_X11_villager 26 (52, .ireturn, 1) rfl rfl), trivial⟩
set_option maxRecDepth 8000 in
theorem vc_X11_villager : VC P_X11_villager 3 Pre_X11_villager Fn_X11_villager := by
  rintro mm as hom hoa ⟨ns, nm, nt, hD, w, x, rfl⟩
  refine ⟨Nat.le_of_ble_eq_true rfl, fun X h => ?_⟩
  have hS : mm.1 6 (mm.2.2 0) 13 = nI ns := hD.1.1.1.1
  have hn4 : ns ≤ 4 := hD.1.1.1.2
  have s19 : ∀ M, cl_villager mm w x = cl_vr1 M x → (∃ i, i < ns ∧ x = nI i) → X 19 [some (vR 11 0), some (vI (w)), some (vI (x))] [] (M) := by
    intro M hR ⟨i, hi, ex⟩
    show X 19 [some (vR 11 0), some (vI w), some (vI x)] [] M
    refine h (fun _ => false) 3000 19 _ _ _ ?_
    refine And.intro (show inb x (alen 42) = true from (inb_o 4 rfl rfl ex (by omega))) ?_
    refine And.intro (show Pre_X11_answerOrNone M [vR 11 0, vI (M.1 42 0 x.toNatClampNeg)] from ⟨_, rfl⟩) ?_
    show ((some (vI (if (M.1 42 0 x.toNatClampNeg) < 0 then -1 else (M.1 42 0 x.toNatClampNeg))) : Option MV), stC M (if (M.1 42 0 x.toNatClampNeg) < 0 then 6 else 0)) = _
    exact hR.symm
  show X 0 [some (vR 11 0), some (vI w), some (vI x)] [] mm
  refine h (fun i => Nat.beq i 19) 3000 0 _ _ _ ?_
  refine And.intro (show Pre_X11_isNoTime mm [vI w] from ⟨_, rfl⟩) ?_
  refine brn_c (fun b2 => ?_) (fun b2 => ?_)
  · -- 2: bI (w < 0 ∨ 99 < w) = 0 taken
    replace b2 : w < 0 ∨ 99 < w := bI_n0.mp b2
    refine And.intro (show Pre_X11_refuse mm [vR 11 0, vI 1] from ⟨_, rfl⟩) ?_
    show ((some (vI (-1)) : Option MV), stC mm 1) = _
    show _ = cl_villager mm w x
    unfold cl_villager
    (try simp only [if_pos b2])
    all_goals exact rfl
  · -- 2: bI (w < 0 ∨ 99 < w) = 0 on
    replace b2 : ¬ (w < 0 ∨ 99 < w) := bI_0.mp b2
    refine And.intro (show Pre_X11_isOut mm [vI x, vI (mm.1 6 (mm.2.2 0) 13)] from ⟨_, _, rfl⟩) ?_
    refine br_c (fun b8 => ?_) (fun b8 => ?_)
    · -- 8: bI (x < 0 ∨ (mm.1 6 (mm.2.2 0) 13) ≤ x) = 0 taken
      replace b8 : ¬ (x < 0 ∨ (mm.1 6 (mm.2.2 0) 13) ≤ x) := bI_0.mp b8
      refine And.intro (show Pre_X8_settle mm [vR 8 0, vR 6 (mm.2.2 0), vI w] from ⟨_, ns, nm, nt, w, hD.1, hD.2, rfl⟩) ?_
      show X 19 [some (vR 11 0), some (vI w), some (vI x)] [] (vgM mm (mm.2.2 0) w)
      exact s19 _ (by unfold cl_villager; rw [if_neg b2, if_neg b8]) (ou_in hS (by omega) b8)
    · -- 8: bI (x < 0 ∨ (mm.1 6 (mm.2.2 0) 13) ≤ x) = 0 on
      replace b8 : x < 0 ∨ (mm.1 6 (mm.2.2 0) 13) ≤ x := bI_n0.mp b8
      refine And.intro (show Pre_X11_refuse mm [vR 11 0, vI 1] from ⟨_, rfl⟩) ?_
      show ((some (vI (-1)) : Option MV), stC mm 1) = _
      show _ = cl_villager mm w x
      unfold cl_villager
      (try simp only [if_neg b2, if_pos b8])
      all_goals exact rfl
theorem con_X11_villager (l : Launch) : CON l y_X11_villager prog_1_method_46_code 3 (some .int) rm_X11_villager Pre_X11_villager Fn_X11_villager := CON_of (by decide) rfl rfl (sa_X11_villager l) vc_X11_villager
end
