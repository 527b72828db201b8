/-! PART 34: the model: answers of the village; who would bolt -/

theorem lyV54 {m : MM} {w : Int32} {ns nm nt : Nat} (h : VMx m ns nm nt) : (lyV m w).1 54 0 = m.1 54 0 := by
  have hns := h.1.1
  have hnm := h.2.1.1
  unfold lyV
  rw [hns, hnm, nI_clamp (show ns < 2 ^ 31 by have := h.1.2; omega), nI_clamp (show nm < 2 ^ 31 by have := h.2.1.2; omega)]
  exact (lvO_ne m w nm h.2.1.2 ns).2.1 54 0 (by decide) (by decide)
noncomputable def vgR (m : MM) (w q : Int32) : Option MV × MM := gvM (lyV m w) (if q = 0 then (lyV m w).1 12 0 28 else (lyV m w).1 12 0 29)

def Pre_X12_village : PreT := fun m as => VM m ∧ HSo (m.1 54 0) ∧ ∃ w q : Int32, as = [vR 12 0, vI w, vI q]
noncomputable def Fn_X12_village : FnT := fun m as => match as with
  | [_, Sum.inl w, Sum.inl q] => if (¬ w < 0 ∧ ¬ 99 < w) ∧ ¬ q < 0 ∧ q ≤ 1 then vgR m w q else rfM m 1
  | _ => (none, m)
abbrev y_X12_village : MethodName := ⟨"GivenUpModel", "village", "(II)I"⟩
def P_X12_village : List StpT := [s_iload 1, s_callS 1 Pre_X12_isAhead Fn_X12_isAhead, s_ifeq 8, s_iload 2, s_iflt 8, s_iload 2, s_ic (1), s_icle 12, s_aload 0, s_ic (1), s_callV 12 1 Pre_X12_refuse Fn_X12_refuse, s_iret, s_aload 0, s_iload 1, s_callV 12 1 Pre_X12_laysVillage Fn_X12_laysVillage, s_aload 0, s_iload 2, s_ifne 21, s_aload 0, s_getI 12 28, s_goto 23, s_aload 0, s_getI 12 29, s_callV 12 1 Pre_X12_gives Fn_X12_gives, s_iret]
def pc_X12_village : Nat → Nat := fun i => [0, 1, 4, 7, 8, 11, 12, 13, 16, 17, 18, 21, 22, 23, 24, 27, 28, 29, 32, 33, 36, 39, 40, 43, 46].getD i 0
def dl_X12_village : List (Nat × Instr × Nat) := [(0, .iload_n 1, 1), (1, .invokestatic 389, 3), (4, .ifCond .eq 12, 3), (7, .iload_n 2, 1), (8, .ifCond .lt 8, 3), (11, .iload_n 2, 1), (12, .iconst 1, 1), (13, .if_icmp .le 9, 3), (16, .aload_n 0, 1), (17, .iconst 1, 1), (18, .invokevirtual 87, 3), (21, .ireturn, 1), (22, .aload_n 0, 1), (23, .iload_n 1, 1), (24, .invokevirtual 413, 3), (27, .aload_n 0, 1), (28, .iload_n 2, 1), (29, .ifCond .ne 10, 3), (32, .aload_n 0, 1), (33, .getfield 407, 3), (36, .goto 7, 3), (39, .aload_n 0, 1), (40, .getfield 410, 3), (43, .invokevirtual 91, 3), (46, .ireturn, 1)]
theorem dc_X12_village : DEC prog_14_method_128_code pc_X12_village dl_X12_village := DEC_of (by decide +kernel)
abbrev rm_X12_village : Room := { frames := 7, cells := 0, slots := 0, locals := 170 }
set_option maxRecDepth 20000 in
theorem sa_X12_village (l : Launch) : SNDALL l prog_14_method_128_code "GivenUpModel" 3 (some .int) rm_X12_village P_X12_village pc_X12_village := fun p e s m args below meth c cells slots Q D dA ad A RR hC hR => by
  have hM := RTX_room (R := rm_X12_village) hR
  exact ⟨st_iload_n hC (n := 0) (k := 1) (dc_X12_village 0 (0, .iload_n 1, 1) rfl rfl) rfl rfl,
    st_callS hC (n := 1) (na := 1) (con_X12_isAhead l) (dc_X12_village 1 (1, .invokestatic 389, 3) rfl rfl) rfl wd_2126 wd_160 (by decide) ⟨rfl, rfl, by decide, by decide⟩ hM wd_2124 wd_2125,
    st_ifeq hC (n := 2) (dc_X12_village 2 (4, .ifCond .eq 12, 3) rfl rfl) rfl (by decide),
    st_iload_n hC (n := 3) (k := 2) (dc_X12_village 3 (7, .iload_n 2, 1) rfl rfl) rfl rfl,
    st_iflt hC (n := 4) (dc_X12_village 4 (8, .ifCond .lt 8, 3) rfl rfl) rfl (by decide),
    st_iload_n hC (n := 5) (k := 2) (dc_X12_village 5 (11, .iload_n 2, 1) rfl rfl) rfl rfl,
    st_iconst hC (n := 6) (x := 1) (dc_X12_village 6 (12, .iconst 1, 1) rfl rfl) rfl (by decide),
    st_icle hC (n := 7) (dc_X12_village 7 (13, .if_icmp .le 9, 3) rfl rfl) rfl (by decide),
    st_aload_n hC (n := 8) (k := 0) (dc_X12_village 8 (16, .aload_n 0, 1) rfl rfl) rfl rfl,
    st_iconst hC (n := 9) (x := 1) (dc_X12_village 9 (17, .iconst 1, 1) rfl rfl) rfl (by decide),
    st_callV hC (n := 10) (k := 12) (na := 1) (con_X12_refuse l) (dc_X12_village 10 (18, .invokevirtual 87, 3) rfl rfl) rfl wd_1758 wd_160 (by decide) ⟨rfl, rfl, by decide, by decide⟩ hM wd_1755 wd_1757 wd_57 clf_12,
    st_iret hC (n := 11) hR (dc_X12_village 11 (21, .ireturn, 1) rfl rfl),
    st_aload_n hC (n := 12) (k := 0) (dc_X12_village 12 (22, .aload_n 0, 1) rfl rfl) rfl rfl,
    st_iload_n hC (n := 13) (k := 1) (dc_X12_village 13 (23, .iload_n 1, 1) rfl rfl) rfl rfl,
    st_callV hC (n := 14) (k := 12) (na := 1) (con_X12_laysVillage l) (dc_X12_village 14 (24, .invokevirtual 413, 3) rfl rfl) rfl wd_2187 wd_160 (by decide) ⟨rfl, rfl, by decide, by decide⟩ hM wd_2184 wd_2186 wd_124 clf_12,
    st_aload_n hC (n := 15) (k := 0) (dc_X12_village 15 (27, .aload_n 0, 1) rfl rfl) rfl rfl,
    st_iload_n hC (n := 16) (k := 2) (dc_X12_village 16 (28, .iload_n 2, 1) rfl rfl) rfl rfl,
    st_ifne hC (n := 17) (dc_X12_village 17 (29, .ifCond .ne 10, 3) rfl rfl) rfl (by decide),
    st_aload_n hC (n := 18) (k := 0) (dc_X12_village 18 (32, .aload_n 0, 1) rfl rfl) rfl rfl,
    st_getI hC (n := 19) (k := 12) (j := 28) (dc_X12_village 19 (33, .getfield 407, 3) rfl rfl) rfl clf_12 (by decide) rfl wd_1580,
    st_goto hC (n := 20) (dc_X12_village 20 (36, .goto 7, 3) rfl rfl) (by decide),
    st_aload_n hC (n := 21) (k := 0) (dc_X12_village 21 (39, .aload_n 0, 1) rfl rfl) rfl rfl,
    st_getI hC (n := 22) (k := 12) (j := 29) (dc_X12_village 22 (40, .getfield 410, 3) rfl rfl) rfl clf_12 (by decide) rfl wd_1581,
    st_callV hC (n := 23) (k := 12) (na := 1) (con_X12_gives l) (dc_X12_village 23 (43, .invokevirtual 91, 3) rfl rfl) rfl wd_1849 wd_160 (by decide) ⟨rfl, rfl, by decide, by decide⟩ hM wd_1846 wd_1848 wd_79 clf_12,
    st_iret hC (n := 24) hR (dc_X12_village 24 (46, .ireturn, 1) rfl rfl), trivial⟩
set_option maxRecDepth 8000 in
theorem vc_X12_village : VC P_X12_village 3 Pre_X12_village Fn_X12_village := by
  rintro mm as hom hoa ⟨hM, hH, w, q, rfl⟩
  refine ⟨Nat.le_of_ble_eq_true rfl, fun X h => ?_⟩
  have one : ¬ ((¬ w < 0 ∧ ¬ 99 < w) ∧ ¬ q < 0 ∧ q ≤ 1) → X 8 [some (vR 12 0), some (vI (w)), some (vI (q))] [] mm := by
    intro hc
    show X 8 [some (vR 12 0), some (vI w), some (vI q)] [] mm
    refine h (fun _ => false) 3000 8 _ _ _ ?_
    refine And.intro ⟨_, rfl⟩ ?_
    show ((some (vI (-1)) : Option MV), stM mm 1) = _
    exact (if_neg hc).symm
  have two : ((¬ w < 0 ∧ ¬ 99 < w) ∧ ¬ q < 0 ∧ q ≤ 1) → X 12 [some (vR 12 0), some (vI (w)), some (vI (q))] [] mm := by
    intro hc
    replace h : RUN P_X12_village (fun r m' => (r, m') = vgR mm w q) X := by
      have e : Fn_X12_village mm [vR 12 0, vI w, vI q] = vgR mm w q := if_pos hc
      rw [e] at h; exact h
    unfold vgR at h
    suffices z : X 15 [some (vR 12 0), some (vI (w)), some (vI (q))] [] (lyV mm w) by
      show X 12 [some (vR 12 0), some (vI w), some (vI q)] [] mm
      refine h (fun i => Nat.beq i 15) 3000 12 _ _ _ ?_
      refine And.intro ⟨hM, hH, _, rfl⟩ ?_
      show X 15 [some (vR 12 0), some (vI w), some (vI q)] [] (lyV mm w)
      exact z
    generalize lyV mm w = M at *
    by_cases hq : q = 0
    · rw [if_pos hq] at h
      show X 15 [some (vR 12 0), some (vI w), some (vI q)] [] M
      refine h (fun _ => false) 3000 15 _ _ _ ?_
      refine brn_f (hq) ?_
      refine And.intro ⟨_, rfl⟩ ?_
      show ((some (vI (M.1 12 0 28)) : Option MV), stM M 0) = _
      exact rfl
    · rw [if_neg hq] at h
      show X 15 [some (vR 12 0), some (vI w), some (vI q)] [] M
      refine h (fun _ => false) 3000 15 _ _ _ ?_
      refine brn_t (hq) ?_
      refine And.intro ⟨_, rfl⟩ ?_
      show ((some (vI (M.1 12 0 29)) : Option MV), stM M 0) = _
      exact rfl
  show X 0 [some (vR 12 0), some (vI w), some (vI q)] [] mm
  refine h (fun i => Nat.beq i 8 || Nat.beq i 12) 3000 0 _ _ _ ?_
  refine And.intro ⟨_, rfl⟩ ?_
  refine br_c (fun b2 => ?_) (fun b2 => ?_)
  · -- 2: bI (¬ w < 0 ∧ ¬ 99 < w) = 0 taken
    replace b2 : ¬ (¬ w < 0 ∧ ¬ 99 < w) := bI_0.mp b2
    show X 8 [some (vR 12 0), some (vI w), some (vI q)] [] mm
    exact one (fun z => b2 z.1)
  · -- 2: bI (¬ w < 0 ∧ ¬ 99 < w) = 0 on
    replace b2 : ¬ w < 0 ∧ ¬ 99 < w := bI_n0.mp b2
    refine br_c (fun b4 => ?_) (fun b4 => ?_)
    · -- 4: q < 0 taken
      replace b4 : q < 0 := b4
      show X 8 [some (vR 12 0), some (vI w), some (vI q)] [] mm
      exact one (fun z => z.2.1 b4)
    · -- 4: q < 0 on
      replace b4 : ¬ (q < 0) := b4
      refine br_c (fun b7 => ?_) (fun b7 => ?_)
      · -- 7: q ≤ 1 taken
        replace b7 : q ≤ 1 := b7
        show X 12 [some (vR 12 0), some (vI w), some (vI q)] [] mm
        exact two ⟨b2, b4, b7⟩
      · -- 7: q ≤ 1 on
        replace b7 : ¬ (q ≤ 1) := b7
        show X 8 [some (vR 12 0), some (vI w), some (vI q)] [] mm
        exact one (fun z => b7 z.2.2)
theorem con_X12_village (l : Launch) : CON l y_X12_village prog_14_method_128_code 3 (some .int) rm_X12_village Pre_X12_village Fn_X12_village := CON_of (by decide) rfl rfl (sa_X12_village l) vc_X12_village
noncomputable def vrR (m : MM) (w : Int32) (i : Nat) : Option MV × MM := if (lyV m w).1 65 0 i = m.1 54 0 1 then rfM (lyV m w) 6 else gvM (lyV m w) ((lyV m w).1 65 0 i)

def Pre_X12_villager : PreT := fun m as => VM m ∧ HSo (m.1 54 0) ∧ ∃ w x : Int32, as = [vR 12 0, vI w, vI x]
noncomputable def Fn_X12_villager : FnT := fun m as => match as with
  | [_, Sum.inl w, Sum.inl x] => if (¬ w < 0 ∧ ¬ 99 < w) ∧ suP (m.1 54 0) x then vrR m w x.toNatClampNeg else rfM m 1
  | _ => (none, m)
abbrev y_X12_villager : MethodName := ⟨"GivenUpModel", "villager", "(II)I"⟩
def P_X12_villager : List StpT := [s_iload 1, s_callS 1 Pre_X12_isAhead Fn_X12_isAhead, s_ifeq 7, s_aload 0, s_iload 2, s_callV 12 1 Pre_X12_isSuitor Fn_X12_isSuitor, s_ifne 11, s_aload 0, s_ic (1), s_callV 12 1 Pre_X12_refuse Fn_X12_refuse, s_iret, s_aload 0, s_iload 1, s_callV 12 1 Pre_X12_laysVillage Fn_X12_laysVillage, s_aload 0, s_getR 12 27 65, s_iload 2, s_iald, s_aload 0, s_getR 12 0 54, s_ic (1), s_iald, s_icne 27, s_aload 0, s_ic (6), s_callV 12 1 Pre_X12_refuse Fn_X12_refuse, s_goto 33, s_aload 0, s_aload 0, s_getR 12 27 65, s_iload 2, s_iald, s_callV 12 1 Pre_X12_gives Fn_X12_gives, s_iret]
def pc_X12_villager : Nat → Nat := fun i => [0, 1, 4, 7, 8, 9, 12, 15, 16, 17, 20, 21, 22, 23, 26, 27, 30, 31, 32, 33, 36, 37, 38, 41, 42, 44, 47, 50, 51, 52, 55, 56, 57, 60].getD i 0
def dl_X12_villager : List (Nat × Instr × Nat) := [(0, .iload_n 1, 1), (1, .invokestatic 389, 3), (4, .ifCond .eq 11, 3), (7, .aload_n 0, 1), (8, .iload_n 2, 1), (9, .invokevirtual 265, 3), (12, .ifCond .ne 9, 3), (15, .aload_n 0, 1), (16, .iconst 1, 1), (17, .invokevirtual 87, 3), (20, .ireturn, 1), (21, .aload_n 0, 1), (22, .iload_n 1, 1), (23, .invokevirtual 413, 3), (26, .aload_n 0, 1), (27, .getfield 56, 3), (30, .iload_n 2, 1), (31, .iaload, 1), (32, .aload_n 0, 1), (33, .getfield 7, 3), (36, .iconst 1, 1), (37, .iaload, 1), (38, .if_icmp .ne 12, 3), (41, .aload_n 0, 1), (42, .bipush 6, 2), (44, .invokevirtual 87, 3), (47, .goto 13, 3), (50, .aload_n 0, 1), (51, .aload_n 0, 1), (52, .getfield 56, 3), (55, .iload_n 2, 1), (56, .iaload, 1), (57, .invokevirtual 91, 3), (60, .ireturn, 1)]
theorem dc_X12_villager : DEC prog_14_method_129_code pc_X12_villager dl_X12_villager := DEC_of (by decide +kernel)
abbrev rm_X12_villager : Room := { frames := 7, cells := 0, slots := 0, locals := 170 }
set_option maxRecDepth 20000 in
theorem sa_X12_villager (l : Launch) : SNDALL l prog_14_method_129_code "GivenUpModel" 3 (some .int) rm_X12_villager P_X12_villager pc_X12_villager := fun p e s m args below meth c cells slots Q D dA ad A RR hC hR => by
  have hM := RTX_room (R := rm_X12_villager) hR
  exact ⟨st_iload_n hC (n := 0) (k := 1) (dc_X12_villager 0 (0, .iload_n 1, 1) rfl rfl) rfl rfl,
    st_callS hC (n := 1) (na := 1) (con_X12_isAhead l) (dc_X12_villager 1 (1, .invokestatic 389, 3) rfl rfl) rfl wd_2126 wd_160 (by decide) ⟨rfl, rfl, by decide, by decide⟩ hM wd_2124 wd_2125,
    st_ifeq hC (n := 2) (dc_X12_villager 2 (4, .ifCond .eq 11, 3) rfl rfl) rfl (by decide),
    st_aload_n hC (n := 3) (k := 0) (dc_X12_villager 3 (7, .aload_n 0, 1) rfl rfl) rfl rfl,
    st_iload_n hC (n := 4) (k := 2) (dc_X12_villager 4 (8, .iload_n 2, 1) rfl rfl) rfl rfl,
    st_callV hC (n := 5) (k := 12) (na := 1) (con_X12_isSuitor l) (dc_X12_villager 5 (9, .invokevirtual 265, 3) rfl rfl) rfl wd_1885 wd_160 (by decide) ⟨rfl, rfl, by decide, by decide⟩ hM wd_1882 wd_1884 wd_85 clf_12,
    st_ifne hC (n := 6) (dc_X12_villager 6 (12, .ifCond .ne 9, 3) rfl rfl) rfl (by decide),
    st_aload_n hC (n := 7) (k := 0) (dc_X12_villager 7 (15, .aload_n 0, 1) rfl rfl) rfl rfl,
    st_iconst hC (n := 8) (x := 1) (dc_X12_villager 8 (16, .iconst 1, 1) rfl rfl) rfl (by decide),
    st_callV hC (n := 9) (k := 12) (na := 1) (con_X12_refuse l) (dc_X12_villager 9 (17, .invokevirtual 87, 3) rfl rfl) rfl wd_1758 wd_160 (by decide) ⟨rfl, rfl, by decide, by decide⟩ hM wd_1755 wd_1757 wd_57 clf_12,
    st_iret hC (n := 10) hR (dc_X12_villager 10 (20, .ireturn, 1) rfl rfl),
    st_aload_n hC (n := 11) (k := 0) (dc_X12_villager 11 (21, .aload_n 0, 1) rfl rfl) rfl rfl,
    st_iload_n hC (n := 12) (k := 1) (dc_X12_villager 12 (22, .iload_n 1, 1) rfl rfl) rfl rfl,
    st_callV hC (n := 13) (k := 12) (na := 1) (con_X12_laysVillage l) (dc_X12_villager 13 (23, .invokevirtual 413, 3) rfl rfl) rfl wd_2187 wd_160 (by decide) ⟨rfl, rfl, by decide, by decide⟩ hM wd_2184 wd_2186 wd_124 clf_12,
    st_aload_n hC (n := 14) (k := 0) (dc_X12_villager 14 (26, .aload_n 0, 1) rfl rfl) rfl rfl,
    st_getR hC (n := 15) (k := 12) (j := 27) (dc_X12_villager 15 (27, .getfield 56, 3) rfl rfl) rfl clf_12 (by decide) rfl (by decide) wd_1579,
    st_iload_n hC (n := 16) (k := 2) (dc_X12_villager 16 (30, .iload_n 2, 1) rfl rfl) rfl rfl,
    st_iald hC (n := 17) (dc_X12_villager 17 (31, .iaload, 1) rfl rfl) rfl,
    st_aload_n hC (n := 18) (k := 0) (dc_X12_villager 18 (32, .aload_n 0, 1) rfl rfl) rfl rfl,
    st_getR hC (n := 19) (k := 12) (j := 0) (dc_X12_villager 19 (33, .getfield 7, 3) rfl rfl) rfl clf_12 (by decide) rfl (by decide) wd_1552,
    st_iconst hC (n := 20) (x := 1) (dc_X12_villager 20 (36, .iconst 1, 1) rfl rfl) rfl (by decide),
    st_iald hC (n := 21) (dc_X12_villager 21 (37, .iaload, 1) rfl rfl) rfl,
    st_icne hC (n := 22) (dc_X12_villager 22 (38, .if_icmp .ne 12, 3) rfl rfl) rfl (by decide),
    st_aload_n hC (n := 23) (k := 0) (dc_X12_villager 23 (41, .aload_n 0, 1) rfl rfl) rfl rfl,
    st_bipush hC (n := 24) (x := 6) (dc_X12_villager 24 (42, .bipush 6, 2) rfl rfl) rfl (by decide),
    st_callV hC (n := 25) (k := 12) (na := 1) (con_X12_refuse l) (dc_X12_villager 25 (44, .invokevirtual 87, 3) rfl rfl) rfl wd_1758 wd_160 (by decide) ⟨rfl, rfl, by decide, by decide⟩ hM wd_1755 wd_1757 wd_57 clf_12,
    st_goto hC (n := 26) (dc_X12_villager 26 (47, .goto 13, 3) rfl rfl) (by decide),
    st_aload_n hC (n := 27) (k := 0) (dc_X12_villager 27 (50, .aload_n 0, 1) rfl rfl) rfl rfl,
    st_aload_n hC (n := 28) (k := 0) (dc_X12_villager 28 (51, .aload_n 0, 1) rfl rfl) rfl rfl,
    st_getR hC (n := 29) (k := 12) (j := 27) (dc_X12_villager 29 (52, .getfield 56, 3) rfl rfl) rfl clf_12 (by decide) rfl (by decide) wd_1579,
    st_iload_n hC (n := 30) (k := 2) (dc_X12_villager 30 (55, .iload_n 2, 1) rfl rfl) rfl rfl,
    st_iald hC (n := 31) (dc_X12_villager 31 (56, .iaload, 1) rfl rfl) rfl,
    st_callV hC (n := 32) (k := 12) (na := 1) (con_X12_gives l) (dc_X12_villager 32 (57, .invokevirtual 91, 3) rfl rfl) rfl wd_1849 wd_160 (by decide) ⟨rfl, rfl, by decide, by decide⟩ hM wd_1846 wd_1848 wd_79 clf_12,
    st_iret hC (n := 33) hR (dc_X12_villager 33 (60, .ireturn, 1) rfl rfl), trivial⟩
set_option maxRecDepth 8000 in
theorem vc_X12_villager : VC P_X12_villager 3 Pre_X12_villager Fn_X12_villager := by
  rintro mm as hom hoa ⟨⟨ns, nm, n, hV⟩, hH, w, x, rfl⟩
  refine ⟨Nat.le_of_ble_eq_true rfl, fun X h => ?_⟩
  have hM : VM mm := ⟨ns, nm, n, hV⟩
  have hns4 : ns ≤ 4 := hV.1.2
  have two : ((¬ w < 0 ∧ ¬ 99 < w) ∧ suP (mm.1 54 0) x) → X 11 [some (vR 12 0), some (vI (w)), some (vI (x))] [] mm := by
    intro hc
    obtain ⟨i, hi, rfl⟩ := su_in hV hc.2
    have ei : (nI i).toNatClampNeg = i := nI_clamp (by omega)
    have e : Fn_X12_villager mm [vR 12 0, vI w, vI (nI i)] = vrR mm w i := by
      refine Eq.trans (if_pos hc) ?_
      rw [ei]
    rw [e] at h
    have e54 := lyV54 (w := w) hV
    unfold vrR at h
    rw [← e54] at h
    suffices z : X 14 [some (vR 12 0), some (vI (w)), some (vI (nI i))] [] (lyV mm w) by
      show X 11 [some (vR 12 0), some (vI w), some (vI (nI i))] [] mm
      refine h (fun i => Nat.beq i 14) 3000 11 _ _ _ ?_
      refine And.intro ⟨hM, hH, _, rfl⟩ ?_
      show X 14 [some (vR 12 0), some (vI w), some (vI (nI i))] [] (lyV mm w)
      exact z
    generalize lyV mm w = M at *
    show X 14 [some (vR 12 0), some (vI w), some (vI (nI i))] [] M
    refine h (fun _ => false) 3000 14 _ _ _ ?_
    refine And.intro (inb_o 4 rfl rfl rfl (by omega)) ?_
    refine And.intro rfl ?_
    refine brn_c (fun b22 => ?_) (fun b22 => ?_)
    · -- 22: M.1 65 0 (nI i).toNatClampNeg = M.1 54 0 1 taken
      replace b22 : ¬ (M.1 65 0 (nI i).toNatClampNeg = M.1 54 0 1) := b22
      rw [ei] at b22
      refine And.intro (inb_o 4 rfl rfl rfl (by omega)) ?_
      refine And.intro ⟨_, rfl⟩ ?_
      show ((some (vI (M.1 65 0 (nI i).toNatClampNeg)) : Option MV), stM M 0) = _
      rw [ei]
      first | exact (if_neg b22).symm | exact (if_pos b22).symm
    · -- 22: M.1 65 0 (nI i).toNatClampNeg = M.1 54 0 1 on
      replace b22 : M.1 65 0 (nI i).toNatClampNeg = M.1 54 0 1 := b22
      rw [ei] at b22
      refine And.intro ⟨_, rfl⟩ ?_
      show ((some (vI (-1)) : Option MV), stM M 6) = _
      first | exact (if_neg b22).symm | exact (if_pos b22).symm
  show X 0 [some (vR 12 0), some (vI w), some (vI x)] [] mm
  refine h (fun i => Nat.beq i 11) 3000 0 _ _ _ ?_
  refine And.intro ⟨_, rfl⟩ ?_
  refine br_c (fun b2 => ?_) (fun b2 => ?_)
  · -- 2: bI (¬ w < 0 ∧ ¬ 99 < w) = 0 taken
    replace b2 : ¬ (¬ w < 0 ∧ ¬ 99 < w) := bI_0.mp b2
    refine And.intro ⟨_, rfl⟩ ?_
    show ((some (vI (-1)) : Option MV), stM mm 1) = _
    exact (if_neg (fun z => b2 z.1)).symm
  · -- 2: bI (¬ w < 0 ∧ ¬ 99 < w) = 0 on
    replace b2 : ¬ w < 0 ∧ ¬ 99 < w := bI_n0.mp b2
    refine And.intro ⟨_, rfl⟩ ?_
    refine brn_c (fun b6 => ?_) (fun b6 => ?_)
    · -- 6: bI (suP (mm.1 54 0) x) = 0 taken
      replace b6 : suP (mm.1 54 0) x := bI_n0.mp b6
      show X 11 [some (vR 12 0), some (vI w), some (vI x)] [] mm
      exact two ⟨b2, b6⟩
    · -- 6: bI (suP (mm.1 54 0) x) = 0 on
      replace b6 : ¬ (suP (mm.1 54 0) x) := bI_0.mp b6
      refine And.intro ⟨_, rfl⟩ ?_
      show ((some (vI (-1)) : Option MV), stM mm 1) = _
      exact (if_neg (fun z => b6 z.2)).symm
theorem con_X12_villager (l : Launch) : CON l y_X12_villager prog_14_method_129_code 3 (some .int) rm_X12_villager Pre_X12_villager Fn_X12_villager := CON_of (by decide) rfl rfl (sa_X12_villager l) vc_X12_villager
/-- a tray's MAID may be -/
abbrev wcP (v b : Int64) : Prop := ¬ lg_cmp v (-1) < 0 ∧ ¬ 0 < lg_cmp v (b - 1)
def wcG (T : Nat → Int64) (b : Int64) : Nat → Nat → Int32 → Int32
  | 0, _, _ => 0
  | k + 1, j, seen => if wcP (T j) b then (if lg_cmp (T j) (-1) = 0 then wcG T b k (j + 1) seen else if inS seen (T j).toInt32 then 5 else wcG T b k (j + 1) (seen ||| 1 <<< ((T j).toInt32 &&& 31))) else 5
theorem wcG_0 {T : Nat → Int64} {b : Int64} : ∀ (k j : Nat) (seen : Int32), wcG T b k j seen ≤ 0 → ∀ i, j ≤ i → i < j + k → wcP (T i) b
  | 0, _, _, _, i, h1, h2 => absurd h2 (by omega)
  | k + 1, j, seen, h, i, h1, h2 => by
    rw [wcG] at h
    split at h
    · rename_i hc
      by_cases hij : i = j
      · rw [hij]; exact hc
      · split at h
        · exact wcG_0 k (j + 1) _ h i (by omega) (by omega)
        · split at h
          · exact absurd h (by decide)
          · exact wcG_0 k (j + 1) _ h i (by omega) (by omega)
    · exact absurd h (by decide)
theorem wcP_in {v : Int64} {n : Nat} (hn : n ≤ 4) (h : wcP v (nI n).toInt64) : v.toInt32 = -1 ∨ ∃ k, k < n ∧ v.toInt32 = nI k := by
  obtain ⟨h1, h2⟩ := h
  rw [lg_cmp_lt] at h1
  rw [lg_cmp_gt, nI_l (by omega)] at h2
  by_cases hz : v < 0
  · left
    have : v = -1 := by
      rw [Int64.lt_iff_toInt_lt] at h1 hz
      apply Int64.toInt_inj.mp
      have e1 : (-1 : Int64).toInt = -1 := by decide
      have e0 : (0 : Int64).toInt = 0 := by decide
      omega
    rw [this]; decide
  · right
    obtain ⟨k, hk, rfl⟩ := pk_lOf hz
    refine ⟨k, ?_, lN_i k⟩
    have e : lN n - 1 < lN k ↔ n ≤ k := by
      rw [Int64.lt_iff_toInt_lt, pk_lT hk]
      have : (lN n - 1).toInt = (n : Int) - 1 := by
        have hd : ∀ n, n ≤ 4 → (lN n - 1).toInt = (n : Int) - 1 := by decide
        exact hd n hn
      omega
    rw [e] at h2
    omega
/-- 0, or why the couples are wrong -/
def wcR (m : MM) (x : Int32) : Int32 := if ¬ x < 0 ∧ ¬ 4 ≤ x then (if m.1 57 0 x.toNatClampNeg = -1 then 2 else if m.1 57 0 x.toNatClampNeg < m.1 54 0 0 then 3 else wcG (m.2.1 58 0) (m.1 54 0 1).toInt64 (m.1 54 0 0).toNatClampNeg (60 * x.toNatClampNeg) 0) else 1
theorem wcR_0 {m : MM} {x : Int32} {ns nm nt : Nat} (hV : VMx m ns nm nt) (h : wcR m x ≤ 0) : ∃ t, t < 4 ∧ x = nI t ∧ ∀ s, s < ns → ((m.2.1 58 0 (60 * t + s)).toInt32 = -1 ∨ ∃ k, k < nm ∧ (m.2.1 58 0 (60 * t + s)).toInt32 = nI k) := by
  unfold wcR at h
  split at h
  · rename_i hx
    obtain ⟨t, ht, rfl⟩ := arg_in (n := 4) hx.1 hx.2 (by decide)
    split at h
    · exact absurd h (by decide)
    · split at h
      · exact absurd h (by decide)
      · refine ⟨t, ht, rfl, fun s hs => ?_⟩
        have hns4 := hV.1.2
        rw [hV.1.1, nI_clamp (show t < 2 ^ 31 by omega), nI_clamp (show ns < 2 ^ 31 by omega)] at h
        have := wcG_0 _ _ _ h (60 * t + s) (by omega) (by omega)
        rw [hV.2.1.1] at this
        exact wcP_in hV.2.1.2 this
  · exact absurd h (by decide)

--tpl ⟨hM, _, rfl⟩ || wcR {m} {1}
def Pre_X12_wrongCouples : PreT := fun m as => VM m ∧ ∃ x : Int32, as = [vR 12 0, vI x]
def Fn_X12_wrongCouples : FnT := fun m as => match as with
  | [_, Sum.inl x] => (some (vI (wcR m x)), m)
  | _ => (none, m)
abbrev y_X12_wrongCouples : MethodName := ⟨"GivenUpModel", "wrongCouples", "(I)I"⟩
def P_X12_wrongCouples : List StpT := [s_iload 1, s_callS 1 Pre_X12_isTray Fn_X12_isTray, s_ifne 5, s_ic (1), s_iret, s_aload 0, s_getR 12 6 57, s_iload 1, s_iald, s_ic (-1), s_icne 13, s_ic (2), s_iret, s_aload 0, s_getR 12 6 57, s_iload 1, s_iald, s_aload 0, s_getR 12 0 54, s_ic (0), s_iald, s_icge 24, s_ic (3), s_iret, s_ic (0), s_istore 2, s_ic (0), s_istore 3, s_iload 3, s_aload 0, s_getR 12 0 54, s_ic (0), s_iald, s_icge 78, s_aload 0, s_getR 12 7 58, s_ic (60), s_iload 1, s_imul, s_iload 3, s_iadd, s_lald, s_lstore 4, s_lload 4, s_lc (-1), s_aload 0, s_getR 12 0 54, s_ic (1), s_iald, s_i2l, s_lc 1, s_lsub, s_callS 3 Pre_X12_isFrom Fn_X12_isFrom, s_ifne 56, s_ic (5), s_iret, s_lload 4, s_lc (-1), s_lcmp, s_ifne 61, s_goto 76, s_aload 0, s_iload 2, s_lload 4, s_l2i, s_callV 12 2 Pre_X12_isIn Fn_X12_isIn, s_ifeq 69, s_ic (5), s_iret, s_iload 2, s_ic (1), s_lload 4, s_l2i, s_ishl, s_ior, s_istore 2, s_iinc 3 (1), s_goto 28, s_ic (0), s_iret]
def pc_X12_wrongCouples : Nat → Nat := fun i => [0, 1, 4, 7, 8, 9, 10, 13, 14, 15, 16, 19, 20, 21, 22, 25, 26, 27, 28, 31, 32, 33, 36, 37, 38, 39, 40, 41, 42, 43, 44, 47, 48, 49, 52, 53, 56, 58, 59, 60, 61, 62, 63, 65, 67, 70, 71, 74, 75, 76, 77, 78, 79, 82, 85, 86, 87, 89, 92, 93, 96, 99, 100, 101, 103, 104, 107, 110, 111, 112, 113, 114, 116, 117, 118, 119, 120, 123, 126, 127].getD i 0
def dl_X12_wrongCouples : List (Nat × Instr × Nat) := [(0, .iload_n 1, 1), (1, .invokestatic 98, 3), (4, .ifCond .ne 5, 3), (7, .iconst 1, 1), (8, .ireturn, 1), (9, .aload_n 0, 1), (10, .getfield 24, 3), (13, .iload_n 1, 1), (14, .iaload, 1), (15, .iconst (-1), 1), (16, .if_icmp .ne 5, 3), (19, .iconst 2, 1), (20, .ireturn, 1), (21, .aload_n 0, 1), (22, .getfield 24, 3), (25, .iload_n 1, 1), (26, .iaload, 1), (27, .aload_n 0, 1), (28, .getfield 7, 3), (31, .iconst 0, 1), (32, .iaload, 1), (33, .if_icmp .ge 5, 3), (36, .iconst 3, 1), (37, .ireturn, 1), (38, .iconst 0, 1), (39, .istore_n 2, 1), (40, .iconst 0, 1), (41, .istore_n 3, 1), (42, .iload_n 3, 1), (43, .aload_n 0, 1), (44, .getfield 7, 3), (47, .iconst 0, 1), (48, .iaload, 1), (49, .if_icmp .ge 77, 3), (52, .aload_n 0, 1), (53, .getfield 27, 3), (56, .bipush 60, 2), (58, .iload_n 1, 1), (59, .imul, 1), (60, .iload_n 3, 1), (61, .iadd, 1), (62, .laload, 1), (63, .lstore 4, 2), (65, .lload 4, 2), (67, .ldc2_w 109, 3), (70, .aload_n 0, 1), (71, .getfield 7, 3), (74, .iconst 1, 1), (75, .iaload, 1), (76, .i2l, 1), (77, .lconst 1, 1), (78, .lsub, 1), (79, .invokestatic 373, 3), (82, .ifCond .ne 5, 3), (85, .iconst 5, 1), (86, .ireturn, 1), (87, .lload 4, 2), (89, .ldc2_w 109, 3), (92, .lcmp, 1), (93, .ifCond .ne 6, 3), (96, .goto 24, 3), (99, .aload_n 0, 1), (100, .iload_n 2, 1), (101, .lload 4, 2), (103, .l2i, 1), (104, .invokevirtual 277, 3), (107, .ifCond .eq 5, 3), (110, .iconst 5, 1), (111, .ireturn, 1), (112, .iload_n 2, 1), (113, .iconst 1, 1), (114, .lload 4, 2), (116, .l2i, 1), (117, .ishl, 1), (118, .ior, 1), (119, .istore_n 2, 1), (120, .iinc 3 1, 3), (123, .goto (-81), 3), (126, .iconst 0, 1), (127, .ireturn, 1)]
theorem dc_X12_wrongCouples : DEC prog_14_method_130_code pc_X12_wrongCouples dl_X12_wrongCouples := DEC_of (by decide +kernel)
abbrev rm_X12_wrongCouples : Room := { frames := 1, cells := 0, slots := 0, locals := 25 }
set_option maxRecDepth 20000 in
theorem sa_X12_wrongCouples (l : Launch) : SNDALL l prog_14_method_130_code "GivenUpModel" 6 (some .int) rm_X12_wrongCouples P_X12_wrongCouples pc_X12_wrongCouples := fun p e s m args below meth c cells slots Q D dA ad A RR hC hR => by
  have hM := RTX_room (R := rm_X12_wrongCouples) hR
  exact ⟨st_iload_n hC (n := 0) (k := 1) (dc_X12_wrongCouples 0 (0, .iload_n 1, 1) rfl rfl) rfl rfl,
    st_callS hC (n := 1) (na := 1) (con_X12_isTray l) (dc_X12_wrongCouples 1 (1, .invokestatic 98, 3) rfl rfl) rfl wd_1694 wd_160 (by decide) ⟨rfl, rfl, by decide, by decide⟩ hM wd_1692 wd_1693,
    st_ifne hC (n := 2) (dc_X12_wrongCouples 2 (4, .ifCond .ne 5, 3) rfl rfl) rfl (by decide),
    st_iconst hC (n := 3) (x := 1) (dc_X12_wrongCouples 3 (7, .iconst 1, 1) rfl rfl) rfl (by decide),
    st_iret hC (n := 4) hR (dc_X12_wrongCouples 4 (8, .ireturn, 1) rfl rfl),
    st_aload_n hC (n := 5) (k := 0) (dc_X12_wrongCouples 5 (9, .aload_n 0, 1) rfl rfl) rfl rfl,
    st_getR hC (n := 6) (k := 12) (j := 6) (dc_X12_wrongCouples 6 (10, .getfield 24, 3) rfl rfl) rfl clf_12 (by decide) rfl (by decide) wd_1558,
    st_iload_n hC (n := 7) (k := 1) (dc_X12_wrongCouples 7 (13, .iload_n 1, 1) rfl rfl) rfl rfl,
    st_iald hC (n := 8) (dc_X12_wrongCouples 8 (14, .iaload, 1) rfl rfl) rfl,
    st_iconst hC (n := 9) (x := (-1)) (dc_X12_wrongCouples 9 (15, .iconst (-1), 1) rfl rfl) rfl (by decide),
    st_icne hC (n := 10) (dc_X12_wrongCouples 10 (16, .if_icmp .ne 5, 3) rfl rfl) rfl (by decide),
    st_iconst hC (n := 11) (x := 2) (dc_X12_wrongCouples 11 (19, .iconst 2, 1) rfl rfl) rfl (by decide),
    st_iret hC (n := 12) hR (dc_X12_wrongCouples 12 (20, .ireturn, 1) rfl rfl),
    st_aload_n hC (n := 13) (k := 0) (dc_X12_wrongCouples 13 (21, .aload_n 0, 1) rfl rfl) rfl rfl,
    st_getR hC (n := 14) (k := 12) (j := 6) (dc_X12_wrongCouples 14 (22, .getfield 24, 3) rfl rfl) rfl clf_12 (by decide) rfl (by decide) wd_1558,
    st_iload_n hC (n := 15) (k := 1) (dc_X12_wrongCouples 15 (25, .iload_n 1, 1) rfl rfl) rfl rfl,
    st_iald hC (n := 16) (dc_X12_wrongCouples 16 (26, .iaload, 1) rfl rfl) rfl,
    st_aload_n hC (n := 17) (k := 0) (dc_X12_wrongCouples 17 (27, .aload_n 0, 1) rfl rfl) rfl rfl,
    st_getR hC (n := 18) (k := 12) (j := 0) (dc_X12_wrongCouples 18 (28, .getfield 7, 3) rfl rfl) rfl clf_12 (by decide) rfl (by decide) wd_1552,
    st_iconst hC (n := 19) (x := 0) (dc_X12_wrongCouples 19 (31, .iconst 0, 1) rfl rfl) rfl (by decide),
    st_iald hC (n := 20) (dc_X12_wrongCouples 20 (32, .iaload, 1) rfl rfl) rfl,
    st_icge hC (n := 21) (dc_X12_wrongCouples 21 (33, .if_icmp .ge 5, 3) rfl rfl) rfl (by decide),
    st_iconst hC (n := 22) (x := 3) (dc_X12_wrongCouples 22 (36, .iconst 3, 1) rfl rfl) rfl (by decide),
    st_iret hC (n := 23) hR (dc_X12_wrongCouples 23 (37, .ireturn, 1) rfl rfl),
    st_iconst hC (n := 24) (x := 0) (dc_X12_wrongCouples 24 (38, .iconst 0, 1) rfl rfl) rfl (by decide),
    st_istore_n hC (n := 25) (k := 2) (dc_X12_wrongCouples 25 (39, .istore_n 2, 1) rfl rfl) rfl rfl (by decide),
    st_iconst hC (n := 26) (x := 0) (dc_X12_wrongCouples 26 (40, .iconst 0, 1) rfl rfl) rfl (by decide),
    st_istore_n hC (n := 27) (k := 3) (dc_X12_wrongCouples 27 (41, .istore_n 3, 1) rfl rfl) rfl rfl (by decide),
    st_iload_n hC (n := 28) (k := 3) (dc_X12_wrongCouples 28 (42, .iload_n 3, 1) rfl rfl) rfl rfl,
    st_aload_n hC (n := 29) (k := 0) (dc_X12_wrongCouples 29 (43, .aload_n 0, 1) rfl rfl) rfl rfl,
    st_getR hC (n := 30) (k := 12) (j := 0) (dc_X12_wrongCouples 30 (44, .getfield 7, 3) rfl rfl) rfl clf_12 (by decide) rfl (by decide) wd_1552,
    st_iconst hC (n := 31) (x := 0) (dc_X12_wrongCouples 31 (47, .iconst 0, 1) rfl rfl) rfl (by decide),
    st_iald hC (n := 32) (dc_X12_wrongCouples 32 (48, .iaload, 1) rfl rfl) rfl,
    st_icge hC (n := 33) (dc_X12_wrongCouples 33 (49, .if_icmp .ge 77, 3) rfl rfl) rfl (by decide),
    st_aload_n hC (n := 34) (k := 0) (dc_X12_wrongCouples 34 (52, .aload_n 0, 1) rfl rfl) rfl rfl,
    st_getR hC (n := 35) (k := 12) (j := 7) (dc_X12_wrongCouples 35 (53, .getfield 27, 3) rfl rfl) rfl clf_12 (by decide) rfl (by decide) wd_1559,
    st_bipush hC (n := 36) (x := 60) (dc_X12_wrongCouples 36 (56, .bipush 60, 2) rfl rfl) rfl (by decide),
    st_iload_n hC (n := 37) (k := 1) (dc_X12_wrongCouples 37 (58, .iload_n 1, 1) rfl rfl) rfl rfl,
    st_imul hC (n := 38) (dc_X12_wrongCouples 38 (59, .imul, 1) rfl rfl) rfl,
    st_iload_n hC (n := 39) (k := 3) (dc_X12_wrongCouples 39 (60, .iload_n 3, 1) rfl rfl) rfl rfl,
    st_iadd hC (n := 40) (dc_X12_wrongCouples 40 (61, .iadd, 1) rfl rfl) rfl,
    st_lald hC (n := 41) (dc_X12_wrongCouples 41 (62, .laload, 1) rfl rfl) rfl,
    st_lstore hC (n := 42) (dc_X12_wrongCouples 42 (63, .lstore 4, 2) rfl rfl) rfl (by decide),
    st_lload hC (n := 43) (dc_X12_wrongCouples 43 (65, .lload 4, 2) rfl rfl) rfl,
    st_ldc2 hC (n := 44) (x := (-1)) (dc_X12_wrongCouples 44 (67, .ldc2_w 109, 3) rfl rfl) rfl wd_1714,
    st_aload_n hC (n := 45) (k := 0) (dc_X12_wrongCouples 45 (70, .aload_n 0, 1) rfl rfl) rfl rfl,
    st_getR hC (n := 46) (k := 12) (j := 0) (dc_X12_wrongCouples 46 (71, .getfield 7, 3) rfl rfl) rfl clf_12 (by decide) rfl (by decide) wd_1552,
    st_iconst hC (n := 47) (x := 1) (dc_X12_wrongCouples 47 (74, .iconst 1, 1) rfl rfl) rfl (by decide),
    st_iald hC (n := 48) (dc_X12_wrongCouples 48 (75, .iaload, 1) rfl rfl) rfl,
    st_i2l hC (n := 49) (dc_X12_wrongCouples 49 (76, .i2l, 1) rfl rfl) rfl,
    st_lconst hC (n := 50) (x := 1) (dc_X12_wrongCouples 50 (77, .lconst 1, 1) rfl rfl) rfl (by decide),
    st_lsub hC (n := 51) (dc_X12_wrongCouples 51 (78, .lsub, 1) rfl rfl) rfl,
    st_callS hC (n := 52) (na := 3) (con_X12_isFrom l) (dc_X12_wrongCouples 52 (79, .invokestatic 373, 3) rfl rfl) rfl wd_2110 wd_160 (by decide) ⟨rfl, rfl, by decide, by decide⟩ hM wd_2108 wd_2109,
    st_ifne hC (n := 53) (dc_X12_wrongCouples 53 (82, .ifCond .ne 5, 3) rfl rfl) rfl (by decide),
    st_iconst hC (n := 54) (x := 5) (dc_X12_wrongCouples 54 (85, .iconst 5, 1) rfl rfl) rfl (by decide),
    st_iret hC (n := 55) hR (dc_X12_wrongCouples 55 (86, .ireturn, 1) rfl rfl),
    st_lload hC (n := 56) (dc_X12_wrongCouples 56 (87, .lload 4, 2) rfl rfl) rfl,
    st_ldc2 hC (n := 57) (x := (-1)) (dc_X12_wrongCouples 57 (89, .ldc2_w 109, 3) rfl rfl) rfl wd_1714,
    st_lcmp hC (n := 58) (dc_X12_wrongCouples 58 (92, .lcmp, 1) rfl rfl) rfl,
    st_ifne hC (n := 59) (dc_X12_wrongCouples 59 (93, .ifCond .ne 6, 3) rfl rfl) rfl (by decide),
    st_goto hC (n := 60) (dc_X12_wrongCouples 60 (96, .goto 24, 3) rfl rfl) (by decide),
    st_aload_n hC (n := 61) (k := 0) (dc_X12_wrongCouples 61 (99, .aload_n 0, 1) rfl rfl) rfl rfl,
    st_iload_n hC (n := 62) (k := 2) (dc_X12_wrongCouples 62 (100, .iload_n 2, 1) rfl rfl) rfl rfl,
    st_lload hC (n := 63) (dc_X12_wrongCouples 63 (101, .lload 4, 2) rfl rfl) rfl,
    st_l2i hC (n := 64) (dc_X12_wrongCouples 64 (103, .l2i, 1) rfl rfl) rfl,
    st_callV hC (n := 65) (k := 12) (na := 2) (con_X12_isIn l) (dc_X12_wrongCouples 65 (104, .invokevirtual 277, 3) rfl rfl) rfl wd_1907 wd_160 (by decide) ⟨rfl, rfl, by decide, by decide⟩ hM wd_1904 wd_1906 wd_89 clf_12,
    st_ifeq hC (n := 66) (dc_X12_wrongCouples 66 (107, .ifCond .eq 5, 3) rfl rfl) rfl (by decide),
    st_iconst hC (n := 67) (x := 5) (dc_X12_wrongCouples 67 (110, .iconst 5, 1) rfl rfl) rfl (by decide),
    st_iret hC (n := 68) hR (dc_X12_wrongCouples 68 (111, .ireturn, 1) rfl rfl),
    st_iload_n hC (n := 69) (k := 2) (dc_X12_wrongCouples 69 (112, .iload_n 2, 1) rfl rfl) rfl rfl,
    st_iconst hC (n := 70) (x := 1) (dc_X12_wrongCouples 70 (113, .iconst 1, 1) rfl rfl) rfl (by decide),
    st_lload hC (n := 71) (dc_X12_wrongCouples 71 (114, .lload 4, 2) rfl rfl) rfl,
    st_l2i hC (n := 72) (dc_X12_wrongCouples 72 (116, .l2i, 1) rfl rfl) rfl,
    st_ishl hC (n := 73) (dc_X12_wrongCouples 73 (117, .ishl, 1) rfl rfl) rfl,
    st_ior hC (n := 74) (dc_X12_wrongCouples 74 (118, .ior, 1) rfl rfl) rfl,
    st_istore_n hC (n := 75) (k := 2) (dc_X12_wrongCouples 75 (119, .istore_n 2, 1) rfl rfl) rfl rfl (by decide),
    st_iinc hC (n := 76) (x := 1) (dc_X12_wrongCouples 76 (120, .iinc 3 1, 3) rfl rfl) rfl (by decide) (by decide),
    st_goto hC (n := 77) (dc_X12_wrongCouples 77 (123, .goto (-81), 3) rfl rfl) (by decide),
    st_iconst hC (n := 78) (x := 0) (dc_X12_wrongCouples 78 (126, .iconst 0, 1) rfl rfl) rfl (by decide),
    st_iret hC (n := 79) hR (dc_X12_wrongCouples 79 (127, .ireturn, 1) rfl rfl), trivial⟩
set_option maxRecDepth 8000 in
theorem vc_X12_wrongCouples : VC P_X12_wrongCouples 6 Pre_X12_wrongCouples Fn_X12_wrongCouples := by
  rintro mm as hom hoa ⟨⟨ns, nm, n, hV⟩, x, rfl⟩
  refine ⟨Nat.le_of_ble_eq_true rfl, fun X h => ?_⟩
  have hns : mm.1 54 0 0 = nI ns := hV.1.1
  have hns4 : ns ≤ 4 := hV.1.2
  have two : (¬ x < 0 ∧ ¬ 4 ≤ x) → X 5 [some (vR 12 0), some (vI (x)), none, none, none, none] [] mm := by
    intro hc
    obtain ⟨t, ht, rfl⟩ := arg_in (n := 4) hc.1 hc.2 (by decide)
    have et : (nI t).toNatClampNeg = t := nI_clamp (by omega)
    have three : ¬ mm.1 57 0 t = -1 → ¬ mm.1 57 0 t < mm.1 54 0 0 → X 24 [some (vR 12 0), some (vI (nI t)), none, none, none, none] [] mm := by
      intro h2 h3
      have eF : Fn_X12_wrongCouples mm [vR 12 0, vI (nI t)] = (some (vI (wcG (mm.2.1 58 0) (mm.1 54 0 1).toInt64 ns (60 * t) 0)), mm) := by
        show (some (vI (wcR mm (nI t))), mm) = _
        unfold wcR
        rw [if_pos hc, et, if_neg h2, if_neg h3, hns, nI_clamp (by omega)]
      rw [eF] at h
      have loop : ∀ k j seen, j + k = ns → wcG (mm.2.1 58 0) (mm.1 54 0 1).toInt64 k (60 * t + j) seen = wcG (mm.2.1 58 0) (mm.1 54 0 1).toInt64 ns (60 * t) 0 → ∀ L4, X 28 [some (vR 12 0), some (vI (nI t)), some (vI (seen)), some (vI (nI j)), L4, none] [] mm := by
        intro k
        induction k with
        | zero =>
          intro j seen hj hR L4
          have hj2 : j = ns := by omega
          rw [← hR] at h
          show X 28 [some (vR 12 0), some (vI (nI t)), some (vI seen), some (vI (nI j)), L4, none] [] mm
          refine h (fun _ => false) 3000 28 _ _ _ ?_
          refine And.intro rfl ?_
          refine br_t (by ((try simp (disch := omega) only [hns, li, pk_mul, nI_add, nI_clamp, nI_leI, nI_ltI, nI_eq, bI_0, bI_n0, Decidable.not_not, gu_m1]); first | done | omega | assumption)) ?_
          show ((some (vI 0) : Option MV), mm) = _
          exact rfl
        | succ k ih =>
          intro j seen hj hR L4
          rw [wcG] at hR
          have x2 : (60 * nI t + nI j).toNatClampNeg = 60 * t + j := by simp (disch := omega) only [li, pk_mul, nI_add, nI_clamp]
          have e2 : 60 * t + j + 1 = 60 * t + (j + 1) := by omega
          rw [e2] at hR
          have st : ∀ g L4, wcG (mm.2.1 58 0) (mm.1 54 0 1).toInt64 k (60 * t + (j + 1)) g = wcG (mm.2.1 58 0) (mm.1 54 0 1).toInt64 ns (60 * t) 0 → X 76 [some (vR 12 0), some (vI (nI t)), some (vI (g)), some (vI (nI j)), L4, none] [] mm := by
            intro g L4 hg
            have := ih (j + 1) g (by omega) hg L4
            show X 76 [some (vR 12 0), some (vI (nI t)), some (vI g), some (vI (nI j)), L4, none] [] mm
            refine h (fun i => Nat.beq i 28) 3000 76 _ _ _ ?_
            show X 28 [some (vR 12 0), some (vI (nI t)), some (vI g), some (vI ((nI j) + 1)), L4, none] [] mm
            rw [nI_1]
            exact this
          have at42 : X 43 [some (vR 12 0), some (vI (nI t)), some (vI (seen)), some (vI (nI j)), some (vL ((mm.2.1 58 0 (60 * t + j)))), none] [] mm := by
            show X 43 [some (vR 12 0), some (vI (nI t)), some (vI seen), some (vI (nI j)), some (vL (mm.2.1 58 0 (60 * t + j))), none] [] mm
            refine h (fun i => Nat.beq i 76) 3000 43 _ _ _ ?_
            refine And.intro rfl ?_
            refine And.intro ⟨_, _, _, rfl⟩ ?_
            refine brn_c (fun b53 => ?_) (fun b53 => ?_)
            · -- 53: bI (¬ lg_cmp (mm.2.1 58 0 (60 * t + j)) (-1) < 0 ∧ ¬ 0 < lg_cmp (mm.2.1 58 0 (60 * t + j)) (((mm.1 54 0 1).toInt64) - 1)) = 0 taken
              replace b53 : ¬ lg_cmp (mm.2.1 58 0 (60 * t + j)) (-1) < 0 ∧ ¬ 0 < lg_cmp (mm.2.1 58 0 (60 * t + j)) (((mm.1 54 0 1).toInt64) - 1) := bI_n0.mp b53
              refine brn_c (fun b59 => ?_) (fun b59 => ?_)
              · -- 59: lg_cmp (mm.2.1 58 0 (60 * t + j)) (-1) = 0 taken
                replace b59 : ¬ (lg_cmp (mm.2.1 58 0 (60 * t + j)) (-1) = 0) := b59
                refine And.intro ⟨_, _, rfl⟩ ?_
                refine br_c (fun b66 => ?_) (fun b66 => ?_)
                · -- 66: bI (inS seen ((mm.2.1 58 0 (60 * t + j)).toInt32)) = 0 taken
                  replace b66 : ¬ (inS seen ((mm.2.1 58 0 (60 * t + j)).toInt32)) := bI_0.mp b66
                  show X 76 [some (vR 12 0), some (vI (nI t)), some (vI (seen ||| (1 <<< (((mm.2.1 58 0 (60 * t + j)).toInt32) &&& 31)))), some (vI (nI j)), some (vL (mm.2.1 58 0 (60 * t + j))), none] [] mm
                  exact st _ _ (by rw [if_pos b53, if_neg b59, if_neg b66] at hR; exact hR)
                · -- 66: bI (inS seen ((mm.2.1 58 0 (60 * t + j)).toInt32)) = 0 on
                  replace b66 : inS seen ((mm.2.1 58 0 (60 * t + j)).toInt32) := bI_n0.mp b66
                  show ((some (vI 5) : Option MV), mm) = _
                  rw [if_pos b53, if_neg b59, if_pos b66] at hR
                  exact congrArg (fun z => ((some (vI z) : Option MV), mm)) hR
              · -- 59: lg_cmp (mm.2.1 58 0 (60 * t + j)) (-1) = 0 on
                replace b59 : lg_cmp (mm.2.1 58 0 (60 * t + j)) (-1) = 0 := b59
                show X 76 [some (vR 12 0), some (vI (nI t)), some (vI seen), some (vI (nI j)), some (vL (mm.2.1 58 0 (60 * t + j))), none] [] mm
                exact st _ _ (by rw [if_pos b53, if_pos b59] at hR; exact hR)
            · -- 53: bI (¬ lg_cmp (mm.2.1 58 0 (60 * t + j)) (-1) < 0 ∧ ¬ 0 < lg_cmp (mm.2.1 58 0 (60 * t + j)) (((mm.1 54 0 1).toInt64) - 1)) = 0 on
              replace b53 : ¬ (¬ lg_cmp (mm.2.1 58 0 (60 * t + j)) (-1) < 0 ∧ ¬ 0 < lg_cmp (mm.2.1 58 0 (60 * t + j)) (((mm.1 54 0 1).toInt64) - 1)) := bI_0.mp b53
              show ((some (vI 5) : Option MV), mm) = _
              rw [if_neg b53] at hR
              exact congrArg (fun z => ((some (vI z) : Option MV), mm)) hR
          show X 28 [some (vR 12 0), some (vI (nI t)), some (vI seen), some (vI (nI j)), L4, none] [] mm
          refine h (fun i => Nat.beq i 43) 3000 28 _ _ _ ?_
          refine And.intro rfl ?_
          refine br_f (by ((try simp (disch := omega) only [hns, li, pk_mul, nI_add, nI_clamp, nI_leI, nI_ltI, nI_eq, bI_0, bI_n0, Decidable.not_not, gu_m1]); first | done | omega | assumption)) ?_
          refine And.intro (inb_o 240 rfl rfl (show (60 * (nI t)) + (nI j) = nI ((60 * ( t)) + ( j)) by simp (disch := omega) only [li, pk_mul, nI_add, nI_clamp]) (by omega)) ?_
          show X 43 [some (vR 12 0), some (vI (nI t)), some (vI seen), some (vI (nI j)), some (vL (mm.2.1 58 0 ((60 * (nI t)) + (nI j)).toNatClampNeg)), none] [] mm
          rw [x2]
          exact at42
      show X 24 [some (vR 12 0), some (vI (nI t)), none, none, none, none] [] mm
      refine h (fun i => Nat.beq i 28) 3000 24 _ _ _ ?_
      show X 28 [some (vR 12 0), some (vI (nI t)), some (vI 0), some (vI 0), none, none] [] mm
      exact loop ns 0 0 (by omega) rfl none
    show X 5 [some (vR 12 0), some (vI (nI t)), none, none, none, none] [] mm
    refine h (fun i => Nat.beq i 24) 3000 5 _ _ _ ?_
    refine And.intro (inb_o 4 rfl rfl rfl (by omega)) ?_
    refine brn_c (fun b10 => ?_) (fun b10 => ?_)
    · -- 10: mm.1 57 0 (nI t).toNatClampNeg = (-1) taken
      replace b10 : ¬ (mm.1 57 0 (nI t).toNatClampNeg = (-1)) := b10
      rw [et] at b10
      refine And.intro (inb_o 4 rfl rfl rfl (by omega)) ?_
      refine And.intro rfl ?_
      refine br_c (fun b21 => ?_) (fun b21 => ?_)
      · -- 21: mm.1 54 0 0 ≤ mm.1 57 0 (nI t).toNatClampNeg taken
        replace b21 : mm.1 54 0 0 ≤ mm.1 57 0 (nI t).toNatClampNeg := b21
        rw [et] at b21
        show X 24 [some (vR 12 0), some (vI (nI t)), none, none, none, none] [] mm
        exact three b10 (Int32.not_lt.mpr b21)
      · -- 21: mm.1 54 0 0 ≤ mm.1 57 0 (nI t).toNatClampNeg on
        replace b21 : ¬ (mm.1 54 0 0 ≤ mm.1 57 0 (nI t).toNatClampNeg) := b21
        rw [et] at b21
        show ((some (vI 3) : Option MV), mm) = _
        refine leaf ?_
        show _ = (some (vI (wcR mm (nI t))), mm) 
        unfold wcR 
        rw [if_pos hc, et, if_neg b10, if_pos (Int32.not_le.mp b21)]
    · -- 10: mm.1 57 0 (nI t).toNatClampNeg = (-1) on
      replace b10 : mm.1 57 0 (nI t).toNatClampNeg = (-1) := b10
      rw [et] at b10
      show ((some (vI 2) : Option MV), mm) = _
      refine leaf ?_
      show _ = (some (vI (wcR mm (nI t))), mm) 
      unfold wcR 
      rw [if_pos hc, et, if_pos b10]
  show X 0 [some (vR 12 0), some (vI x), none, none, none, none] [] mm
  refine h (fun i => Nat.beq i 5) 3000 0 _ _ _ ?_
  refine And.intro ⟨_, rfl⟩ ?_
  refine brn_c (fun b2 => ?_) (fun b2 => ?_)
  · -- 2: bI (¬ x < 0 ∧ ¬ 4 ≤ x) = 0 taken
    replace b2 : ¬ x < 0 ∧ ¬ 4 ≤ x := bI_n0.mp b2
    show X 5 [some (vR 12 0), some (vI x), none, none, none, none] [] mm
    exact two b2
  · -- 2: bI (¬ x < 0 ∧ ¬ 4 ≤ x) = 0 on
    replace b2 : ¬ (¬ x < 0 ∧ ¬ 4 ≤ x) := bI_0.mp b2
    show ((some (vI 1) : Option MV), mm) = _
    refine leaf ?_
    show _ = (some (vI (wcR mm x)), mm) 
    unfold wcR 
    rw [if_neg b2]
theorem con_X12_wrongCouples (l : Launch) : CON l y_X12_wrongCouples prog_14_method_130_code 6 (some .int) rm_X12_wrongCouples Pre_X12_wrongCouples Fn_X12_wrongCouples := CON_of (by decide) rfl rfl (sa_X12_wrongCouples l) vc_X12_wrongCouples
/-- what the one whom a tray gives to d says is heard -/
def hrF (a : Nat → Int32) (T : Nat → Int64) (t d : Nat) : Nat → Int32
  | 0 => -1
  | o + 1 => if lg_cmp (T (60 * t + o)) (nI d).toInt64 = 0 then hdA a (nI o) d else hrF a T t d o
def hisF (a : Nat → Int32) (T : Nat → Int64) (t s : Nat) : Int32 := if (T (60 * t + s)).toInt32 = -1 then -1 else a (128 + 4 * s + (T (60 * t + s)).toInt32.toNatClampNeg)
abbrev btP (a : Nat → Int32) (T : Nat → Int64) (ns t s d : Nat) : Prop := ¬ (T (60 * t + s)).toInt32 = nI d ∧ ¬ a (128 + 4 * s + d) ≤ hisF a T t s ∧ ¬ hdA a (nI s) d ≤ hrF a T t d ns

--tpl ⟨hM, hOk, {1N}, {2N}, {3N}, by omega, by omega, by omega, hOw _ (by omega), rfl⟩ || bI (btP {A} ({m}.2.1 58 0) ({a} 0).toNatClampNeg {1n} {2n} {3n})
def Pre_X12_doBolt : PreT := fun m as => VM m ∧ True ∧ ∃ t s d : Nat, t < 4 ∧ s < 4 ∧ d < 4 ∧ ((m.2.1 58 0 (60 * t + s)).toInt32 = -1 ∨ ∃ k, k < 4 ∧ (m.2.1 58 0 (60 * t + s)).toInt32 = nI k) ∧ as = [vR 12 0, vI (nI t), vI (nI s), vI (nI d)]
def Fn_X12_doBolt : FnT := fun m as => match as with
  | [_, Sum.inl t, Sum.inl s, Sum.inl d] => (some (vI (bI (btP (m.1 54 0) (m.2.1 58 0) (m.1 54 0 0).toNatClampNeg t.toNatClampNeg s.toNatClampNeg d.toNatClampNeg))), m)
  | _ => (none, m)
abbrev y_X12_doBolt : MethodName := ⟨"GivenUpModel", "doBolt", "(III)Z"⟩
def P_X12_doBolt : List StpT := [s_aload 0, s_getR 12 7 58, s_ic (60), s_iload 1, s_imul, s_iload 2, s_iadd, s_lald, s_l2i, s_istore 4, s_iload 4, s_ic (-1), s_icne 15, s_ic (-1), s_goto 25, s_aload 0, s_getR 12 0 54, s_ic (128), s_ic (4), s_iload 2, s_imul, s_iadd, s_iload 4, s_iadd, s_iald, s_istore 5, s_ic (-1), s_istore 6, s_ic (0), s_istore 7, s_iload 7, s_aload 0, s_getR 12 0 54, s_ic (0), s_iald, s_icge 55, s_aload 0, s_getR 12 7 58, s_ic (60), s_iload 1, s_imul, s_iload 7, s_iadd, s_lald, s_iload 3, s_i2l, s_lcmp, s_ifne 53, s_aload 0, s_iload 7, s_iload 3, s_callV 12 2 Pre_X12_heardOf Fn_X12_heardOf, s_istore 6, s_iinc 7 (1), s_goto 30, s_iload 4, s_iload 3, s_iceq 78, s_aload 0, s_getR 12 0 54, s_ic (128), s_ic (4), s_iload 2, s_imul, s_iadd, s_iload 3, s_iadd, s_iald, s_iload 5, s_icle 78, s_aload 0, s_iload 2, s_iload 3, s_callV 12 2 Pre_X12_heardOf Fn_X12_heardOf, s_iload 6, s_icle 78, s_ic (1), s_goto 79, s_ic (0), s_zret]
def pc_X12_doBolt : Nat → Nat := fun i => [0, 1, 4, 6, 7, 8, 9, 10, 11, 12, 14, 16, 17, 20, 21, 24, 25, 28, 31, 32, 33, 34, 35, 37, 38, 39, 41, 42, 44, 45, 47, 49, 50, 53, 54, 55, 58, 59, 62, 64, 65, 66, 68, 69, 70, 71, 72, 73, 76, 77, 79, 80, 83, 85, 88, 91, 93, 94, 97, 98, 101, 104, 105, 106, 107, 108, 109, 110, 111, 113, 116, 117, 118, 119, 122, 124, 127, 128, 131, 132].getD i 0
def dl_X12_doBolt : List (Nat × Instr × Nat) := [(0, .aload_n 0, 1), (1, .getfield 27, 3), (4, .bipush 60, 2), (6, .iload_n 1, 1), (7, .imul, 1), (8, .iload_n 2, 1), (9, .iadd, 1), (10, .laload, 1), (11, .l2i, 1), (12, .istore 4, 2), (14, .iload 4, 2), (16, .iconst (-1), 1), (17, .if_icmp .ne 7, 3), (20, .iconst (-1), 1), (21, .goto 18, 3), (24, .aload_n 0, 1), (25, .getfield 7, 3), (28, .sipush 128, 3), (31, .iconst 4, 1), (32, .iload_n 2, 1), (33, .imul, 1), (34, .iadd, 1), (35, .iload 4, 2), (37, .iadd, 1), (38, .iaload, 1), (39, .istore 5, 2), (41, .iconst (-1), 1), (42, .istore 6, 2), (44, .iconst 0, 1), (45, .istore 7, 2), (47, .iload 7, 2), (49, .aload_n 0, 1), (50, .getfield 7, 3), (53, .iconst 0, 1), (54, .iaload, 1), (55, .if_icmp .ge 36, 3), (58, .aload_n 0, 1), (59, .getfield 27, 3), (62, .bipush 60, 2), (64, .iload_n 1, 1), (65, .imul, 1), (66, .iload 7, 2), (68, .iadd, 1), (69, .laload, 1), (70, .iload_n 3, 1), (71, .i2l, 1), (72, .lcmp, 1), (73, .ifCond .ne 12, 3), (76, .aload_n 0, 1), (77, .iload 7, 2), (79, .iload_n 3, 1), (80, .invokevirtual 298, 3), (83, .istore 6, 2), (85, .iinc 7 1, 3), (88, .goto (-41), 3), (91, .iload 4, 2), (93, .iload_n 3, 1), (94, .if_icmp .eq 37, 3), (97, .aload_n 0, 1), (98, .getfield 7, 3), (101, .sipush 128, 3), (104, .iconst 4, 1), (105, .iload_n 2, 1), (106, .imul, 1), (107, .iadd, 1), (108, .iload_n 3, 1), (109, .iadd, 1), (110, .iaload, 1), (111, .iload 5, 2), (113, .if_icmp .le 18, 3), (116, .aload_n 0, 1), (117, .iload_n 2, 1), (118, .iload_n 3, 1), (119, .invokevirtual 298, 3), (122, .iload 6, 2), (124, .if_icmp .le 7, 3), (127, .iconst 1, 1), (128, .goto 4, 3), (131, .iconst 0, 1), (132, .ireturn, 1)]
theorem dc_X12_doBolt : DEC prog_14_method_131_code pc_X12_doBolt dl_X12_doBolt := DEC_of (by decide +kernel)
abbrev rm_X12_doBolt : Room := { frames := 4, cells := 0, slots := 0, locals := 86 }
set_option maxRecDepth 20000 in
theorem sa_X12_doBolt (l : Launch) : SNDALL l prog_14_method_131_code "GivenUpModel" 8 (some .boolean) rm_X12_doBolt P_X12_doBolt pc_X12_doBolt := fun p e s m args below meth c cells slots Q D dA ad A RR hC hR => by
  have hM := RTX_room (R := rm_X12_doBolt) hR
  exact ⟨st_aload_n hC (n := 0) (k := 0) (dc_X12_doBolt 0 (0, .aload_n 0, 1) rfl rfl) rfl rfl,
    st_getR hC (n := 1) (k := 12) (j := 7) (dc_X12_doBolt 1 (1, .getfield 27, 3) rfl rfl) rfl clf_12 (by decide) rfl (by decide) wd_1559,
    st_bipush hC (n := 2) (x := 60) (dc_X12_doBolt 2 (4, .bipush 60, 2) rfl rfl) rfl (by decide),
    st_iload_n hC (n := 3) (k := 1) (dc_X12_doBolt 3 (6, .iload_n 1, 1) rfl rfl) rfl rfl,
    st_imul hC (n := 4) (dc_X12_doBolt 4 (7, .imul, 1) rfl rfl) rfl,
    st_iload_n hC (n := 5) (k := 2) (dc_X12_doBolt 5 (8, .iload_n 2, 1) rfl rfl) rfl rfl,
    st_iadd hC (n := 6) (dc_X12_doBolt 6 (9, .iadd, 1) rfl rfl) rfl,
    st_lald hC (n := 7) (dc_X12_doBolt 7 (10, .laload, 1) rfl rfl) rfl,
    st_l2i hC (n := 8) (dc_X12_doBolt 8 (11, .l2i, 1) rfl rfl) rfl,
    st_istore hC (n := 9) (dc_X12_doBolt 9 (12, .istore 4, 2) rfl rfl) rfl (by decide),
    st_iload hC (n := 10) (dc_X12_doBolt 10 (14, .iload 4, 2) rfl rfl) rfl,
    st_iconst hC (n := 11) (x := (-1)) (dc_X12_doBolt 11 (16, .iconst (-1), 1) rfl rfl) rfl (by decide),
    st_icne hC (n := 12) (dc_X12_doBolt 12 (17, .if_icmp .ne 7, 3) rfl rfl) rfl (by decide),
    st_iconst hC (n := 13) (x := (-1)) (dc_X12_doBolt 13 (20, .iconst (-1), 1) rfl rfl) rfl (by decide),
    st_goto hC (n := 14) (dc_X12_doBolt 14 (21, .goto 18, 3) rfl rfl) (by decide),
    st_aload_n hC (n := 15) (k := 0) (dc_X12_doBolt 15 (24, .aload_n 0, 1) rfl rfl) rfl rfl,
    st_getR hC (n := 16) (k := 12) (j := 0) (dc_X12_doBolt 16 (25, .getfield 7, 3) rfl rfl) rfl clf_12 (by decide) rfl (by decide) wd_1552,
    st_sipush hC (n := 17) (x := 128) (dc_X12_doBolt 17 (28, .sipush 128, 3) rfl rfl) rfl (by decide),
    st_iconst hC (n := 18) (x := 4) (dc_X12_doBolt 18 (31, .iconst 4, 1) rfl rfl) rfl (by decide),
    st_iload_n hC (n := 19) (k := 2) (dc_X12_doBolt 19 (32, .iload_n 2, 1) rfl rfl) rfl rfl,
    st_imul hC (n := 20) (dc_X12_doBolt 20 (33, .imul, 1) rfl rfl) rfl,
    st_iadd hC (n := 21) (dc_X12_doBolt 21 (34, .iadd, 1) rfl rfl) rfl,
    st_iload hC (n := 22) (dc_X12_doBolt 22 (35, .iload 4, 2) rfl rfl) rfl,
    st_iadd hC (n := 23) (dc_X12_doBolt 23 (37, .iadd, 1) rfl rfl) rfl,
    st_iald hC (n := 24) (dc_X12_doBolt 24 (38, .iaload, 1) rfl rfl) rfl,
    st_istore hC (n := 25) (dc_X12_doBolt 25 (39, .istore 5, 2) rfl rfl) rfl (by decide),
    st_iconst hC (n := 26) (x := (-1)) (dc_X12_doBolt 26 (41, .iconst (-1), 1) rfl rfl) rfl (by decide),
    st_istore hC (n := 27) (dc_X12_doBolt 27 (42, .istore 6, 2) rfl rfl) rfl (by decide),
    st_iconst hC (n := 28) (x := 0) (dc_X12_doBolt 28 (44, .iconst 0, 1) rfl rfl) rfl (by decide),
    st_istore hC (n := 29) (dc_X12_doBolt 29 (45, .istore 7, 2) rfl rfl) rfl (by decide),
    st_iload hC (n := 30) (dc_X12_doBolt 30 (47, .iload 7, 2) rfl rfl) rfl,
    st_aload_n hC (n := 31) (k := 0) (dc_X12_doBolt 31 (49, .aload_n 0, 1) rfl rfl) rfl rfl,
    st_getR hC (n := 32) (k := 12) (j := 0) (dc_X12_doBolt 32 (50, .getfield 7, 3) rfl rfl) rfl clf_12 (by decide) rfl (by decide) wd_1552,
    st_iconst hC (n := 33) (x := 0) (dc_X12_doBolt 33 (53, .iconst 0, 1) rfl rfl) rfl (by decide),
    st_iald hC (n := 34) (dc_X12_doBolt 34 (54, .iaload, 1) rfl rfl) rfl,
    st_icge hC (n := 35) (dc_X12_doBolt 35 (55, .if_icmp .ge 36, 3) rfl rfl) rfl (by decide),
    st_aload_n hC (n := 36) (k := 0) (dc_X12_doBolt 36 (58, .aload_n 0, 1) rfl rfl) rfl rfl,
    st_getR hC (n := 37) (k := 12) (j := 7) (dc_X12_doBolt 37 (59, .getfield 27, 3) rfl rfl) rfl clf_12 (by decide) rfl (by decide) wd_1559,
    st_bipush hC (n := 38) (x := 60) (dc_X12_doBolt 38 (62, .bipush 60, 2) rfl rfl) rfl (by decide),
    st_iload_n hC (n := 39) (k := 1) (dc_X12_doBolt 39 (64, .iload_n 1, 1) rfl rfl) rfl rfl,
    st_imul hC (n := 40) (dc_X12_doBolt 40 (65, .imul, 1) rfl rfl) rfl,
    st_iload hC (n := 41) (dc_X12_doBolt 41 (66, .iload 7, 2) rfl rfl) rfl,
    st_iadd hC (n := 42) (dc_X12_doBolt 42 (68, .iadd, 1) rfl rfl) rfl,
    st_lald hC (n := 43) (dc_X12_doBolt 43 (69, .laload, 1) rfl rfl) rfl,
    st_iload_n hC (n := 44) (k := 3) (dc_X12_doBolt 44 (70, .iload_n 3, 1) rfl rfl) rfl rfl,
    st_i2l hC (n := 45) (dc_X12_doBolt 45 (71, .i2l, 1) rfl rfl) rfl,
    st_lcmp hC (n := 46) (dc_X12_doBolt 46 (72, .lcmp, 1) rfl rfl) rfl,
    st_ifne hC (n := 47) (dc_X12_doBolt 47 (73, .ifCond .ne 12, 3) rfl rfl) rfl (by decide),
    st_aload_n hC (n := 48) (k := 0) (dc_X12_doBolt 48 (76, .aload_n 0, 1) rfl rfl) rfl rfl,
    st_iload hC (n := 49) (dc_X12_doBolt 49 (77, .iload 7, 2) rfl rfl) rfl,
    st_iload_n hC (n := 50) (k := 3) (dc_X12_doBolt 50 (79, .iload_n 3, 1) rfl rfl) rfl rfl,
    st_callV hC (n := 51) (k := 12) (na := 2) (con_X12_heardOf l) (dc_X12_doBolt 51 (80, .invokevirtual 298, 3) rfl rfl) rfl wd_2021 wd_160 (by decide) ⟨rfl, rfl, by decide, by decide⟩ hM wd_2018 wd_2020 wd_106 clf_12,
    st_istore hC (n := 52) (dc_X12_doBolt 52 (83, .istore 6, 2) rfl rfl) rfl (by decide),
    st_iinc hC (n := 53) (x := 1) (dc_X12_doBolt 53 (85, .iinc 7 1, 3) rfl rfl) rfl (by decide) (by decide),
    st_goto hC (n := 54) (dc_X12_doBolt 54 (88, .goto (-41), 3) rfl rfl) (by decide),
    st_iload hC (n := 55) (dc_X12_doBolt 55 (91, .iload 4, 2) rfl rfl) rfl,
    st_iload_n hC (n := 56) (k := 3) (dc_X12_doBolt 56 (93, .iload_n 3, 1) rfl rfl) rfl rfl,
    st_iceq hC (n := 57) (dc_X12_doBolt 57 (94, .if_icmp .eq 37, 3) rfl rfl) rfl (by decide),
    st_aload_n hC (n := 58) (k := 0) (dc_X12_doBolt 58 (97, .aload_n 0, 1) rfl rfl) rfl rfl,
    st_getR hC (n := 59) (k := 12) (j := 0) (dc_X12_doBolt 59 (98, .getfield 7, 3) rfl rfl) rfl clf_12 (by decide) rfl (by decide) wd_1552,
    st_sipush hC (n := 60) (x := 128) (dc_X12_doBolt 60 (101, .sipush 128, 3) rfl rfl) rfl (by decide),
    st_iconst hC (n := 61) (x := 4) (dc_X12_doBolt 61 (104, .iconst 4, 1) rfl rfl) rfl (by decide),
    st_iload_n hC (n := 62) (k := 2) (dc_X12_doBolt 62 (105, .iload_n 2, 1) rfl rfl) rfl rfl,
    st_imul hC (n := 63) (dc_X12_doBolt 63 (106, .imul, 1) rfl rfl) rfl,
    st_iadd hC (n := 64) (dc_X12_doBolt 64 (107, .iadd, 1) rfl rfl) rfl,
    st_iload_n hC (n := 65) (k := 3) (dc_X12_doBolt 65 (108, .iload_n 3, 1) rfl rfl) rfl rfl,
    st_iadd hC (n := 66) (dc_X12_doBolt 66 (109, .iadd, 1) rfl rfl) rfl,
    st_iald hC (n := 67) (dc_X12_doBolt 67 (110, .iaload, 1) rfl rfl) rfl,
    st_iload hC (n := 68) (dc_X12_doBolt 68 (111, .iload 5, 2) rfl rfl) rfl,
    st_icle hC (n := 69) (dc_X12_doBolt 69 (113, .if_icmp .le 18, 3) rfl rfl) rfl (by decide),
    st_aload_n hC (n := 70) (k := 0) (dc_X12_doBolt 70 (116, .aload_n 0, 1) rfl rfl) rfl rfl,
    st_iload_n hC (n := 71) (k := 2) (dc_X12_doBolt 71 (117, .iload_n 2, 1) rfl rfl) rfl rfl,
    st_iload_n hC (n := 72) (k := 3) (dc_X12_doBolt 72 (118, .iload_n 3, 1) rfl rfl) rfl rfl,
    st_callV hC (n := 73) (k := 12) (na := 2) (con_X12_heardOf l) (dc_X12_doBolt 73 (119, .invokevirtual 298, 3) rfl rfl) rfl wd_2021 wd_160 (by decide) ⟨rfl, rfl, by decide, by decide⟩ hM wd_2018 wd_2020 wd_106 clf_12,
    st_iload hC (n := 74) (dc_X12_doBolt 74 (122, .iload 6, 2) rfl rfl) rfl,
    st_icle hC (n := 75) (dc_X12_doBolt 75 (124, .if_icmp .le 7, 3) rfl rfl) rfl (by decide),
    st_iconst hC (n := 76) (x := 1) (dc_X12_doBolt 76 (127, .iconst 1, 1) rfl rfl) rfl (by decide),
    st_goto hC (n := 77) (dc_X12_doBolt 77 (128, .goto 4, 3) rfl rfl) (by decide),
    st_iconst hC (n := 78) (x := 0) (dc_X12_doBolt 78 (131, .iconst 0, 1) rfl rfl) rfl (by decide),
    st_zret hC (n := 79) hR (dc_X12_doBolt 79 (132, .ireturn, 1) rfl rfl), trivial⟩
set_option maxRecDepth 8000 in
theorem vc_X12_doBolt : VC P_X12_doBolt 8 Pre_X12_doBolt Fn_X12_doBolt := by
  rintro mm as hom hoa ⟨⟨ns, nm, n, hV⟩, -, t, s, d, ht, hs, hd, hO, rfl⟩
  refine ⟨Nat.le_of_ble_eq_true rfl, fun X h => ?_⟩
  have hM : VM mm := ⟨ns, nm, n, hV⟩
  have hns : mm.1 54 0 0 = nI ns := hV.1.1
  have hns4 : ns ≤ 4 := hV.1.2
  have ed : (nI d).toNatClampNeg = d := nI_clamp (by omega)
  have eF : Fn_X12_doBolt mm [vR 12 0, vI (nI t), vI (nI s), vI (nI d)] = (some (vI (bI (btP (mm.1 54 0) (mm.2.1 58 0) ns t s d))), mm) := by
    show (some (vI (bI (btP (mm.1 54 0) (mm.2.1 58 0) (mm.1 54 0 0).toNatClampNeg (nI t).toNatClampNeg (nI s).toNatClampNeg (nI d).toNatClampNeg))), mm) = _
    rw [hns, ed, nI_clamp (show t < 2 ^ 31 by omega), nI_clamp (show s < 2 ^ 31 by omega), nI_clamp (show ns < 2 ^ 31 by omega)]
  rw [eF] at h
  have x2 : (60 * nI t + nI s).toNatClampNeg = 60 * t + s := by simp (disch := omega) only [li, pk_mul, nI_add, nI_clamp]
  have loop : ∀ o, o ≤ ns → X 30 [some (vR 12 0), some (vI (nI t)), some (vI (nI s)), some (vI (nI d)), some (vI ((mm.2.1 58 0 (60 * t + s)).toInt32)), some (vI (hisF (mm.1 54 0) (mm.2.1 58 0) t s)), some (vI (hrF (mm.1 54 0) (mm.2.1 58 0) t d o)), some (vI (nI o))] [] mm := by
    refine up_ind ns ?_ (fun o ho ih => ?_)
    · have x3 : (128 + 4 * nI s + nI d).toNatClampNeg = 128 + 4 * s + d := by simp (disch := omega) only [li, pk_mul, nI_add, nI_clamp]
      show X 30 [some (vR 12 0), some (vI (nI t)), some (vI (nI s)), some (vI (nI d)), some (vI ((mm.2.1 58 0 (60 * t + s)).toInt32)), some (vI (hisF (mm.1 54 0) (mm.2.1 58 0) t s)), some (vI (hrF (mm.1 54 0) (mm.2.1 58 0) t d ns)), some (vI (nI ns))] [] mm
      refine h (fun _ => false) 3000 30 _ _ _ ?_
      refine And.intro rfl ?_
      refine br_t (by ((try simp (disch := omega) only [hns, li, pk_mul, nI_add, nI_clamp, nI_leI, nI_ltI, nI_eq, bI_0, bI_n0, Decidable.not_not, gu_m1]); first | done | omega | assumption)) ?_
      refine br_c (fun b57 => ?_) (fun b57 => ?_)
      · -- 57: (mm.2.1 58 0 (60 * t + s)).toInt32 = nI d taken
        replace b57 : (mm.2.1 58 0 (60 * t + s)).toInt32 = nI d := b57
        refine And.intro (Or.inl rfl) ?_
        show ((some (vI 0) : Option MV), mm) = _
        exact ret_f (fun z => z.1 b57)
      · -- 57: (mm.2.1 58 0 (60 * t + s)).toInt32 = nI d on
        replace b57 : ¬ ((mm.2.1 58 0 (60 * t + s)).toInt32 = nI d) := b57
        refine And.intro (inb_o 3060 rfl rfl (show (128 + (4 * (nI s))) + (nI d) = nI ((128 + (4 * ( s))) + ( d)) by simp (disch := omega) only [li, pk_mul, nI_add, nI_clamp]) (by omega)) ?_
        refine br_c (fun b69 => ?_) (fun b69 => ?_)
        · -- 69: mm.1 54 0 ((128 + (4 * (nI s))) + (nI d)).toNatClampNeg ≤ hisF (mm.1 54 0) (mm.2.1 58 0) t s taken
          replace b69 : mm.1 54 0 ((128 + (4 * (nI s))) + (nI d)).toNatClampNeg ≤ hisF (mm.1 54 0) (mm.2.1 58 0) t s := b69
          rw [x3] at b69
          refine And.intro (Or.inl rfl) ?_
          show ((some (vI 0) : Option MV), mm) = _
          exact ret_f (fun z => z.2.1 b69)
        · -- 69: mm.1 54 0 ((128 + (4 * (nI s))) + (nI d)).toNatClampNeg ≤ hisF (mm.1 54 0) (mm.2.1 58 0) t s on
          replace b69 : ¬ (mm.1 54 0 ((128 + (4 * (nI s))) + (nI d)).toNatClampNeg ≤ hisF (mm.1 54 0) (mm.2.1 58 0) t s) := b69
          rw [x3] at b69
          refine And.intro ⟨hM, _, d, by omega, rfl⟩ ?_
          refine br_c (fun b75 => ?_) (fun b75 => ?_)
          · -- 75: hdA (mm.1 54 0) (nI s) (nI d).toNatClampNeg ≤ hrF (mm.1 54 0) (mm.2.1 58 0) t d ns taken
            replace b75 : hdA (mm.1 54 0) (nI s) (nI d).toNatClampNeg ≤ hrF (mm.1 54 0) (mm.2.1 58 0) t d ns := b75
            rw [ed] at b75
            refine And.intro (Or.inl rfl) ?_
            show ((some (vI 0) : Option MV), mm) = _
            first | exact ret_f (fun z => z.2.2 b75) | exact ret_t ⟨b57, b69, b75⟩
          · -- 75: hdA (mm.1 54 0) (nI s) (nI d).toNatClampNeg ≤ hrF (mm.1 54 0) (mm.2.1 58 0) t d ns on
            replace b75 : ¬ (hdA (mm.1 54 0) (nI s) (nI d).toNatClampNeg ≤ hrF (mm.1 54 0) (mm.2.1 58 0) t d ns) := b75
            rw [ed] at b75
            refine And.intro (Or.inr rfl) ?_
            show ((some (vI 1) : Option MV), mm) = _
            first | exact ret_f (fun z => z.2.2 b75) | exact ret_t ⟨b57, b69, b75⟩
    · have x4 : (60 * nI t + nI o).toNatClampNeg = 60 * t + o := by simp (disch := omega) only [li, pk_mul, nI_add, nI_clamp]
      have eo : (nI o).toNatClampNeg = o := nI_clamp (by omega)
      have st : ∀ v, v = hrF (mm.1 54 0) (mm.2.1 58 0) t d (o + 1) → X 53 [some (vR 12 0), some (vI (nI t)), some (vI (nI s)), some (vI (nI d)), some (vI ((mm.2.1 58 0 (60 * t + s)).toInt32)), some (vI (hisF (mm.1 54 0) (mm.2.1 58 0) t s)), some (vI (v)), some (vI (nI o))] [] mm := by
        intro v ev
        show X 53 [some (vR 12 0), some (vI (nI t)), some (vI (nI s)), some (vI (nI d)), some (vI ((mm.2.1 58 0 (60 * t + s)).toInt32)), some (vI (hisF (mm.1 54 0) (mm.2.1 58 0) t s)), some (vI v), some (vI (nI o))] [] mm
        refine h (fun i => Nat.beq i 30) 3000 53 _ _ _ ?_
        show X 30 [some (vR 12 0), some (vI (nI t)), some (vI (nI s)), some (vI (nI d)), some (vI ((mm.2.1 58 0 (60 * t + s)).toInt32)), some (vI (hisF (mm.1 54 0) (mm.2.1 58 0) t s)), some (vI v), some (vI ((nI o) + 1))] [] mm
        rw [nI_1, ev]
        exact ih
      show X 30 [some (vR 12 0), some (vI (nI t)), some (vI (nI s)), some (vI (nI d)), some (vI ((mm.2.1 58 0 (60 * t + s)).toInt32)), some (vI (hisF (mm.1 54 0) (mm.2.1 58 0) t s)), some (vI (hrF (mm.1 54 0) (mm.2.1 58 0) t d o)), some (vI (nI o))] [] mm
      refine h (fun i => Nat.beq i 53) 3000 30 _ _ _ ?_
      refine And.intro rfl ?_
      refine br_f (by ((try simp (disch := omega) only [hns, li, pk_mul, nI_add, nI_clamp, nI_leI, nI_ltI, nI_eq, bI_0, bI_n0, Decidable.not_not, gu_m1]); first | done | omega | assumption)) ?_
      refine And.intro (inb_o 240 rfl rfl (show (60 * (nI t)) + (nI o) = nI ((60 * ( t)) + ( o)) by simp (disch := omega) only [li, pk_mul, nI_add, nI_clamp]) (by omega)) ?_
      refine brn_c (fun b47 => ?_) (fun b47 => ?_)
      · -- 47: lg_cmp (mm.2.1 58 0 ((60 * (nI t)) + (nI o)).toNatClampNeg) ((nI d).toInt64) = 0 taken
        replace b47 : ¬ (lg_cmp (mm.2.1 58 0 ((60 * (nI t)) + (nI o)).toNatClampNeg) ((nI d).toInt64) = 0) := b47
        rw [x4] at b47
        show X 53 [some (vR 12 0), some (vI (nI t)), some (vI (nI s)), some (vI (nI d)), some (vI ((mm.2.1 58 0 (60 * t + s)).toInt32)), some (vI (hisF (mm.1 54 0) (mm.2.1 58 0) t s)), some (vI (hrF (mm.1 54 0) (mm.2.1 58 0) t d o)), some (vI (nI o))] [] mm
        refine st _ ?_
        rw [hrF] 
        first | rw [if_pos b47] | rw [if_neg b47]
      · -- 47: lg_cmp (mm.2.1 58 0 ((60 * (nI t)) + (nI o)).toNatClampNeg) ((nI d).toInt64) = 0 on
        replace b47 : lg_cmp (mm.2.1 58 0 ((60 * (nI t)) + (nI o)).toNatClampNeg) ((nI d).toInt64) = 0 := b47
        rw [x4] at b47
        refine And.intro ⟨hM, _, d, by omega, rfl⟩ ?_
        show X 53 [some (vR 12 0), some (vI (nI t)), some (vI (nI s)), some (vI (nI d)), some (vI ((mm.2.1 58 0 (60 * t + s)).toInt32)), some (vI (hisF (mm.1 54 0) (mm.2.1 58 0) t s)), some (vI (hdA (mm.1 54 0) (nI o) (nI d).toNatClampNeg)), some (vI (nI o))] [] mm
        rw [ed]
        refine st _ ?_
        rw [hrF] 
        first | rw [if_pos b47] | rw [if_neg b47]
  have at26 : ∀ v, v = hisF (mm.1 54 0) (mm.2.1 58 0) t s → X 25 [some (vR 12 0), some (vI (nI t)), some (vI (nI s)), some (vI (nI d)), some (vI ((mm.2.1 58 0 (60 * t + s)).toInt32)), none, none, none] [vI (v)] mm := by
    intro v ev
    show X 25 [some (vR 12 0), some (vI (nI t)), some (vI (nI s)), some (vI (nI d)), some (vI ((mm.2.1 58 0 (60 * t + s)).toInt32)), none, none, none] [vI v] mm
    refine h (fun i => Nat.beq i 30) 3000 25 _ _ _ ?_
    show X 30 [some (vR 12 0), some (vI (nI t)), some (vI (nI s)), some (vI (nI d)), some (vI ((mm.2.1 58 0 (60 * t + s)).toInt32)), some (vI v), some (vI (-1)), some (vI 0)] [] mm
    rw [ev]
    exact loop 0 (by omega)
  suffices z : X 10 [some (vR 12 0), some (vI (nI t)), some (vI (nI s)), some (vI (nI d)), some (vI ((mm.2.1 58 0 (60 * t + s)).toInt32)), none, none, none] [] mm by
    show X 0 [some (vR 12 0), some (vI (nI t)), some (vI (nI s)), some (vI (nI d)), none, none, none, none] [] mm
    refine h (fun i => Nat.beq i 10) 3000 0 _ _ _ ?_
    refine And.intro (inb_o 240 rfl rfl (show (60 * (nI t)) + (nI s) = nI ((60 * ( t)) + ( s)) by simp (disch := omega) only [li, pk_mul, nI_add, nI_clamp]) (by omega)) ?_
    show X 10 [some (vR 12 0), some (vI (nI t)), some (vI (nI s)), some (vI (nI d)), some (vI ((mm.2.1 58 0 ((60 * (nI t)) + (nI s)).toNatClampNeg).toInt32)), none, none, none] [] mm
    rw [x2]
    exact z
  rcases hO with e | ⟨k, hk, e⟩
  ·
    show X 10 [some (vR 12 0), some (vI (nI t)), some (vI (nI s)), some (vI (nI d)), some (vI ((mm.2.1 58 0 (60 * t + s)).toInt32)), none, none, none] [] mm
    refine h (fun i => Nat.beq i 25) 3000 10 _ _ _ ?_
    refine brn_f (e) ?_
    show X 25 [some (vR 12 0), some (vI (nI t)), some (vI (nI s)), some (vI (nI d)), some (vI ((mm.2.1 58 0 (60 * t + s)).toInt32)), none, none, none] [vI (-1)] mm
    exact at26 _ (if_pos e).symm
  · have n1 : ¬ (mm.2.1 58 0 (60 * t + s)).toInt32 = -1 := fun z => (gu_m1 (n := k) (by omega)).mp (e.symm.trans z)
    have x3 : 128 + 4 * nI s + (mm.2.1 58 0 (60 * t + s)).toInt32 = nI (128 + 4 * s + k) := by rw [e]; simp (disch := omega) only [li, pk_mul, nI_add, nI_clamp]
    show X 10 [some (vR 12 0), some (vI (nI t)), some (vI (nI s)), some (vI (nI d)), some (vI ((mm.2.1 58 0 (60 * t + s)).toInt32)), none, none, none] [] mm
    refine h (fun i => Nat.beq i 25) 3000 10 _ _ _ ?_
    refine brn_t (n1) ?_
    refine And.intro (inb_o 3060 rfl rfl x3 (by omega)) ?_
    show X 25 [some (vR 12 0), some (vI (nI t)), some (vI (nI s)), some (vI (nI d)), some (vI ((mm.2.1 58 0 (60 * t + s)).toInt32)), none, none, none] [vI (mm.1 54 0 ((128 + (4 * (nI s))) + ((mm.2.1 58 0 (60 * t + s)).toInt32)).toNatClampNeg)] mm
    refine at26 _ ?_
    unfold hisF 
    rw [if_neg n1, x3, e, nI_clamp (by omega), nI_clamp (by omega)]
theorem con_X12_doBolt (l : Launch) : CON l y_X12_doBolt prog_14_method_131_code 8 (some .boolean) rm_X12_doBolt Pre_X12_doBolt Fn_X12_doBolt := CON_of (by decide) rfl rfl (sa_X12_doBolt l) vc_X12_doBolt
/-- how many would bolt, with one SUITOR; with all -/
def btI (P : Nat → Prop) [DecidablePred P] (c : Int32) : Nat → Int32
  | 0 => c
  | k + 1 => btI P c k + (if P k then 1 else 0)
def btO (a : Nat → Int32) (T : Nat → Int64) (ns nm t : Nat) : Nat → Int32
  | 0 => 0
  | s + 1 => btI (btP a T ns t s) (btO a T ns nm t s) nm

def Pre_X12_bolts : PreT := fun m as => VM m ∧ ∃ x : Int32, as = [vR 12 0, vI x]
def Fn_X12_bolts : FnT := fun m as => match as with
  | [_, Sum.inl x] => if wcR m x ≤ 0 then gvM m (btO (m.1 54 0) (m.2.1 58 0) (m.1 54 0 0).toNatClampNeg (m.1 54 0 1).toNatClampNeg x.toNatClampNeg (m.1 54 0 0).toNatClampNeg) else rfM m (wcR m x)
  | _ => (none, m)
abbrev y_X12_bolts : MethodName := ⟨"GivenUpModel", "bolts", "(I)I"⟩
def P_X12_bolts : List StpT := [s_aload 0, s_iload 1, s_callV 12 1 Pre_X12_wrongCouples Fn_X12_wrongCouples, s_istore 2, s_iload 2, s_ifle 10, s_aload 0, s_iload 2, s_callV 12 1 Pre_X12_refuse Fn_X12_refuse, s_iret, s_ic (0), s_istore 3, s_ic (0), s_istore 4, s_iload 4, s_aload 0, s_getR 12 0 54, s_ic (0), s_iald, s_icge 44, s_ic (0), s_istore 5, s_iload 5, s_aload 0, s_getR 12 0 54, s_ic (1), s_iald, s_icge 42, s_iload 3, s_aload 0, s_iload 1, s_iload 4, s_iload 5, s_callV 12 3 Pre_X12_doBolt Fn_X12_doBolt, s_ifeq 37, s_ic (1), s_goto 38, s_ic (0), s_iadd, s_istore 3, s_iinc 5 (1), s_goto 22, s_iinc 4 (1), s_goto 14, s_aload 0, s_iload 3, s_callV 12 1 Pre_X12_gives Fn_X12_gives, s_iret]
def pc_X12_bolts : Nat → Nat := fun i => [0, 1, 2, 5, 6, 7, 10, 11, 12, 15, 16, 17, 18, 19, 21, 23, 24, 27, 28, 29, 32, 33, 35, 37, 38, 41, 42, 43, 46, 47, 48, 49, 51, 53, 56, 59, 60, 63, 64, 65, 66, 69, 72, 75, 78, 79, 80, 83].getD i 0
def dl_X12_bolts : List (Nat × Instr × Nat) := [(0, .aload_n 0, 1), (1, .iload_n 1, 1), (2, .invokevirtual 416, 3), (5, .istore_n 2, 1), (6, .iload_n 2, 1), (7, .ifCond .le 9, 3), (10, .aload_n 0, 1), (11, .iload_n 2, 1), (12, .invokevirtual 87, 3), (15, .ireturn, 1), (16, .iconst 0, 1), (17, .istore_n 3, 1), (18, .iconst 0, 1), (19, .istore 4, 2), (21, .iload 4, 2), (23, .aload_n 0, 1), (24, .getfield 7, 3), (27, .iconst 0, 1), (28, .iaload, 1), (29, .if_icmp .ge 49, 3), (32, .iconst 0, 1), (33, .istore 5, 2), (35, .iload 5, 2), (37, .aload_n 0, 1), (38, .getfield 7, 3), (41, .iconst 1, 1), (42, .iaload, 1), (43, .if_icmp .ge 29, 3), (46, .iload_n 3, 1), (47, .aload_n 0, 1), (48, .iload_n 1, 1), (49, .iload 4, 2), (51, .iload 5, 2), (53, .invokevirtual 419, 3), (56, .ifCond .eq 7, 3), (59, .iconst 1, 1), (60, .goto 4, 3), (63, .iconst 0, 1), (64, .iadd, 1), (65, .istore_n 3, 1), (66, .iinc 5 1, 3), (69, .goto (-34), 3), (72, .iinc 4 1, 3), (75, .goto (-54), 3), (78, .aload_n 0, 1), (79, .iload_n 3, 1), (80, .invokevirtual 91, 3), (83, .ireturn, 1)]
theorem dc_X12_bolts : DEC prog_14_method_132_code pc_X12_bolts dl_X12_bolts := DEC_of (by decide +kernel)
abbrev rm_X12_bolts : Room := { frames := 5, cells := 0, slots := 0, locals := 113 }
set_option maxRecDepth 20000 in
theorem sa_X12_bolts (l : Launch) : SNDALL l prog_14_method_132_code "GivenUpModel" 6 (some .int) rm_X12_bolts P_X12_bolts pc_X12_bolts := fun p e s m args below meth c cells slots Q D dA ad A RR hC hR => by
  have hM := RTX_room (R := rm_X12_bolts) hR
  exact ⟨st_aload_n hC (n := 0) (k := 0) (dc_X12_bolts 0 (0, .aload_n 0, 1) rfl rfl) rfl rfl,
    st_iload_n hC (n := 1) (k := 1) (dc_X12_bolts 1 (1, .iload_n 1, 1) rfl rfl) rfl rfl,
    st_callV hC (n := 2) (k := 12) (na := 1) (con_X12_wrongCouples l) (dc_X12_bolts 2 (2, .invokevirtual 416, 3) rfl rfl) rfl wd_2199 wd_160 (by decide) ⟨rfl, rfl, by decide, by decide⟩ hM wd_2196 wd_2198 wd_125 clf_12,
    st_istore_n hC (n := 3) (k := 2) (dc_X12_bolts 3 (5, .istore_n 2, 1) rfl rfl) rfl rfl (by decide),
    st_iload_n hC (n := 4) (k := 2) (dc_X12_bolts 4 (6, .iload_n 2, 1) rfl rfl) rfl rfl,
    st_ifle hC (n := 5) (dc_X12_bolts 5 (7, .ifCond .le 9, 3) rfl rfl) rfl (by decide),
    st_aload_n hC (n := 6) (k := 0) (dc_X12_bolts 6 (10, .aload_n 0, 1) rfl rfl) rfl rfl,
    st_iload_n hC (n := 7) (k := 2) (dc_X12_bolts 7 (11, .iload_n 2, 1) rfl rfl) rfl rfl,
    st_callV hC (n := 8) (k := 12) (na := 1) (con_X12_refuse l) (dc_X12_bolts 8 (12, .invokevirtual 87, 3) rfl rfl) rfl wd_1758 wd_160 (by decide) ⟨rfl, rfl, by decide, by decide⟩ hM wd_1755 wd_1757 wd_57 clf_12,
    st_iret hC (n := 9) hR (dc_X12_bolts 9 (15, .ireturn, 1) rfl rfl),
    st_iconst hC (n := 10) (x := 0) (dc_X12_bolts 10 (16, .iconst 0, 1) rfl rfl) rfl (by decide),
    st_istore_n hC (n := 11) (k := 3) (dc_X12_bolts 11 (17, .istore_n 3, 1) rfl rfl) rfl rfl (by decide),
    st_iconst hC (n := 12) (x := 0) (dc_X12_bolts 12 (18, .iconst 0, 1) rfl rfl) rfl (by decide),
    st_istore hC (n := 13) (dc_X12_bolts 13 (19, .istore 4, 2) rfl rfl) rfl (by decide),
    st_iload hC (n := 14) (dc_X12_bolts 14 (21, .iload 4, 2) rfl rfl) rfl,
    st_aload_n hC (n := 15) (k := 0) (dc_X12_bolts 15 (23, .aload_n 0, 1) rfl rfl) rfl rfl,
    st_getR hC (n := 16) (k := 12) (j := 0) (dc_X12_bolts 16 (24, .getfield 7, 3) rfl rfl) rfl clf_12 (by decide) rfl (by decide) wd_1552,
    st_iconst hC (n := 17) (x := 0) (dc_X12_bolts 17 (27, .iconst 0, 1) rfl rfl) rfl (by decide),
    st_iald hC (n := 18) (dc_X12_bolts 18 (28, .iaload, 1) rfl rfl) rfl,
    st_icge hC (n := 19) (dc_X12_bolts 19 (29, .if_icmp .ge 49, 3) rfl rfl) rfl (by decide),
    st_iconst hC (n := 20) (x := 0) (dc_X12_bolts 20 (32, .iconst 0, 1) rfl rfl) rfl (by decide),
    st_istore hC (n := 21) (dc_X12_bolts 21 (33, .istore 5, 2) rfl rfl) rfl (by decide),
    st_iload hC (n := 22) (dc_X12_bolts 22 (35, .iload 5, 2) rfl rfl) rfl,
    st_aload_n hC (n := 23) (k := 0) (dc_X12_bolts 23 (37, .aload_n 0, 1) rfl rfl) rfl rfl,
    st_getR hC (n := 24) (k := 12) (j := 0) (dc_X12_bolts 24 (38, .getfield 7, 3) rfl rfl) rfl clf_12 (by decide) rfl (by decide) wd_1552,
    st_iconst hC (n := 25) (x := 1) (dc_X12_bolts 25 (41, .iconst 1, 1) rfl rfl) rfl (by decide),
    st_iald hC (n := 26) (dc_X12_bolts 26 (42, .iaload, 1) rfl rfl) rfl,
    st_icge hC (n := 27) (dc_X12_bolts 27 (43, .if_icmp .ge 29, 3) rfl rfl) rfl (by decide),
    st_iload_n hC (n := 28) (k := 3) (dc_X12_bolts 28 (46, .iload_n 3, 1) rfl rfl) rfl rfl,
    st_aload_n hC (n := 29) (k := 0) (dc_X12_bolts 29 (47, .aload_n 0, 1) rfl rfl) rfl rfl,
    st_iload_n hC (n := 30) (k := 1) (dc_X12_bolts 30 (48, .iload_n 1, 1) rfl rfl) rfl rfl,
    st_iload hC (n := 31) (dc_X12_bolts 31 (49, .iload 4, 2) rfl rfl) rfl,
    st_iload hC (n := 32) (dc_X12_bolts 32 (51, .iload 5, 2) rfl rfl) rfl,
    st_callV hC (n := 33) (k := 12) (na := 3) (con_X12_doBolt l) (dc_X12_bolts 33 (53, .invokevirtual 419, 3) rfl rfl) rfl wd_2203 wd_160 (by decide) ⟨rfl, rfl, by decide, by decide⟩ hM wd_2200 wd_2202 wd_126 clf_12,
    st_ifeq hC (n := 34) (dc_X12_bolts 34 (56, .ifCond .eq 7, 3) rfl rfl) rfl (by decide),
    st_iconst hC (n := 35) (x := 1) (dc_X12_bolts 35 (59, .iconst 1, 1) rfl rfl) rfl (by decide),
    st_goto hC (n := 36) (dc_X12_bolts 36 (60, .goto 4, 3) rfl rfl) (by decide),
    st_iconst hC (n := 37) (x := 0) (dc_X12_bolts 37 (63, .iconst 0, 1) rfl rfl) rfl (by decide),
    st_iadd hC (n := 38) (dc_X12_bolts 38 (64, .iadd, 1) rfl rfl) rfl,
    st_istore_n hC (n := 39) (k := 3) (dc_X12_bolts 39 (65, .istore_n 3, 1) rfl rfl) rfl rfl (by decide),
    st_iinc hC (n := 40) (x := 1) (dc_X12_bolts 40 (66, .iinc 5 1, 3) rfl rfl) rfl (by decide) (by decide),
    st_goto hC (n := 41) (dc_X12_bolts 41 (69, .goto (-34), 3) rfl rfl) (by decide),
    st_iinc hC (n := 42) (x := 1) (dc_X12_bolts 42 (72, .iinc 4 1, 3) rfl rfl) rfl (by decide) (by decide),
    st_goto hC (n := 43) (dc_X12_bolts 43 (75, .goto (-54), 3) rfl rfl) (by decide),
    st_aload_n hC (n := 44) (k := 0) (dc_X12_bolts 44 (78, .aload_n 0, 1) rfl rfl) rfl rfl,
    st_iload_n hC (n := 45) (k := 3) (dc_X12_bolts 45 (79, .iload_n 3, 1) rfl rfl) rfl rfl,
    st_callV hC (n := 46) (k := 12) (na := 1) (con_X12_gives l) (dc_X12_bolts 46 (80, .invokevirtual 91, 3) rfl rfl) rfl wd_1849 wd_160 (by decide) ⟨rfl, rfl, by decide, by decide⟩ hM wd_1846 wd_1848 wd_79 clf_12,
    st_iret hC (n := 47) hR (dc_X12_bolts 47 (83, .ireturn, 1) rfl rfl), trivial⟩
set_option maxRecDepth 8000 in
theorem vc_X12_bolts : VC P_X12_bolts 6 Pre_X12_bolts Fn_X12_bolts := by
  rintro mm as hom hoa ⟨⟨ns, nm, n, hV⟩, x, rfl⟩
  refine ⟨Nat.le_of_ble_eq_true rfl, fun X h => ?_⟩
  have hM : VM mm := ⟨ns, nm, n, hV⟩
  have hns : mm.1 54 0 0 = nI ns := hV.1.1
  have hns4 : ns ≤ 4 := hV.1.2
  have hnm : mm.1 54 0 1 = nI nm := hV.2.1.1
  have hnm4 : nm ≤ 4 := hV.2.1.2
  have body : wcR mm x ≤ 0 → X 10 [some (vR 12 0), some (vI (x)), some (vI (wcR mm x)), none, none, none] [] mm := by
    intro hp
    obtain ⟨t, ht, rfl, hOw⟩ := wcR_0 hV hp
    have et : (nI t).toNatClampNeg = t := nI_clamp (by omega)
    have ens : (nI ns).toNatClampNeg = ns := nI_clamp (by omega)
    have eF : Fn_X12_bolts mm [vR 12 0, vI (nI t)] = gvM mm (btO (mm.1 54 0) (mm.2.1 58 0) ns nm t ns) := by
      refine Eq.trans (if_pos hp) ?_
      rw [hns, hnm, et, ens, nI_clamp (show nm < 2 ^ 31 by omega)]
    rw [eF] at h
    have loop : ∀ s, s ≤ ns → ∀ L5, X 14 [some (vR 12 0), some (vI (nI t)), some (vI (wcR mm (nI t))), some (vI (btO (mm.1 54 0) (mm.2.1 58 0) ns nm t s)), some (vI (nI s)), L5] [] mm := by
      refine up_ind ns ?_ (fun s hs ih => ?_)
      · intro L5
        show X 14 [some (vR 12 0), some (vI (nI t)), some (vI (wcR mm (nI t))), some (vI (btO (mm.1 54 0) (mm.2.1 58 0) ns nm t ns)), some (vI (nI ns)), L5] [] mm
        refine h (fun _ => false) 3000 14 _ _ _ ?_
        refine And.intro rfl ?_
        refine br_t (by ((try simp (disch := omega) only [hns, li, pk_mul, nI_add, nI_clamp, nI_leI, nI_ltI, nI_eq, bI_0, bI_n0, Decidable.not_not, gu_m1]); first | done | omega | assumption)) ?_
        refine And.intro ⟨_, rfl⟩ ?_
        show ((some (vI (btO (mm.1 54 0) (mm.2.1 58 0) ns nm t ns)) : Option MV), stM mm 0) = _
        exact rfl
      · intro L5
        have es : (nI s).toNatClampNeg = s := nI_clamp (by omega)
        have inner : ∀ k, k ≤ nm → X 22 [some (vR 12 0), some (vI (nI t)), some (vI (wcR mm (nI t))), some (vI (btI (btP (mm.1 54 0) (mm.2.1 58 0) ns t s) (btO (mm.1 54 0) (mm.2.1 58 0) ns nm t s) k)), some (vI (nI s)), some (vI (nI k))] [] mm := by
          refine up_ind nm ?_ (fun k hk ihk => ?_)
          ·
            show X 22 [some (vR 12 0), some (vI (nI t)), some (vI (wcR mm (nI t))), some (vI (btI (btP (mm.1 54 0) (mm.2.1 58 0) ns t s) (btO (mm.1 54 0) (mm.2.1 58 0) ns nm t s) nm)), some (vI (nI s)), some (vI (nI nm))] [] mm
            refine h (fun i => Nat.beq i 14) 3000 22 _ _ _ ?_
            refine And.intro rfl ?_
            refine br_t (by ((try simp (disch := omega) only [hnm, li, pk_mul, nI_add, nI_clamp, nI_leI, nI_ltI, nI_eq, bI_0, bI_n0, Decidable.not_not, gu_m1]); first | done | omega | assumption)) ?_
            show X 14 [some (vR 12 0), some (vI (nI t)), some (vI (wcR mm (nI t))), some (vI (btI (btP (mm.1 54 0) (mm.2.1 58 0) ns t s) (btO (mm.1 54 0) (mm.2.1 58 0) ns nm t s) nm)), some (vI ((nI s) + 1)), some (vI (nI nm))] [] mm
            rw [nI_1]
            exact ih _
          · have ek : (nI k).toNatClampNeg = k := nI_clamp (by omega)
            have st : ∀ v, btI (btP (mm.1 54 0) (mm.2.1 58 0) ns t s) (btO (mm.1 54 0) (mm.2.1 58 0) ns nm t s) k + v = btI (btP (mm.1 54 0) (mm.2.1 58 0) ns t s) (btO (mm.1 54 0) (mm.2.1 58 0) ns nm t s) (k + 1) → X 38 [some (vR 12 0), some (vI (nI t)), some (vI (wcR mm (nI t))), some (vI (btI (btP (mm.1 54 0) (mm.2.1 58 0) ns t s) (btO (mm.1 54 0) (mm.2.1 58 0) ns nm t s) k)), some (vI (nI s)), some (vI (nI k))] [vI (v), vI (btI (btP (mm.1 54 0) (mm.2.1 58 0) ns t s) (btO (mm.1 54 0) (mm.2.1 58 0) ns nm t s) k)] mm := by
              intro v ev
              show X 38 [some (vR 12 0), some (vI (nI t)), some (vI (wcR mm (nI t))), some (vI (btI (btP (mm.1 54 0) (mm.2.1 58 0) ns t s) (btO (mm.1 54 0) (mm.2.1 58 0) ns nm t s) k)), some (vI (nI s)), some (vI (nI k))] [vI v, vI (btI (btP (mm.1 54 0) (mm.2.1 58 0) ns t s) (btO (mm.1 54 0) (mm.2.1 58 0) ns nm t s) k)] mm
              refine h (fun i => Nat.beq i 22) 3000 38 _ _ _ ?_
              show X 22 [some (vR 12 0), some (vI (nI t)), some (vI (wcR mm (nI t))), some (vI ((btI (btP (mm.1 54 0) (mm.2.1 58 0) ns t s) (btO (mm.1 54 0) (mm.2.1 58 0) ns nm t s) k) + v)), some (vI (nI s)), some (vI ((nI k) + 1))] [] mm
              rw [nI_1, ev]
              exact ihk
            show X 22 [some (vR 12 0), some (vI (nI t)), some (vI (wcR mm (nI t))), some (vI (btI (btP (mm.1 54 0) (mm.2.1 58 0) ns t s) (btO (mm.1 54 0) (mm.2.1 58 0) ns nm t s) k)), some (vI (nI s)), some (vI (nI k))] [] mm
            refine h (fun i => Nat.beq i 38) 3000 22 _ _ _ ?_
            refine And.intro rfl ?_
            refine br_f (by ((try simp (disch := omega) only [hnm, li, pk_mul, nI_add, nI_clamp, nI_leI, nI_ltI, nI_eq, bI_0, bI_n0, Decidable.not_not, gu_m1]); first | done | omega | assumption)) ?_
            refine And.intro ⟨hM, trivial, t, s, k, by omega, by omega, by omega, (hOw s hs).imp id (fun ⟨q, hq, e⟩ => ⟨q, by omega, e⟩), rfl⟩ ?_
            refine br_c (fun b34 => ?_) (fun b34 => ?_)
            · -- 34: bI (btP (mm.1 54 0) (mm.2.1 58 0) (mm.1 54 0 0).toNatClampNeg (nI t).toNatClampNeg (nI s).toNatClampNeg (nI k).toNatClampNeg) = 0 taken
              replace b34 : ¬ (btP (mm.1 54 0) (mm.2.1 58 0) (mm.1 54 0 0).toNatClampNeg (nI t).toNatClampNeg (nI s).toNatClampNeg (nI k).toNatClampNeg) := bI_0.mp b34
              rw [et] at b34
              rw [es] at b34
              rw [ek] at b34
              rw [hns, ens] at b34
              show X 38 [some (vR 12 0), some (vI (nI t)), some (vI (wcR mm (nI t))), some (vI (btI (btP (mm.1 54 0) (mm.2.1 58 0) ns t s) (btO (mm.1 54 0) (mm.2.1 58 0) ns nm t s) k)), some (vI (nI s)), some (vI (nI k))] [vI 0, vI (btI (btP (mm.1 54 0) (mm.2.1 58 0) ns t s) (btO (mm.1 54 0) (mm.2.1 58 0) ns nm t s) k)] mm
              refine st _ ?_
              rw [btI] 
              first | rw [if_pos b34] | rw [if_neg b34]
            · -- 34: bI (btP (mm.1 54 0) (mm.2.1 58 0) (mm.1 54 0 0).toNatClampNeg (nI t).toNatClampNeg (nI s).toNatClampNeg (nI k).toNatClampNeg) = 0 on
              replace b34 : btP (mm.1 54 0) (mm.2.1 58 0) (mm.1 54 0 0).toNatClampNeg (nI t).toNatClampNeg (nI s).toNatClampNeg (nI k).toNatClampNeg := bI_n0.mp b34
              rw [et] at b34
              rw [es] at b34
              rw [ek] at b34
              rw [hns, ens] at b34
              show X 38 [some (vR 12 0), some (vI (nI t)), some (vI (wcR mm (nI t))), some (vI (btI (btP (mm.1 54 0) (mm.2.1 58 0) ns t s) (btO (mm.1 54 0) (mm.2.1 58 0) ns nm t s) k)), some (vI (nI s)), some (vI (nI k))] [vI 1, vI (btI (btP (mm.1 54 0) (mm.2.1 58 0) ns t s) (btO (mm.1 54 0) (mm.2.1 58 0) ns nm t s) k)] mm
              refine st _ ?_
              rw [btI] 
              first | rw [if_pos b34] | rw [if_neg b34]
        show X 14 [some (vR 12 0), some (vI (nI t)), some (vI (wcR mm (nI t))), some (vI (btO (mm.1 54 0) (mm.2.1 58 0) ns nm t s)), some (vI (nI s)), L5] [] mm
        refine h (fun i => Nat.beq i 22) 3000 14 _ _ _ ?_
        refine And.intro rfl ?_
        refine br_f (by ((try simp (disch := omega) only [hns, li, pk_mul, nI_add, nI_clamp, nI_leI, nI_ltI, nI_eq, bI_0, bI_n0, Decidable.not_not, gu_m1]); first | done | omega | assumption)) ?_
        show X 22 [some (vR 12 0), some (vI (nI t)), some (vI (wcR mm (nI t))), some (vI (btO (mm.1 54 0) (mm.2.1 58 0) ns nm t s)), some (vI (nI s)), some (vI 0)] [] mm
        exact inner 0 (by omega)
    show X 10 [some (vR 12 0), some (vI (nI t)), some (vI (wcR mm (nI t))), none, none, none] [] mm
    refine h (fun i => Nat.beq i 14) 3000 10 _ _ _ ?_
    show X 14 [some (vR 12 0), some (vI (nI t)), some (vI (wcR mm (nI t))), some (vI 0), some (vI 0), none] [] mm
    exact loop 0 (by omega) none
  show X 0 [some (vR 12 0), some (vI x), none, none, none, none] [] mm
  refine h (fun i => Nat.beq i 10) 3000 0 _ _ _ ?_
  refine And.intro ⟨hM, _, rfl⟩ ?_
  refine br_c (fun b5 => ?_) (fun b5 => ?_)
  · -- 5: wcR mm x ≤ 0 taken
    replace b5 : wcR mm x ≤ 0 := b5
    show X 10 [some (vR 12 0), some (vI x), some (vI (wcR mm x)), none, none, none] [] mm
    exact body b5
  · -- 5: wcR mm x ≤ 0 on
    replace b5 : ¬ (wcR mm x ≤ 0) := b5
    refine And.intro ⟨_, rfl⟩ ?_
    show ((some (vI (-1)) : Option MV), stM mm (wcR mm x)) = _
    exact (if_neg b5).symm
theorem con_X12_bolts (l : Launch) : CON l y_X12_bolts prog_14_method_132_code 6 (some .int) rm_X12_bolts Pre_X12_bolts Fn_X12_bolts := CON_of (by decide) rfl rfl (sa_X12_bolts l) vc_X12_bolts
/-- the first that is so, from j on -/
def bfI (P : Nat → Prop) [DecidablePred P] : Nat → Nat → Option Nat
  | 0, _ => none
  | k + 1, j => if P j then some j else bfI P k (j + 1)
def bfO (a : Nat → Int32) (T : Nat → Int64) (ns nm t : Nat) : Nat → Nat → Option (Nat × Nat)
  | 0, _ => none
  | k + 1, s => match bfI (btP a T ns t s) nm 0 with
    | some d => some (s, d)
    | none => bfO a T ns nm t k (s + 1)
def bfR (m : MM) (w : Int32) : Option (Nat × Nat) → Option MV × MM
  | some q => gvM m (if w = 0 then nI q.1 else nI q.2)
  | none => rfM m 6

def Pre_X12_bolter : PreT := fun m as => VM m ∧ ∃ x w : Int32, as = [vR 12 0, vI x, vI w]
def Fn_X12_bolter : FnT := fun m as => match as with
  | [_, Sum.inl x, Sum.inl w] => if ¬ w < 0 ∧ w ≤ 1 then (if wcR m x ≤ 0 then bfR m w (bfO (m.1 54 0) (m.2.1 58 0) (m.1 54 0 0).toNatClampNeg (m.1 54 0 1).toNatClampNeg x.toNatClampNeg (m.1 54 0 0).toNatClampNeg 0) else rfM m (wcR m x)) else rfM m 1
  | _ => (none, m)
abbrev y_X12_bolter : MethodName := ⟨"GivenUpModel", "bolter", "(II)I"⟩
def P_X12_bolter : List StpT := [s_iload 2, s_iflt 5, s_iload 2, s_ic (1), s_icle 7, s_ic (1), s_goto 10, s_aload 0, s_iload 1, s_callV 12 1 Pre_X12_wrongCouples Fn_X12_wrongCouples, s_istore 3, s_iload 3, s_ifle 17, s_aload 0, s_iload 3, s_callV 12 1 Pre_X12_refuse Fn_X12_refuse, s_iret, s_ic (0), s_istore 4, s_iload 4, s_aload 0, s_getR 12 0 54, s_ic (0), s_iald, s_icge 51, s_ic (0), s_istore 5, s_iload 5, s_aload 0, s_getR 12 0 54, s_ic (1), s_iald, s_icge 49, s_aload 0, s_iload 1, s_iload 4, s_iload 5, s_callV 12 3 Pre_X12_doBolt Fn_X12_doBolt, s_ifeq 47, s_aload 0, s_iload 2, s_ifne 44, s_iload 4, s_goto 45, s_iload 5, s_callV 12 1 Pre_X12_gives Fn_X12_gives, s_iret, s_iinc 5 (1), s_goto 27, s_iinc 4 (1), s_goto 19, s_aload 0, s_ic (6), s_callV 12 1 Pre_X12_refuse Fn_X12_refuse, s_iret]
def pc_X12_bolter : Nat → Nat := fun i => [0, 1, 4, 5, 6, 9, 10, 13, 14, 15, 18, 19, 20, 23, 24, 25, 28, 29, 30, 32, 34, 35, 38, 39, 40, 43, 44, 46, 48, 49, 52, 53, 54, 57, 58, 59, 61, 63, 66, 69, 70, 71, 74, 76, 79, 81, 84, 85, 88, 91, 94, 97, 98, 100, 103].getD i 0
def dl_X12_bolter : List (Nat × Instr × Nat) := [(0, .iload_n 2, 1), (1, .ifCond .lt 8, 3), (4, .iload_n 2, 1), (5, .iconst 1, 1), (6, .if_icmp .le 7, 3), (9, .iconst 1, 1), (10, .goto 8, 3), (13, .aload_n 0, 1), (14, .iload_n 1, 1), (15, .invokevirtual 416, 3), (18, .istore_n 3, 1), (19, .iload_n 3, 1), (20, .ifCond .le 9, 3), (23, .aload_n 0, 1), (24, .iload_n 3, 1), (25, .invokevirtual 87, 3), (28, .ireturn, 1), (29, .iconst 0, 1), (30, .istore 4, 2), (32, .iload 4, 2), (34, .aload_n 0, 1), (35, .getfield 7, 3), (38, .iconst 0, 1), (39, .iaload, 1), (40, .if_icmp .ge 57, 3), (43, .iconst 0, 1), (44, .istore 5, 2), (46, .iload 5, 2), (48, .aload_n 0, 1), (49, .getfield 7, 3), (52, .iconst 1, 1), (53, .iaload, 1), (54, .if_icmp .ge 37, 3), (57, .aload_n 0, 1), (58, .iload_n 1, 1), (59, .iload 4, 2), (61, .iload 5, 2), (63, .invokevirtual 419, 3), (66, .ifCond .eq 19, 3), (69, .aload_n 0, 1), (70, .iload_n 2, 1), (71, .ifCond .ne 8, 3), (74, .iload 4, 2), (76, .goto 5, 3), (79, .iload 5, 2), (81, .invokevirtual 91, 3), (84, .ireturn, 1), (85, .iinc 5 1, 3), (88, .goto (-42), 3), (91, .iinc 4 1, 3), (94, .goto (-62), 3), (97, .aload_n 0, 1), (98, .bipush 6, 2), (100, .invokevirtual 87, 3), (103, .ireturn, 1)]
theorem dc_X12_bolter : DEC prog_14_method_133_code pc_X12_bolter dl_X12_bolter := DEC_of (by decide +kernel)
abbrev rm_X12_bolter : Room := { frames := 5, cells := 0, slots := 0, locals := 113 }
set_option maxRecDepth 20000 in
theorem sa_X12_bolter (l : Launch) : SNDALL l prog_14_method_133_code "GivenUpModel" 6 (some .int) rm_X12_bolter P_X12_bolter pc_X12_bolter := fun p e s m args below meth c cells slots Q D dA ad A RR hC hR => by
  have hM := RTX_room (R := rm_X12_bolter) hR
  exact ⟨st_iload_n hC (n := 0) (k := 2) (dc_X12_bolter 0 (0, .iload_n 2, 1) rfl rfl) rfl rfl,
    st_iflt hC (n := 1) (dc_X12_bolter 1 (1, .ifCond .lt 8, 3) rfl rfl) rfl (by decide),
    st_iload_n hC (n := 2) (k := 2) (dc_X12_bolter 2 (4, .iload_n 2, 1) rfl rfl) rfl rfl,
    st_iconst hC (n := 3) (x := 1) (dc_X12_bolter 3 (5, .iconst 1, 1) rfl rfl) rfl (by decide),
    st_icle hC (n := 4) (dc_X12_bolter 4 (6, .if_icmp .le 7, 3) rfl rfl) rfl (by decide),
    st_iconst hC (n := 5) (x := 1) (dc_X12_bolter 5 (9, .iconst 1, 1) rfl rfl) rfl (by decide),
    st_goto hC (n := 6) (dc_X12_bolter 6 (10, .goto 8, 3) rfl rfl) (by decide),
    st_aload_n hC (n := 7) (k := 0) (dc_X12_bolter 7 (13, .aload_n 0, 1) rfl rfl) rfl rfl,
    st_iload_n hC (n := 8) (k := 1) (dc_X12_bolter 8 (14, .iload_n 1, 1) rfl rfl) rfl rfl,
    st_callV hC (n := 9) (k := 12) (na := 1) (con_X12_wrongCouples l) (dc_X12_bolter 9 (15, .invokevirtual 416, 3) rfl rfl) rfl wd_2199 wd_160 (by decide) ⟨rfl, rfl, by decide, by decide⟩ hM wd_2196 wd_2198 wd_125 clf_12,
    st_istore_n hC (n := 10) (k := 3) (dc_X12_bolter 10 (18, .istore_n 3, 1) rfl rfl) rfl rfl (by decide),
    st_iload_n hC (n := 11) (k := 3) (dc_X12_bolter 11 (19, .iload_n 3, 1) rfl rfl) rfl rfl,
    st_ifle hC (n := 12) (dc_X12_bolter 12 (20, .ifCond .le 9, 3) rfl rfl) rfl (by decide),
    st_aload_n hC (n := 13) (k := 0) (dc_X12_bolter 13 (23, .aload_n 0, 1) rfl rfl) rfl rfl,
    st_iload_n hC (n := 14) (k := 3) (dc_X12_bolter 14 (24, .iload_n 3, 1) rfl rfl) rfl rfl,
    st_callV hC (n := 15) (k := 12) (na := 1) (con_X12_refuse l) (dc_X12_bolter 15 (25, .invokevirtual 87, 3) rfl rfl) rfl wd_1758 wd_160 (by decide) ⟨rfl, rfl, by decide, by decide⟩ hM wd_1755 wd_1757 wd_57 clf_12,
    st_iret hC (n := 16) hR (dc_X12_bolter 16 (28, .ireturn, 1) rfl rfl),
    st_iconst hC (n := 17) (x := 0) (dc_X12_bolter 17 (29, .iconst 0, 1) rfl rfl) rfl (by decide),
    st_istore hC (n := 18) (dc_X12_bolter 18 (30, .istore 4, 2) rfl rfl) rfl (by decide),
    st_iload hC (n := 19) (dc_X12_bolter 19 (32, .iload 4, 2) rfl rfl) rfl,
    st_aload_n hC (n := 20) (k := 0) (dc_X12_bolter 20 (34, .aload_n 0, 1) rfl rfl) rfl rfl,
    st_getR hC (n := 21) (k := 12) (j := 0) (dc_X12_bolter 21 (35, .getfield 7, 3) rfl rfl) rfl clf_12 (by decide) rfl (by decide) wd_1552,
    st_iconst hC (n := 22) (x := 0) (dc_X12_bolter 22 (38, .iconst 0, 1) rfl rfl) rfl (by decide),
    st_iald hC (n := 23) (dc_X12_bolter 23 (39, .iaload, 1) rfl rfl) rfl,
    st_icge hC (n := 24) (dc_X12_bolter 24 (40, .if_icmp .ge 57, 3) rfl rfl) rfl (by decide),
    st_iconst hC (n := 25) (x := 0) (dc_X12_bolter 25 (43, .iconst 0, 1) rfl rfl) rfl (by decide),
    st_istore hC (n := 26) (dc_X12_bolter 26 (44, .istore 5, 2) rfl rfl) rfl (by decide),
    st_iload hC (n := 27) (dc_X12_bolter 27 (46, .iload 5, 2) rfl rfl) rfl,
    st_aload_n hC (n := 28) (k := 0) (dc_X12_bolter 28 (48, .aload_n 0, 1) rfl rfl) rfl rfl,
    st_getR hC (n := 29) (k := 12) (j := 0) (dc_X12_bolter 29 (49, .getfield 7, 3) rfl rfl) rfl clf_12 (by decide) rfl (by decide) wd_1552,
    st_iconst hC (n := 30) (x := 1) (dc_X12_bolter 30 (52, .iconst 1, 1) rfl rfl) rfl (by decide),
    st_iald hC (n := 31) (dc_X12_bolter 31 (53, .iaload, 1) rfl rfl) rfl,
    st_icge hC (n := 32) (dc_X12_bolter 32 (54, .if_icmp .ge 37, 3) rfl rfl) rfl (by decide),
    st_aload_n hC (n := 33) (k := 0) (dc_X12_bolter 33 (57, .aload_n 0, 1) rfl rfl) rfl rfl,
    st_iload_n hC (n := 34) (k := 1) (dc_X12_bolter 34 (58, .iload_n 1, 1) rfl rfl) rfl rfl,
    st_iload hC (n := 35) (dc_X12_bolter 35 (59, .iload 4, 2) rfl rfl) rfl,
    st_iload hC (n := 36) (dc_X12_bolter 36 (61, .iload 5, 2) rfl rfl) rfl,
    st_callV hC (n := 37) (k := 12) (na := 3) (con_X12_doBolt l) (dc_X12_bolter 37 (63, .invokevirtual 419, 3) rfl rfl) rfl wd_2203 wd_160 (by decide) ⟨rfl, rfl, by decide, by decide⟩ hM wd_2200 wd_2202 wd_126 clf_12,
    st_ifeq hC (n := 38) (dc_X12_bolter 38 (66, .ifCond .eq 19, 3) rfl rfl) rfl (by decide),
    st_aload_n hC (n := 39) (k := 0) (dc_X12_bolter 39 (69, .aload_n 0, 1) rfl rfl) rfl rfl,
    st_iload_n hC (n := 40) (k := 2) (dc_X12_bolter 40 (70, .iload_n 2, 1) rfl rfl) rfl rfl,
    st_ifne hC (n := 41) (dc_X12_bolter 41 (71, .ifCond .ne 8, 3) rfl rfl) rfl (by decide),
    st_iload hC (n := 42) (dc_X12_bolter 42 (74, .iload 4, 2) rfl rfl) rfl,
    st_goto hC (n := 43) (dc_X12_bolter 43 (76, .goto 5, 3) rfl rfl) (by decide),
    st_iload hC (n := 44) (dc_X12_bolter 44 (79, .iload 5, 2) rfl rfl) rfl,
    st_callV hC (n := 45) (k := 12) (na := 1) (con_X12_gives l) (dc_X12_bolter 45 (81, .invokevirtual 91, 3) rfl rfl) rfl wd_1849 wd_160 (by decide) ⟨rfl, rfl, by decide, by decide⟩ hM wd_1846 wd_1848 wd_79 clf_12,
    st_iret hC (n := 46) hR (dc_X12_bolter 46 (84, .ireturn, 1) rfl rfl),
    st_iinc hC (n := 47) (x := 1) (dc_X12_bolter 47 (85, .iinc 5 1, 3) rfl rfl) rfl (by decide) (by decide),
    st_goto hC (n := 48) (dc_X12_bolter 48 (88, .goto (-42), 3) rfl rfl) (by decide),
    st_iinc hC (n := 49) (x := 1) (dc_X12_bolter 49 (91, .iinc 4 1, 3) rfl rfl) rfl (by decide) (by decide),
    st_goto hC (n := 50) (dc_X12_bolter 50 (94, .goto (-62), 3) rfl rfl) (by decide),
    st_aload_n hC (n := 51) (k := 0) (dc_X12_bolter 51 (97, .aload_n 0, 1) rfl rfl) rfl rfl,
    st_bipush hC (n := 52) (x := 6) (dc_X12_bolter 52 (98, .bipush 6, 2) rfl rfl) rfl (by decide),
    st_callV hC (n := 53) (k := 12) (na := 1) (con_X12_refuse l) (dc_X12_bolter 53 (100, .invokevirtual 87, 3) rfl rfl) rfl wd_1758 wd_160 (by decide) ⟨rfl, rfl, by decide, by decide⟩ hM wd_1755 wd_1757 wd_57 clf_12,
    st_iret hC (n := 54) hR (dc_X12_bolter 54 (103, .ireturn, 1) rfl rfl), trivial⟩
set_option maxRecDepth 8000 in
theorem vc_X12_bolter : VC P_X12_bolter 6 Pre_X12_bolter Fn_X12_bolter := by
  rintro mm as hom hoa ⟨⟨ns, nm, n, hV⟩, x, w, rfl⟩
  refine ⟨Nat.le_of_ble_eq_true rfl, fun X h => ?_⟩
  have hM : VM mm := ⟨ns, nm, n, hV⟩
  have hns : mm.1 54 0 0 = nI ns := hV.1.1
  have hns4 : ns ≤ 4 := hV.1.2
  have hnm : mm.1 54 0 1 = nI nm := hV.2.1.1
  have hnm4 : nm ≤ 4 := hV.2.1.2
  have body : (¬ w < 0 ∧ w ≤ 1) → wcR mm x ≤ 0 → X 17 [some (vR 12 0), some (vI (x)), some (vI (w)), some (vI (wcR mm x)), none, none] [] mm := by
    intro hp1 hp
    obtain ⟨t, ht, rfl, hOw⟩ := wcR_0 hV hp
    have et : (nI t).toNatClampNeg = t := nI_clamp (by omega)
    have ens : (nI ns).toNatClampNeg = ns := nI_clamp (by omega)
    have eF : Fn_X12_bolter mm [vR 12 0, vI (nI t), vI w] = bfR mm w (bfO (mm.1 54 0) (mm.2.1 58 0) ns nm t ns 0) := by
      refine Eq.trans (if_pos hp1) (Eq.trans (if_pos hp) ?_)
      rw [hns, hnm, et, ens, nI_clamp (show nm < 2 ^ 31 by omega)]
    rw [eF] at h
    obtain ⟨R, eR⟩ : ∃ R, R = bfO (mm.1 54 0) (mm.2.1 58 0) ns nm t ns 0 := ⟨_, rfl⟩
    rw [← eR] at h
    have loop : ∀ k s, s + k = ns → bfO (mm.1 54 0) (mm.2.1 58 0) ns nm t k s = R → ∀ L5, X 19 [some (vR 12 0), some (vI (nI t)), some (vI (w)), some (vI (wcR mm (nI t))), some (vI (nI s)), L5] [] mm := by
      intro k
      induction k with
      | zero =>
        intro s hs hR L5
        have hs2 : s = ns := by omega
        rw [← hR] at h
        show X 19 [some (vR 12 0), some (vI (nI t)), some (vI w), some (vI (wcR mm (nI t))), some (vI (nI s)), L5] [] mm
        refine h (fun _ => false) 3000 19 _ _ _ ?_
        refine And.intro rfl ?_
        refine br_t (by ((try simp (disch := omega) only [hns, li, pk_mul, nI_add, nI_clamp, nI_leI, nI_ltI, nI_eq, bI_0, bI_n0, Decidable.not_not, gu_m1]); first | done | omega | assumption)) ?_
        refine And.intro ⟨_, rfl⟩ ?_
        show ((some (vI (-1)) : Option MV), stM mm 6) = _
        exact rfl
      | succ k ih =>
        intro s hs hR L5
        have es : (nI s).toNatClampNeg = s := nI_clamp (by omega)
        have inner : ∀ k' j, j + k' = nm → (match bfI (btP (mm.1 54 0) (mm.2.1 58 0) ns t s) k' j with | some d => some (s, d) | none => bfO (mm.1 54 0) (mm.2.1 58 0) ns nm t k (s + 1)) = R → X 27 [some (vR 12 0), some (vI (nI t)), some (vI (w)), some (vI (wcR mm (nI t))), some (vI (nI s)), some (vI (nI j))] [] mm := by
          intro k'
          induction k' with
          | zero =>
            intro j hj hR
            have := ih (s + 1) (by omega) hR
            have hj2 : j = nm := by omega
            show X 27 [some (vR 12 0), some (vI (nI t)), some (vI w), some (vI (wcR mm (nI t))), some (vI (nI s)), some (vI (nI j))] [] mm
            refine h (fun i => Nat.beq i 19) 3000 27 _ _ _ ?_
            refine And.intro rfl ?_
            refine br_t (by ((try simp (disch := omega) only [hnm, li, pk_mul, nI_add, nI_clamp, nI_leI, nI_ltI, nI_eq, bI_0, bI_n0, Decidable.not_not, gu_m1]); first | done | omega | assumption)) ?_
            show X 19 [some (vR 12 0), some (vI (nI t)), some (vI w), some (vI (wcR mm (nI t))), some (vI ((nI s) + 1)), some (vI (nI j))] [] mm
            rw [nI_1]
            exact this _
          | succ k' ih' =>
            intro j hj hR
            have ej : (nI j).toNatClampNeg = j := nI_clamp (by omega)
            rw [bfI] at hR
            show X 27 [some (vR 12 0), some (vI (nI t)), some (vI w), some (vI (wcR mm (nI t))), some (vI (nI s)), some (vI (nI j))] [] mm
            refine h (fun i => Nat.beq i 27) 3000 27 _ _ _ ?_
            refine And.intro rfl ?_
            refine br_f (by ((try simp (disch := omega) only [hnm, li, pk_mul, nI_add, nI_clamp, nI_leI, nI_ltI, nI_eq, bI_0, bI_n0, Decidable.not_not, gu_m1]); first | done | omega | assumption)) ?_
            refine And.intro ⟨hM, trivial, t, s, j, by omega, by omega, by omega, (hOw s (by omega)).imp id (fun ⟨q, hq, e⟩ => ⟨q, by omega, e⟩), rfl⟩ ?_
            refine br_c (fun b38 => ?_) (fun b38 => ?_)
            · -- 38: bI (btP (mm.1 54 0) (mm.2.1 58 0) (mm.1 54 0 0).toNatClampNeg (nI t).toNatClampNeg (nI s).toNatClampNeg (nI j).toNatClampNeg) = 0 taken
              replace b38 : ¬ (btP (mm.1 54 0) (mm.2.1 58 0) (mm.1 54 0 0).toNatClampNeg (nI t).toNatClampNeg (nI s).toNatClampNeg (nI j).toNatClampNeg) := bI_0.mp b38
              rw [et] at b38
              rw [es] at b38
              rw [ej] at b38
              rw [hns, ens] at b38
              rw [if_neg b38] at hR
              show X 27 [some (vR 12 0), some (vI (nI t)), some (vI w), some (vI (wcR mm (nI t))), some (vI (nI s)), some (vI ((nI j) + 1))] [] mm
              rw [nI_1]
              exact ih' _ (by omega) hR
            · -- 38: bI (btP (mm.1 54 0) (mm.2.1 58 0) (mm.1 54 0 0).toNatClampNeg (nI t).toNatClampNeg (nI s).toNatClampNeg (nI j).toNatClampNeg) = 0 on
              replace b38 : btP (mm.1 54 0) (mm.2.1 58 0) (mm.1 54 0 0).toNatClampNeg (nI t).toNatClampNeg (nI s).toNatClampNeg (nI j).toNatClampNeg := bI_n0.mp b38
              rw [et] at b38
              rw [es] at b38
              rw [ej] at b38
              rw [hns, ens] at b38
              rw [if_pos b38] at hR
              refine brn_c (fun b41 => ?_) (fun b41 => ?_)
              · -- 41: w = 0 taken
                replace b41 : ¬ (w = 0) := b41
                refine And.intro ⟨_, rfl⟩ ?_
                show ((some (vI (nI j)) : Option MV), stM mm 0) = _
                rw [← hR]
                first | exact congrArg (gvM mm) (if_neg b41).symm | exact congrArg (gvM mm) (if_pos b41).symm
              · -- 41: w = 0 on
                replace b41 : w = 0 := b41
                refine And.intro ⟨_, rfl⟩ ?_
                show ((some (vI (nI s)) : Option MV), stM mm 0) = _
                rw [← hR]
                first | exact congrArg (gvM mm) (if_neg b41).symm | exact congrArg (gvM mm) (if_pos b41).symm
        show X 19 [some (vR 12 0), some (vI (nI t)), some (vI w), some (vI (wcR mm (nI t))), some (vI (nI s)), L5] [] mm
        refine h (fun i => Nat.beq i 27) 3000 19 _ _ _ ?_
        refine And.intro rfl ?_
        refine br_f (by ((try simp (disch := omega) only [hns, li, pk_mul, nI_add, nI_clamp, nI_leI, nI_ltI, nI_eq, bI_0, bI_n0, Decidable.not_not, gu_m1]); first | done | omega | assumption)) ?_
        show X 27 [some (vR 12 0), some (vI (nI t)), some (vI w), some (vI (wcR mm (nI t))), some (vI (nI s)), some (vI 0)] [] mm
        exact inner nm 0 (by omega) hR
    show X 17 [some (vR 12 0), some (vI (nI t)), some (vI w), some (vI (wcR mm (nI t))), none, none] [] mm
    refine h (fun i => Nat.beq i 19) 3000 17 _ _ _ ?_
    show X 19 [some (vR 12 0), some (vI (nI t)), some (vI w), some (vI (wcR mm (nI t))), some (vI 0), none] [] mm
    exact loop ns 0 (by omega) eR.symm none
  have at10 : ¬ (¬ w < 0 ∧ w ≤ 1) → X 5 [some (vR 12 0), some (vI (x)), some (vI (w)), none, none, none] [] mm := by
    intro hc
    show X 5 [some (vR 12 0), some (vI x), some (vI w), none, none, none] [] mm
    refine h (fun _ => false) 3000 5 _ _ _ ?_
    refine br_f (by decide) ?_
    refine And.intro ⟨_, rfl⟩ ?_
    show ((some (vI (-1)) : Option MV), stM mm 1) = _
    exact (if_neg hc).symm
  show X 0 [some (vR 12 0), some (vI x), some (vI w), none, none, none] [] mm
  refine h (fun i => Nat.beq i 5 || Nat.beq i 17) 3000 0 _ _ _ ?_
  refine br_c (fun b1 => ?_) (fun b1 => ?_)
  · -- 1: w < 0 taken
    replace b1 : w < 0 := b1
    show X 5 [some (vR 12 0), some (vI x), some (vI w), none, none, none] [] mm
    exact at10 (fun z => z.1 b1)
  · -- 1: w < 0 on
    replace b1 : ¬ (w < 0) := b1
    refine br_c (fun b4 => ?_) (fun b4 => ?_)
    · -- 4: w ≤ 1 taken
      replace b4 : w ≤ 1 := b4
      refine And.intro ⟨hM, _, rfl⟩ ?_
      refine br_c (fun b12 => ?_) (fun b12 => ?_)
      · -- 12: wcR mm x ≤ 0 taken
        replace b12 : wcR mm x ≤ 0 := b12
        show X 17 [some (vR 12 0), some (vI x), some (vI w), some (vI (wcR mm x)), none, none] [] mm
        exact body ⟨b1, b4⟩ b12
      · -- 12: wcR mm x ≤ 0 on
        replace b12 : ¬ (wcR mm x ≤ 0) := b12
        refine And.intro ⟨_, rfl⟩ ?_
        show ((some (vI (-1)) : Option MV), stM mm (wcR mm x)) = _
        exact ((if_pos ⟨b1, b4⟩).trans (if_neg b12)).symm
    · -- 4: w ≤ 1 on
      replace b4 : ¬ (w ≤ 1) := b4
      show X 5 [some (vR 12 0), some (vI x), some (vI w), none, none, none] [] mm
      exact at10 (fun z => b4 z.2)
theorem con_X12_bolter (l : Launch) : CON l y_X12_bolter prog_14_method_133_code 6 (some .int) rm_X12_bolter Pre_X12_bolter Fn_X12_bolter := CON_of (by decide) rfl rfl (sa_X12_bolter l) vc_X12_bolter
