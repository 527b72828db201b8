/-! PART 31: the model: least, fewest, soonest, most, rivals, cheapest, within -/

theorem HSo_in {a : Nat → Int32} (h : HSo a) : HSo a := h
theorem leaf2 {a b c : Option MV × MM} (h : c = b) (h2 : a = c) : a = b := h2.trans h

def Pre_X12_least : PreT := fun m as => VM m ∧ HSo (m.1 54 0) ∧ ∃ x y w : Int32, as = [vR 12 0, vI x, vI y, vI w]
noncomputable def leR (m : MM) (x y w : Int32) : Option MV × MM := if plA (m.1 54 0) x.toNatClampNeg y.toNatClampNeg w 0 = -1 then rfM (laM m x) 6 else gvM (laM m x) (wtA (m.1 54 0) (plA (m.1 54 0) x.toNatClampNeg y.toNatClampNeg w 0))
noncomputable def Fn_X12_least : FnT := fun m as => match as with
  | [_, Sum.inl x, Sum.inl y, Sum.inl w] => if wpF (m.1 54 0) x y w ≤ 0 then leR m x y w else rfM m (wpF (m.1 54 0) x y w)
  | _ => (none, m)
abbrev y_X12_least : MethodName := ⟨"GivenUpModel", "least", "(III)I"⟩
def P_X12_least : List StpT := [s_aload 0, s_iload 1, s_iload 2, s_iload 3, s_callV 12 3 Pre_X12_wrongPlan Fn_X12_wrongPlan, s_istore 4, s_iload 4, s_ifle 12, s_aload 0, s_iload 4, s_callV 12 1 Pre_X12_refuse Fn_X12_refuse, s_iret, s_aload 0, s_iload 1, s_iload 2, s_iload 3, s_ic (0), s_callV 12 4 Pre_X12_planOf Fn_X12_planOf, s_istore 5, s_iload 5, s_ic (-1), s_icne 26, s_aload 0, s_ic (6), s_callV 12 1 Pre_X12_refuse Fn_X12_refuse, s_goto 31, s_aload 0, s_aload 0, s_iload 5, s_callV 12 1 Pre_X12_worthOf Fn_X12_worthOf, s_callV 12 1 Pre_X12_gives Fn_X12_gives, s_iret]
def pc_X12_least : Nat → Nat := fun i => [0, 1, 2, 3, 4, 7, 9, 11, 14, 15, 17, 20, 21, 22, 23, 24, 25, 26, 29, 31, 33, 34, 37, 38, 40, 43, 46, 47, 48, 50, 53, 56].getD i 0
def dl_X12_least : List (Nat × Instr × Nat) := [(0, .aload_n 0, 1), (1, .iload_n 1, 1), (2, .iload_n 2, 1), (3, .iload_n 3, 1), (4, .invokevirtual 392, 3), (7, .istore 4, 2), (9, .iload 4, 2), (11, .ifCond .le 10, 3), (14, .aload_n 0, 1), (15, .iload 4, 2), (17, .invokevirtual 87, 3), (20, .ireturn, 1), (21, .aload_n 0, 1), (22, .iload_n 1, 1), (23, .iload_n 2, 1), (24, .iload_n 3, 1), (25, .iconst 0, 1), (26, .invokevirtual 396, 3), (29, .istore 5, 2), (31, .iload 5, 2), (33, .iconst (-1), 1), (34, .if_icmp .ne 12, 3), (37, .aload_n 0, 1), (38, .bipush 6, 2), (40, .invokevirtual 87, 3), (43, .goto 13, 3), (46, .aload_n 0, 1), (47, .aload_n 0, 1), (48, .iload 5, 2), (50, .invokevirtual 304, 3), (53, .invokevirtual 91, 3), (56, .ireturn, 1)]
theorem dc_X12_least : DEC prog_14_method_117_code pc_X12_least dl_X12_least := DEC_of (by decide +kernel)
abbrev rm_X12_least : Room := { frames := 5, cells := 0, slots := 0, locals := 116 }
set_option maxRecDepth 20000 in
theorem sa_X12_least (l : Launch) : SNDALL l prog_14_method_117_code "GivenUpModel" 6 (some .int) rm_X12_least P_X12_least pc_X12_least := fun p e s m args below meth c cells slots Q D dA ad A RR hC hR => by
  have hM := RTX_room (R := rm_X12_least) hR
  exact ⟨st_aload_n hC (n := 0) (k := 0) (dc_X12_least 0 (0, .aload_n 0, 1) rfl rfl) rfl rfl,
    st_iload_n hC (n := 1) (k := 1) (dc_X12_least 1 (1, .iload_n 1, 1) rfl rfl) rfl rfl,
    st_iload_n hC (n := 2) (k := 2) (dc_X12_least 2 (2, .iload_n 2, 1) rfl rfl) rfl rfl,
    st_iload_n hC (n := 3) (k := 3) (dc_X12_least 3 (3, .iload_n 3, 1) rfl rfl) rfl rfl,
    st_callV hC (n := 4) (k := 12) (na := 3) (con_X12_wrongPlan l) (dc_X12_least 4 (4, .invokevirtual 392, 3) rfl rfl) rfl wd_2123 wd_160 (by decide) ⟨rfl, rfl, by decide, by decide⟩ hM wd_2120 wd_2122 wd_117 clf_12,
    st_istore hC (n := 5) (dc_X12_least 5 (7, .istore 4, 2) rfl rfl) rfl (by decide),
    st_iload hC (n := 6) (dc_X12_least 6 (9, .iload 4, 2) rfl rfl) rfl,
    st_ifle hC (n := 7) (dc_X12_least 7 (11, .ifCond .le 10, 3) rfl rfl) rfl (by decide),
    st_aload_n hC (n := 8) (k := 0) (dc_X12_least 8 (14, .aload_n 0, 1) rfl rfl) rfl rfl,
    st_iload hC (n := 9) (dc_X12_least 9 (15, .iload 4, 2) rfl rfl) rfl,
    st_callV hC (n := 10) (k := 12) (na := 1) (con_X12_refuse l) (dc_X12_least 10 (17, .invokevirtual 87, 3) rfl rfl) rfl wd_1758 wd_160 (by decide) ⟨rfl, rfl, by decide, by decide⟩ hM wd_1755 wd_1757 wd_57 clf_12,
    st_iret hC (n := 11) hR (dc_X12_least 11 (20, .ireturn, 1) rfl rfl),
    st_aload_n hC (n := 12) (k := 0) (dc_X12_least 12 (21, .aload_n 0, 1) rfl rfl) rfl rfl,
    st_iload_n hC (n := 13) (k := 1) (dc_X12_least 13 (22, .iload_n 1, 1) rfl rfl) rfl rfl,
    st_iload_n hC (n := 14) (k := 2) (dc_X12_least 14 (23, .iload_n 2, 1) rfl rfl) rfl rfl,
    st_iload_n hC (n := 15) (k := 3) (dc_X12_least 15 (24, .iload_n 3, 1) rfl rfl) rfl rfl,
    st_iconst hC (n := 16) (x := 0) (dc_X12_least 16 (25, .iconst 0, 1) rfl rfl) rfl (by decide),
    st_callV hC (n := 17) (k := 12) (na := 4) (con_X12_planOf l) (dc_X12_least 17 (26, .invokevirtual 396, 3) rfl rfl) rfl wd_2130 wd_160 (by decide) ⟨rfl, rfl, by decide, by decide⟩ hM wd_2127 wd_2129 wd_118 clf_12,
    st_istore hC (n := 18) (dc_X12_least 18 (29, .istore 5, 2) rfl rfl) rfl (by decide),
    st_iload hC (n := 19) (dc_X12_least 19 (31, .iload 5, 2) rfl rfl) rfl,
    st_iconst hC (n := 20) (x := (-1)) (dc_X12_least 20 (33, .iconst (-1), 1) rfl rfl) rfl (by decide),
    st_icne hC (n := 21) (dc_X12_least 21 (34, .if_icmp .ne 12, 3) rfl rfl) rfl (by decide),
    st_aload_n hC (n := 22) (k := 0) (dc_X12_least 22 (37, .aload_n 0, 1) rfl rfl) rfl rfl,
    st_bipush hC (n := 23) (x := 6) (dc_X12_least 23 (38, .bipush 6, 2) rfl rfl) rfl (by decide),
    st_callV hC (n := 24) (k := 12) (na := 1) (con_X12_refuse l) (dc_X12_least 24 (40, .invokevirtual 87, 3) rfl rfl) rfl wd_1758 wd_160 (by decide) ⟨rfl, rfl, by decide, by decide⟩ hM wd_1755 wd_1757 wd_57 clf_12,
    st_goto hC (n := 25) (dc_X12_least 25 (43, .goto 13, 3) rfl rfl) (by decide),
    st_aload_n hC (n := 26) (k := 0) (dc_X12_least 26 (46, .aload_n 0, 1) rfl rfl) rfl rfl,
    st_aload_n hC (n := 27) (k := 0) (dc_X12_least 27 (47, .aload_n 0, 1) rfl rfl) rfl rfl,
    st_iload hC (n := 28) (dc_X12_least 28 (48, .iload 5, 2) rfl rfl) rfl,
    st_callV hC (n := 29) (k := 12) (na := 1) (con_X12_worthOf l) (dc_X12_least 29 (50, .invokevirtual 304, 3) rfl rfl) rfl wd_1903 wd_160 (by decide) ⟨rfl, rfl, by decide, by decide⟩ hM wd_1900 wd_1902 wd_88 clf_12,
    st_callV hC (n := 30) (k := 12) (na := 1) (con_X12_gives l) (dc_X12_least 30 (53, .invokevirtual 91, 3) rfl rfl) rfl wd_1849 wd_160 (by decide) ⟨rfl, rfl, by decide, by decide⟩ hM wd_1846 wd_1848 wd_79 clf_12,
    st_iret hC (n := 31) hR (dc_X12_least 31 (56, .ireturn, 1) rfl rfl), trivial⟩
set_option maxRecDepth 8000 in
theorem vc_X12_least : VC P_X12_least 6 Pre_X12_least Fn_X12_least := by
  rintro mm as hom hoa ⟨⟨ns, nm, nt, hV⟩, hH, x, y, w, rfl⟩
  refine ⟨Nat.le_of_ble_eq_true rfl, fun X h => ?_⟩
  have hM : VM mm := ⟨ns, nm, nt, hV⟩
  have hns4 : ns ≤ 4 := hV.1.2
  have hnm4 : nm ≤ 4 := hV.2.1.2
  have body : wpF (mm.1 54 0) x y w ≤ 0 → X 12 [some (vR 12 0), some (vI (x)), some (vI (y)), some (vI (w)), some (vI (wpF (mm.1 54 0) x y w)), none] [] mm := by
    intro hp
    replace h : RUN P_X12_least (fun r m' => (r, m') = leR mm x y w) X := by
      have e : Fn_X12_least mm [vR 12 0, vI x, vI y, vI w] = leR mm x y w := if_pos hp
      rw [e] at h; exact h
    obtain ⟨i, hi, rfl⟩ := su_in hV (wpF_pos hp).1
    obtain ⟨d, hd, rfl⟩ := ma_in hV (wpF_pos hp).2
    show X 12 [some (vR 12 0), some (vI (nI i)), some (vI (nI d)), some (vI w), some (vI (wpF (mm.1 54 0) (nI i) (nI d) w)), none] [] mm
    refine h (fun _ => false) 3000 12 _ _ _ ?_
    refine And.intro ⟨hM, hH, i, d, _, _, by omega, by omega, rfl⟩ ?_
    refine brn_c (fun b21 => ?_) (fun b21 => ?_)
    · -- 21: plA (mm.1 54 0) (nI i).toNatClampNeg (nI d).toNatClampNeg w 0 = (-1) taken
      replace b21 : ¬ (plA (mm.1 54 0) (nI i).toNatClampNeg (nI d).toNatClampNeg w 0 = (-1)) := b21
      refine And.intro ⟨hM, _, rfl⟩ ?_
      refine And.intro ⟨_, rfl⟩ ?_
      show ((some (vI (wtA ((laM mm (nI i)).1 54 0) (plA (mm.1 54 0) (nI i).toNatClampNeg (nI d).toNatClampNeg w 0))) : Option MV), stM (laM mm (nI i)) 0) = _
      first | exact (if_neg b21).symm | exact (if_pos b21).symm
    · -- 21: plA (mm.1 54 0) (nI i).toNatClampNeg (nI d).toNatClampNeg w 0 = (-1) on
      replace b21 : plA (mm.1 54 0) (nI i).toNatClampNeg (nI d).toNatClampNeg w 0 = (-1) := b21
      refine And.intro ⟨_, rfl⟩ ?_
      show ((some (vI (-1)) : Option MV), stM (laM mm (nI i)) 6) = _
      first | exact (if_neg b21).symm | exact (if_pos b21).symm
  show X 0 [some (vR 12 0), some (vI x), some (vI y), some (vI w), none, none] [] mm
  refine h (fun i => Nat.beq i 12) 3000 0 _ _ _ ?_
  refine And.intro ⟨hM, _, _, _, rfl⟩ ?_
  refine br_c (fun b7 => ?_) (fun b7 => ?_)
  · -- 7: wpF (mm.1 54 0) x y w ≤ 0 taken
    replace b7 : wpF (mm.1 54 0) x y w ≤ 0 := b7
    show X 12 [some (vR 12 0), some (vI x), some (vI y), some (vI w), some (vI (wpF (mm.1 54 0) x y w)), none] [] mm
    exact body b7
  · -- 7: wpF (mm.1 54 0) x y w ≤ 0 on
    replace b7 : ¬ (wpF (mm.1 54 0) x y w ≤ 0) := b7
    refine And.intro ⟨_, rfl⟩ ?_
    show ((some (vI (-1)) : Option MV), stM mm (wpF (mm.1 54 0) x y w)) = _
    exact (if_neg b7).symm
theorem con_X12_least (l : Launch) : CON l y_X12_least prog_14_method_117_code 6 (some .int) rm_X12_least Pre_X12_least Fn_X12_least := CON_of (by decide) rfl rfl (sa_X12_least l) vc_X12_least
def Pre_X12_leastSet : PreT := fun m as => VM m ∧ HSo (m.1 54 0) ∧ ∃ x y w : Int32, as = [vR 12 0, vI x, vI y, vI w]
noncomputable def Fn_X12_leastSet : FnT := fun m as => match as with
  | [_, Sum.inl x, Sum.inl y, Sum.inl w] => if wpF (m.1 54 0) x y w ≤ 0 then onM (laM m x) (plA (m.1 54 0) x.toNatClampNeg y.toNatClampNeg w 0) else rfM m (wpF (m.1 54 0) x y w)
  | _ => (none, m)
abbrev y_X12_leastSet : MethodName := ⟨"GivenUpModel", "leastSet", "(III)I"⟩
def P_X12_leastSet : List StpT := [s_aload 0, s_iload 1, s_iload 2, s_iload 3, s_callV 12 3 Pre_X12_wrongPlan Fn_X12_wrongPlan, s_istore 4, s_iload 4, s_ifle 12, s_aload 0, s_iload 4, s_callV 12 1 Pre_X12_refuse Fn_X12_refuse, s_goto 20, s_aload 0, s_aload 0, s_iload 1, s_iload 2, s_iload 3, s_ic (0), s_callV 12 4 Pre_X12_planOf Fn_X12_planOf, s_callV 12 1 Pre_X12_orNone Fn_X12_orNone, s_iret]
def pc_X12_leastSet : Nat → Nat := fun i => [0, 1, 2, 3, 4, 7, 9, 11, 14, 15, 17, 20, 23, 24, 25, 26, 27, 28, 29, 32, 35].getD i 0
def dl_X12_leastSet : List (Nat × Instr × Nat) := [(0, .aload_n 0, 1), (1, .iload_n 1, 1), (2, .iload_n 2, 1), (3, .iload_n 3, 1), (4, .invokevirtual 392, 3), (7, .istore 4, 2), (9, .iload 4, 2), (11, .ifCond .le 12, 3), (14, .aload_n 0, 1), (15, .iload 4, 2), (17, .invokevirtual 87, 3), (20, .goto 15, 3), (23, .aload_n 0, 1), (24, .aload_n 0, 1), (25, .iload_n 1, 1), (26, .iload_n 2, 1), (27, .iload_n 3, 1), (28, .iconst 0, 1), (29, .invokevirtual 396, 3), (32, .invokevirtual 310, 3), (35, .ireturn, 1)]
theorem dc_X12_leastSet : DEC prog_14_method_118_code pc_X12_leastSet dl_X12_leastSet := DEC_of (by decide +kernel)
abbrev rm_X12_leastSet : Room := { frames := 5, cells := 0, slots := 0, locals := 116 }
set_option maxRecDepth 20000 in
theorem sa_X12_leastSet (l : Launch) : SNDALL l prog_14_method_118_code "GivenUpModel" 5 (some .int) rm_X12_leastSet P_X12_leastSet pc_X12_leastSet := fun p e s m args below meth c cells slots Q D dA ad A RR hC hR => by
  have hM := RTX_room (R := rm_X12_leastSet) hR
  exact ⟨st_aload_n hC (n := 0) (k := 0) (dc_X12_leastSet 0 (0, .aload_n 0, 1) rfl rfl) rfl rfl,
    st_iload_n hC (n := 1) (k := 1) (dc_X12_leastSet 1 (1, .iload_n 1, 1) rfl rfl) rfl rfl,
    st_iload_n hC (n := 2) (k := 2) (dc_X12_leastSet 2 (2, .iload_n 2, 1) rfl rfl) rfl rfl,
    st_iload_n hC (n := 3) (k := 3) (dc_X12_leastSet 3 (3, .iload_n 3, 1) rfl rfl) rfl rfl,
    st_callV hC (n := 4) (k := 12) (na := 3) (con_X12_wrongPlan l) (dc_X12_leastSet 4 (4, .invokevirtual 392, 3) rfl rfl) rfl wd_2123 wd_160 (by decide) ⟨rfl, rfl, by decide, by decide⟩ hM wd_2120 wd_2122 wd_117 clf_12,
    st_istore hC (n := 5) (dc_X12_leastSet 5 (7, .istore 4, 2) rfl rfl) rfl (by decide),
    st_iload hC (n := 6) (dc_X12_leastSet 6 (9, .iload 4, 2) rfl rfl) rfl,
    st_ifle hC (n := 7) (dc_X12_leastSet 7 (11, .ifCond .le 12, 3) rfl rfl) rfl (by decide),
    st_aload_n hC (n := 8) (k := 0) (dc_X12_leastSet 8 (14, .aload_n 0, 1) rfl rfl) rfl rfl,
    st_iload hC (n := 9) (dc_X12_leastSet 9 (15, .iload 4, 2) rfl rfl) rfl,
    st_callV hC (n := 10) (k := 12) (na := 1) (con_X12_refuse l) (dc_X12_leastSet 10 (17, .invokevirtual 87, 3) rfl rfl) rfl wd_1758 wd_160 (by decide) ⟨rfl, rfl, by decide, by decide⟩ hM wd_1755 wd_1757 wd_57 clf_12,
    st_goto hC (n := 11) (dc_X12_leastSet 11 (20, .goto 15, 3) rfl rfl) (by decide),
    st_aload_n hC (n := 12) (k := 0) (dc_X12_leastSet 12 (23, .aload_n 0, 1) rfl rfl) rfl rfl,
    st_aload_n hC (n := 13) (k := 0) (dc_X12_leastSet 13 (24, .aload_n 0, 1) rfl rfl) rfl rfl,
    st_iload_n hC (n := 14) (k := 1) (dc_X12_leastSet 14 (25, .iload_n 1, 1) rfl rfl) rfl rfl,
    st_iload_n hC (n := 15) (k := 2) (dc_X12_leastSet 15 (26, .iload_n 2, 1) rfl rfl) rfl rfl,
    st_iload_n hC (n := 16) (k := 3) (dc_X12_leastSet 16 (27, .iload_n 3, 1) rfl rfl) rfl rfl,
    st_iconst hC (n := 17) (x := 0) (dc_X12_leastSet 17 (28, .iconst 0, 1) rfl rfl) rfl (by decide),
    st_callV hC (n := 18) (k := 12) (na := 4) (con_X12_planOf l) (dc_X12_leastSet 18 (29, .invokevirtual 396, 3) rfl rfl) rfl wd_2130 wd_160 (by decide) ⟨rfl, rfl, by decide, by decide⟩ hM wd_2127 wd_2129 wd_118 clf_12,
    st_callV hC (n := 19) (k := 12) (na := 1) (con_X12_orNone l) (dc_X12_leastSet 19 (32, .invokevirtual 310, 3) rfl rfl) rfl wd_1915 wd_160 (by decide) ⟨rfl, rfl, by decide, by decide⟩ hM wd_1912 wd_1914 wd_91 clf_12,
    st_iret hC (n := 20) hR (dc_X12_leastSet 20 (35, .ireturn, 1) rfl rfl), trivial⟩
set_option maxRecDepth 8000 in
theorem vc_X12_leastSet : VC P_X12_leastSet 5 Pre_X12_leastSet Fn_X12_leastSet := by
  rintro mm as hom hoa ⟨⟨ns, nm, nt, hV⟩, hH, x, y, w, rfl⟩
  refine ⟨Nat.le_of_ble_eq_true rfl, fun X h => ?_⟩
  have hM : VM mm := ⟨ns, nm, nt, hV⟩
  have hns4 : ns ≤ 4 := hV.1.2
  have hnm4 : nm ≤ 4 := hV.2.1.2
  have body : wpF (mm.1 54 0) x y w ≤ 0 → X 12 [some (vR 12 0), some (vI (x)), some (vI (y)), some (vI (w)), some (vI (wpF (mm.1 54 0) x y w))] [] mm := by
    intro hp
    obtain ⟨i, hi, rfl⟩ := su_in hV (wpF_pos hp).1
    obtain ⟨d, hd, rfl⟩ := ma_in hV (wpF_pos hp).2
    show X 12 [some (vR 12 0), some (vI (nI i)), some (vI (nI d)), some (vI w), some (vI (wpF (mm.1 54 0) (nI i) (nI d) w))] [] mm
    refine h (fun _ => false) 3000 12 _ _ _ ?_
    refine And.intro ⟨hM, hH, i, d, _, _, by omega, by omega, rfl⟩ ?_
    refine And.intro ⟨_, rfl⟩ ?_
    show ((some (vI (plA (mm.1 54 0) (nI i).toNatClampNeg (nI d).toNatClampNeg w 0)) : Option MV), stM (laM mm (nI i)) (if (plA (mm.1 54 0) (nI i).toNatClampNeg (nI d).toNatClampNeg w 0) = -1 then 6 else 0)) = _
    exact (if_pos hp).symm
  show X 0 [some (vR 12 0), some (vI x), some (vI y), some (vI w), none] [] mm
  refine h (fun i => Nat.beq i 12) 3000 0 _ _ _ ?_
  refine And.intro ⟨hM, _, _, _, rfl⟩ ?_
  refine br_c (fun b7 => ?_) (fun b7 => ?_)
  · -- 7: wpF (mm.1 54 0) x y w ≤ 0 taken
    replace b7 : wpF (mm.1 54 0) x y w ≤ 0 := b7
    show X 12 [some (vR 12 0), some (vI x), some (vI y), some (vI w), some (vI (wpF (mm.1 54 0) x y w))] [] mm
    exact body b7
  · -- 7: wpF (mm.1 54 0) x y w ≤ 0 on
    replace b7 : ¬ (wpF (mm.1 54 0) x y w ≤ 0) := b7
    refine And.intro ⟨_, rfl⟩ ?_
    show ((some (vI (-1)) : Option MV), stM mm (wpF (mm.1 54 0) x y w)) = _
    exact (if_neg b7).symm
theorem con_X12_leastSet (l : Launch) : CON l y_X12_leastSet prog_14_method_118_code 5 (some .int) rm_X12_leastSet Pre_X12_leastSet Fn_X12_leastSet := CON_of (by decide) rfl rfl (sa_X12_leastSet l) vc_X12_leastSet
def Pre_X12_fewest : PreT := fun m as => VM m ∧ HSo (m.1 54 0) ∧ ∃ x y w : Int32, as = [vR 12 0, vI x, vI y, vI w]
noncomputable def fwR (m : MM) (x y w : Int32) : Option MV × MM := if plA (m.1 54 0) x.toNatClampNeg y.toNatClampNeg w 1 = -1 then rfM (laM m x) 6 else gvM (laM m x) (nI (pcN (plA (m.1 54 0) x.toNatClampNeg y.toNatClampNeg w 1).toNatClampNeg))
noncomputable def Fn_X12_fewest : FnT := fun m as => match as with
  | [_, Sum.inl x, Sum.inl y, Sum.inl w] => if wpF (m.1 54 0) x y w ≤ 0 then fwR m x y w else rfM m (wpF (m.1 54 0) x y w)
  | _ => (none, m)
abbrev y_X12_fewest : MethodName := ⟨"GivenUpModel", "fewest", "(III)I"⟩
def P_X12_fewest : List StpT := [s_aload 0, s_iload 1, s_iload 2, s_iload 3, s_callV 12 3 Pre_X12_wrongPlan Fn_X12_wrongPlan, s_istore 4, s_iload 4, s_ifle 12, s_aload 0, s_iload 4, s_callV 12 1 Pre_X12_refuse Fn_X12_refuse, s_iret, s_aload 0, s_iload 1, s_iload 2, s_iload 3, s_ic (1), s_callV 12 4 Pre_X12_planOf Fn_X12_planOf, s_istore 5, s_iload 5, s_ic (-1), s_icne 26, s_aload 0, s_ic (6), s_callV 12 1 Pre_X12_refuse Fn_X12_refuse, s_goto 30, s_aload 0, s_iload 5, s_callS 1 Pre_X12_bits Fn_X12_bits, s_callV 12 1 Pre_X12_gives Fn_X12_gives, s_iret]
def pc_X12_fewest : Nat → Nat := fun i => [0, 1, 2, 3, 4, 7, 9, 11, 14, 15, 17, 20, 21, 22, 23, 24, 25, 26, 29, 31, 33, 34, 37, 38, 40, 43, 46, 47, 49, 52, 55].getD i 0
def dl_X12_fewest : List (Nat × Instr × Nat) := [(0, .aload_n 0, 1), (1, .iload_n 1, 1), (2, .iload_n 2, 1), (3, .iload_n 3, 1), (4, .invokevirtual 392, 3), (7, .istore 4, 2), (9, .iload 4, 2), (11, .ifCond .le 10, 3), (14, .aload_n 0, 1), (15, .iload 4, 2), (17, .invokevirtual 87, 3), (20, .ireturn, 1), (21, .aload_n 0, 1), (22, .iload_n 1, 1), (23, .iload_n 2, 1), (24, .iload_n 3, 1), (25, .iconst 1, 1), (26, .invokevirtual 396, 3), (29, .istore 5, 2), (31, .iload 5, 2), (33, .iconst (-1), 1), (34, .if_icmp .ne 12, 3), (37, .aload_n 0, 1), (38, .bipush 6, 2), (40, .invokevirtual 87, 3), (43, .goto 12, 3), (46, .aload_n 0, 1), (47, .iload 5, 2), (49, .invokestatic 331, 3), (52, .invokevirtual 91, 3), (55, .ireturn, 1)]
theorem dc_X12_fewest : DEC prog_14_method_119_code pc_X12_fewest dl_X12_fewest := DEC_of (by decide +kernel)
abbrev rm_X12_fewest : Room := { frames := 5, cells := 0, slots := 0, locals := 116 }
set_option maxRecDepth 20000 in
theorem sa_X12_fewest (l : Launch) : SNDALL l prog_14_method_119_code "GivenUpModel" 6 (some .int) rm_X12_fewest P_X12_fewest pc_X12_fewest := fun p e s m args below meth c cells slots Q D dA ad A RR hC hR => by
  have hM := RTX_room (R := rm_X12_fewest) hR
  exact ⟨st_aload_n hC (n := 0) (k := 0) (dc_X12_fewest 0 (0, .aload_n 0, 1) rfl rfl) rfl rfl,
    st_iload_n hC (n := 1) (k := 1) (dc_X12_fewest 1 (1, .iload_n 1, 1) rfl rfl) rfl rfl,
    st_iload_n hC (n := 2) (k := 2) (dc_X12_fewest 2 (2, .iload_n 2, 1) rfl rfl) rfl rfl,
    st_iload_n hC (n := 3) (k := 3) (dc_X12_fewest 3 (3, .iload_n 3, 1) rfl rfl) rfl rfl,
    st_callV hC (n := 4) (k := 12) (na := 3) (con_X12_wrongPlan l) (dc_X12_fewest 4 (4, .invokevirtual 392, 3) rfl rfl) rfl wd_2123 wd_160 (by decide) ⟨rfl, rfl, by decide, by decide⟩ hM wd_2120 wd_2122 wd_117 clf_12,
    st_istore hC (n := 5) (dc_X12_fewest 5 (7, .istore 4, 2) rfl rfl) rfl (by decide),
    st_iload hC (n := 6) (dc_X12_fewest 6 (9, .iload 4, 2) rfl rfl) rfl,
    st_ifle hC (n := 7) (dc_X12_fewest 7 (11, .ifCond .le 10, 3) rfl rfl) rfl (by decide),
    st_aload_n hC (n := 8) (k := 0) (dc_X12_fewest 8 (14, .aload_n 0, 1) rfl rfl) rfl rfl,
    st_iload hC (n := 9) (dc_X12_fewest 9 (15, .iload 4, 2) rfl rfl) rfl,
    st_callV hC (n := 10) (k := 12) (na := 1) (con_X12_refuse l) (dc_X12_fewest 10 (17, .invokevirtual 87, 3) rfl rfl) rfl wd_1758 wd_160 (by decide) ⟨rfl, rfl, by decide, by decide⟩ hM wd_1755 wd_1757 wd_57 clf_12,
    st_iret hC (n := 11) hR (dc_X12_fewest 11 (20, .ireturn, 1) rfl rfl),
    st_aload_n hC (n := 12) (k := 0) (dc_X12_fewest 12 (21, .aload_n 0, 1) rfl rfl) rfl rfl,
    st_iload_n hC (n := 13) (k := 1) (dc_X12_fewest 13 (22, .iload_n 1, 1) rfl rfl) rfl rfl,
    st_iload_n hC (n := 14) (k := 2) (dc_X12_fewest 14 (23, .iload_n 2, 1) rfl rfl) rfl rfl,
    st_iload_n hC (n := 15) (k := 3) (dc_X12_fewest 15 (24, .iload_n 3, 1) rfl rfl) rfl rfl,
    st_iconst hC (n := 16) (x := 1) (dc_X12_fewest 16 (25, .iconst 1, 1) rfl rfl) rfl (by decide),
    st_callV hC (n := 17) (k := 12) (na := 4) (con_X12_planOf l) (dc_X12_fewest 17 (26, .invokevirtual 396, 3) rfl rfl) rfl wd_2130 wd_160 (by decide) ⟨rfl, rfl, by decide, by decide⟩ hM wd_2127 wd_2129 wd_118 clf_12,
    st_istore hC (n := 18) (dc_X12_fewest 18 (29, .istore 5, 2) rfl rfl) rfl (by decide),
    st_iload hC (n := 19) (dc_X12_fewest 19 (31, .iload 5, 2) rfl rfl) rfl,
    st_iconst hC (n := 20) (x := (-1)) (dc_X12_fewest 20 (33, .iconst (-1), 1) rfl rfl) rfl (by decide),
    st_icne hC (n := 21) (dc_X12_fewest 21 (34, .if_icmp .ne 12, 3) rfl rfl) rfl (by decide),
    st_aload_n hC (n := 22) (k := 0) (dc_X12_fewest 22 (37, .aload_n 0, 1) rfl rfl) rfl rfl,
    st_bipush hC (n := 23) (x := 6) (dc_X12_fewest 23 (38, .bipush 6, 2) rfl rfl) rfl (by decide),
    st_callV hC (n := 24) (k := 12) (na := 1) (con_X12_refuse l) (dc_X12_fewest 24 (40, .invokevirtual 87, 3) rfl rfl) rfl wd_1758 wd_160 (by decide) ⟨rfl, rfl, by decide, by decide⟩ hM wd_1755 wd_1757 wd_57 clf_12,
    st_goto hC (n := 25) (dc_X12_fewest 25 (43, .goto 12, 3) rfl rfl) (by decide),
    st_aload_n hC (n := 26) (k := 0) (dc_X12_fewest 26 (46, .aload_n 0, 1) rfl rfl) rfl rfl,
    st_iload hC (n := 27) (dc_X12_fewest 27 (47, .iload 5, 2) rfl rfl) rfl,
    st_callS hC (n := 28) (na := 1) (con_X12_bits l) (dc_X12_fewest 28 (49, .invokestatic 331, 3) rfl rfl) rfl wd_1957 wd_160 (by decide) ⟨rfl, rfl, by decide, by decide⟩ hM wd_1955 wd_1956,
    st_callV hC (n := 29) (k := 12) (na := 1) (con_X12_gives l) (dc_X12_fewest 29 (52, .invokevirtual 91, 3) rfl rfl) rfl wd_1849 wd_160 (by decide) ⟨rfl, rfl, by decide, by decide⟩ hM wd_1846 wd_1848 wd_79 clf_12,
    st_iret hC (n := 30) hR (dc_X12_fewest 30 (55, .ireturn, 1) rfl rfl), trivial⟩
set_option maxRecDepth 8000 in
theorem vc_X12_fewest : VC P_X12_fewest 6 Pre_X12_fewest Fn_X12_fewest := by
  rintro mm as hom hoa ⟨⟨ns, nm, nt, hV⟩, hH, x, y, w, rfl⟩
  refine ⟨Nat.le_of_ble_eq_true rfl, fun X h => ?_⟩
  have hM : VM mm := ⟨ns, nm, nt, hV⟩
  have hns4 : ns ≤ 4 := hV.1.2
  have hnm4 : nm ≤ 4 := hV.2.1.2
  have body : wpF (mm.1 54 0) x y w ≤ 0 → X 12 [some (vR 12 0), some (vI (x)), some (vI (y)), some (vI (w)), some (vI (wpF (mm.1 54 0) x y w)), none] [] mm := by
    intro hp
    replace h : RUN P_X12_fewest (fun r m' => (r, m') = fwR mm x y w) X := by
      have e : Fn_X12_fewest mm [vR 12 0, vI x, vI y, vI w] = fwR mm x y w := if_pos hp
      rw [e] at h; exact h
    obtain ⟨i, hi, rfl⟩ := su_in hV (wpF_pos hp).1
    obtain ⟨d, hd, rfl⟩ := ma_in hV (wpF_pos hp).2
    have hpl := plA_in hH (nI i).toNatClampNeg (nI d).toNatClampNeg w 1
    show X 12 [some (vR 12 0), some (vI (nI i)), some (vI (nI d)), some (vI w), some (vI (wpF (mm.1 54 0) (nI i) (nI d) w)), none] [] mm
    refine h (fun _ => false) 3000 12 _ _ _ ?_
    refine And.intro ⟨hM, hH, i, d, _, _, by omega, by omega, rfl⟩ ?_
    refine brn_c (fun b21 => ?_) (fun b21 => ?_)
    · -- 21: plA (mm.1 54 0) (nI i).toNatClampNeg (nI d).toNatClampNeg w 1 = (-1) taken
      replace b21 : ¬ (plA (mm.1 54 0) (nI i).toNatClampNeg (nI d).toNatClampNeg w 1 = (-1)) := b21
      refine And.intro (hpl.elim (fun q => absurd q b21) (fun ⟨Y, hY, q⟩ => ⟨Y, hY, congrArg (fun z => [vI z]) q⟩)) ?_
      refine And.intro ⟨_, rfl⟩ ?_
      show ((some (vI (nI (pcN (plA (mm.1 54 0) (nI i).toNatClampNeg (nI d).toNatClampNeg w 1).toNatClampNeg))) : Option MV), stM (laM mm (nI i)) 0) = _
      first | exact (if_neg b21).symm | exact (if_pos b21).symm
    · -- 21: plA (mm.1 54 0) (nI i).toNatClampNeg (nI d).toNatClampNeg w 1 = (-1) on
      replace b21 : plA (mm.1 54 0) (nI i).toNatClampNeg (nI d).toNatClampNeg w 1 = (-1) := b21
      refine And.intro ⟨_, rfl⟩ ?_
      show ((some (vI (-1)) : Option MV), stM (laM mm (nI i)) 6) = _
      first | exact (if_neg b21).symm | exact (if_pos b21).symm
  show X 0 [some (vR 12 0), some (vI x), some (vI y), some (vI w), none, none] [] mm
  refine h (fun i => Nat.beq i 12) 3000 0 _ _ _ ?_
  refine And.intro ⟨hM, _, _, _, rfl⟩ ?_
  refine br_c (fun b7 => ?_) (fun b7 => ?_)
  · -- 7: wpF (mm.1 54 0) x y w ≤ 0 taken
    replace b7 : wpF (mm.1 54 0) x y w ≤ 0 := b7
    show X 12 [some (vR 12 0), some (vI x), some (vI y), some (vI w), some (vI (wpF (mm.1 54 0) x y w)), none] [] mm
    exact body b7
  · -- 7: wpF (mm.1 54 0) x y w ≤ 0 on
    replace b7 : ¬ (wpF (mm.1 54 0) x y w ≤ 0) := b7
    refine And.intro ⟨_, rfl⟩ ?_
    show ((some (vI (-1)) : Option MV), stM mm (wpF (mm.1 54 0) x y w)) = _
    exact (if_neg b7).symm
theorem con_X12_fewest (l : Launch) : CON l y_X12_fewest prog_14_method_119_code 6 (some .int) rm_X12_fewest Pre_X12_fewest Fn_X12_fewest := CON_of (by decide) rfl rfl (sa_X12_fewest l) vc_X12_fewest
noncomputable def snA (a : Nat → Int32) (i d : Nat) : Int32 := if plA a i d 99 2 = -1 then 1000000 else vwA a i (nI (pcN (plA a i d 99 2).toNatClampNeg))

--tpl ⟨hM, hH, {1N}, {2N}, by omega, by omega, rfl⟩ || snA {A} {1n} {2n} || laM {m} {1}
def Pre_X12_soonestOf : PreT := fun m as => VM m ∧ HSo (m.1 54 0) ∧ ∃ i d : Nat, i < 4 ∧ d < 4 ∧ as = [vR 12 0, vI (nI i), vI (nI d)]
noncomputable def Fn_X12_soonestOf : FnT := fun m as => match as with
  | [_, Sum.inl x, Sum.inl y] => (some (vI (snA (m.1 54 0) x.toNatClampNeg y.toNatClampNeg)), laM m x)
  | _ => (none, m)
abbrev y_X12_soonestOf : MethodName := ⟨"GivenUpModel", "soonestOf", "(II)I"⟩
def P_X12_soonestOf : List StpT := [s_aload 0, s_iload 1, s_iload 2, s_ic (99), s_ic (2), s_callV 12 4 Pre_X12_planOf Fn_X12_planOf, s_istore 3, s_iload 3, s_ic (-1), s_icne 12, s_ic (1000000), s_goto 17, s_aload 0, s_iload 1, s_iload 3, s_callS 1 Pre_X12_bits Fn_X12_bits, s_callV 12 2 Pre_X12_weeksFor Fn_X12_weeksFor, s_iret]
def pc_X12_soonestOf : Nat → Nat := fun i => [0, 1, 2, 3, 5, 6, 9, 10, 11, 12, 15, 18, 21, 22, 23, 24, 27, 30].getD i 0
def dl_X12_soonestOf : List (Nat × Instr × Nat) := [(0, .aload_n 0, 1), (1, .iload_n 1, 1), (2, .iload_n 2, 1), (3, .bipush 99, 2), (5, .iconst 2, 1), (6, .invokevirtual 396, 3), (9, .istore_n 3, 1), (10, .iload_n 3, 1), (11, .iconst (-1), 1), (12, .if_icmp .ne 9, 3), (15, .ldc_w 400, 3), (18, .goto 12, 3), (21, .aload_n 0, 1), (22, .iload_n 1, 1), (23, .iload_n 3, 1), (24, .invokestatic 331, 3), (27, .invokevirtual 379, 3), (30, .ireturn, 1)]
theorem dc_X12_soonestOf : DEC prog_14_method_120_code pc_X12_soonestOf dl_X12_soonestOf := DEC_of (by decide +kernel)
abbrev rm_X12_soonestOf : Room := { frames := 5, cells := 0, slots := 0, locals := 116 }
set_option maxRecDepth 20000 in
theorem sa_X12_soonestOf (l : Launch) : SNDALL l prog_14_method_120_code "GivenUpModel" 4 (some .int) rm_X12_soonestOf P_X12_soonestOf pc_X12_soonestOf := fun p e s m args below meth c cells slots Q D dA ad A RR hC hR => by
  have hM := RTX_room (R := rm_X12_soonestOf) hR
  exact ⟨st_aload_n hC (n := 0) (k := 0) (dc_X12_soonestOf 0 (0, .aload_n 0, 1) rfl rfl) rfl rfl,
    st_iload_n hC (n := 1) (k := 1) (dc_X12_soonestOf 1 (1, .iload_n 1, 1) rfl rfl) rfl rfl,
    st_iload_n hC (n := 2) (k := 2) (dc_X12_soonestOf 2 (2, .iload_n 2, 1) rfl rfl) rfl rfl,
    st_bipush hC (n := 3) (x := 99) (dc_X12_soonestOf 3 (3, .bipush 99, 2) rfl rfl) rfl (by decide),
    st_iconst hC (n := 4) (x := 2) (dc_X12_soonestOf 4 (5, .iconst 2, 1) rfl rfl) rfl (by decide),
    st_callV hC (n := 5) (k := 12) (na := 4) (con_X12_planOf l) (dc_X12_soonestOf 5 (6, .invokevirtual 396, 3) rfl rfl) rfl wd_2130 wd_160 (by decide) ⟨rfl, rfl, by decide, by decide⟩ hM wd_2127 wd_2129 wd_118 clf_12,
    st_istore_n hC (n := 6) (k := 3) (dc_X12_soonestOf 6 (9, .istore_n 3, 1) rfl rfl) rfl rfl (by decide),
    st_iload_n hC (n := 7) (k := 3) (dc_X12_soonestOf 7 (10, .iload_n 3, 1) rfl rfl) rfl rfl,
    st_iconst hC (n := 8) (x := (-1)) (dc_X12_soonestOf 8 (11, .iconst (-1), 1) rfl rfl) rfl (by decide),
    st_icne hC (n := 9) (dc_X12_soonestOf 9 (12, .if_icmp .ne 9, 3) rfl rfl) rfl (by decide),
    st_ldcw hC (n := 10) (x := 1000000) (dc_X12_soonestOf 10 (15, .ldc_w 400, 3) rfl rfl) rfl wd_2159,
    st_goto hC (n := 11) (dc_X12_soonestOf 11 (18, .goto 12, 3) rfl rfl) (by decide),
    st_aload_n hC (n := 12) (k := 0) (dc_X12_soonestOf 12 (21, .aload_n 0, 1) rfl rfl) rfl rfl,
    st_iload_n hC (n := 13) (k := 1) (dc_X12_soonestOf 13 (22, .iload_n 1, 1) rfl rfl) rfl rfl,
    st_iload_n hC (n := 14) (k := 3) (dc_X12_soonestOf 14 (23, .iload_n 3, 1) rfl rfl) rfl rfl,
    st_callS hC (n := 15) (na := 1) (con_X12_bits l) (dc_X12_soonestOf 15 (24, .invokestatic 331, 3) rfl rfl) rfl wd_1957 wd_160 (by decide) ⟨rfl, rfl, by decide, by decide⟩ hM wd_1955 wd_1956,
    st_callV hC (n := 16) (k := 12) (na := 2) (con_X12_weeksFor l) (dc_X12_soonestOf 16 (27, .invokevirtual 379, 3) rfl rfl) rfl wd_2138 wd_160 (by decide) ⟨rfl, rfl, by decide, by decide⟩ hM wd_2135 wd_2137 wd_120 clf_12,
    st_iret hC (n := 17) hR (dc_X12_soonestOf 17 (30, .ireturn, 1) rfl rfl), trivial⟩
set_option maxRecDepth 8000 in
theorem vc_X12_soonestOf : VC P_X12_soonestOf 4 Pre_X12_soonestOf Fn_X12_soonestOf := by
  rintro mm as hom hoa ⟨⟨ns, nm, nt, hV⟩, hH, i, d, hi, hd, rfl⟩
  refine ⟨Nat.le_of_ble_eq_true rfl, fun X h => ?_⟩
  have hM : VM mm := ⟨ns, nm, nt, hV⟩
  have hpl := plA_in hH (nI i).toNatClampNeg (nI d).toNatClampNeg 99 2
  replace h : RUN P_X12_soonestOf (fun r m' => (r, m') = (some (vI (snA (mm.1 54 0) (nI i).toNatClampNeg (nI d).toNatClampNeg)), laM mm (nI i))) X := h
  unfold snA at h
  show X 0 [some (vR 12 0), some (vI (nI i)), some (vI (nI d)), none] [] mm
  refine h (fun _ => false) 3000 0 _ _ _ ?_
  refine And.intro ⟨hM, hH, i, d, _, _, by omega, by omega, rfl⟩ ?_
  refine brn_c (fun b9 => ?_) (fun b9 => ?_)
  · -- 9: plA (mm.1 54 0) (nI i).toNatClampNeg (nI d).toNatClampNeg 99 2 = (-1) taken
    replace b9 : ¬ (plA (mm.1 54 0) (nI i).toNatClampNeg (nI d).toNatClampNeg 99 2 = (-1)) := b9
    refine And.intro (hpl.elim (fun q => absurd q b9) (fun ⟨Y, hY, q⟩ => ⟨Y, hY, congrArg (fun z => [vI z]) q⟩)) ?_
    refine And.intro ⟨hM, i, _, by omega, rfl⟩ ?_
    show ((some (vI (vwA ((laM mm (nI i)).1 54 0) (nI i).toNatClampNeg (nI (pcN (plA (mm.1 54 0) (nI i).toNatClampNeg (nI d).toNatClampNeg 99 2).toNatClampNeg)))) : Option MV), laM mm (nI i)) = _
    first | exact congrArg (fun z => ((some (vI z) : Option MV), laM mm (nI i))) (if_neg b9).symm | exact congrArg (fun z => ((some (vI z) : Option MV), laM mm (nI i))) (if_pos b9).symm
  · -- 9: plA (mm.1 54 0) (nI i).toNatClampNeg (nI d).toNatClampNeg 99 2 = (-1) on
    replace b9 : plA (mm.1 54 0) (nI i).toNatClampNeg (nI d).toNatClampNeg 99 2 = (-1) := b9
    show ((some (vI 1000000) : Option MV), laM mm (nI i)) = _
    first | exact congrArg (fun z => ((some (vI z) : Option MV), laM mm (nI i))) (if_neg b9).symm | exact congrArg (fun z => ((some (vI z) : Option MV), laM mm (nI i))) (if_pos b9).symm
theorem con_X12_soonestOf (l : Launch) : CON l y_X12_soonestOf prog_14_method_120_code 4 (some .int) rm_X12_soonestOf Pre_X12_soonestOf Fn_X12_soonestOf := CON_of (by decide) rfl rfl (sa_X12_soonestOf l) vc_X12_soonestOf
def Pre_X12_soonest : PreT := fun m as => VM m ∧ HSo (m.1 54 0) ∧ ∃ x y : Int32, as = [vR 12 0, vI x, vI y]
noncomputable def soR (m : MM) (x y : Int32) : Option MV × MM := if snA (m.1 54 0) x.toNatClampNeg y.toNatClampNeg = 1000000 then rfM (laM m x) 6 else gvM (laM m x) (snA (m.1 54 0) x.toNatClampNeg y.toNatClampNeg)
noncomputable def Fn_X12_soonest : FnT := fun m as => match as with
  | [_, Sum.inl x, Sum.inl y] => if wpF (m.1 54 0) x y 0 ≤ 0 then soR m x y else rfM m (wpF (m.1 54 0) x y 0)
  | _ => (none, m)
abbrev y_X12_soonest : MethodName := ⟨"GivenUpModel", "soonest", "(II)I"⟩
def P_X12_soonest : List StpT := [s_aload 0, s_iload 1, s_iload 2, s_ic (0), s_callV 12 3 Pre_X12_wrongPlan Fn_X12_wrongPlan, s_istore 3, s_iload 3, s_ifle 12, s_aload 0, s_iload 3, s_callV 12 1 Pre_X12_refuse Fn_X12_refuse, s_iret, s_aload 0, s_iload 1, s_iload 2, s_callV 12 2 Pre_X12_soonestOf Fn_X12_soonestOf, s_istore 4, s_iload 4, s_ic (1000000), s_icne 24, s_aload 0, s_ic (6), s_callV 12 1 Pre_X12_refuse Fn_X12_refuse, s_goto 27, s_aload 0, s_iload 4, s_callV 12 1 Pre_X12_gives Fn_X12_gives, s_iret]
def pc_X12_soonest : Nat → Nat := fun i => [0, 1, 2, 3, 4, 7, 8, 9, 12, 13, 14, 17, 18, 19, 20, 21, 24, 26, 28, 31, 34, 35, 37, 40, 43, 44, 46, 49].getD i 0
def dl_X12_soonest : List (Nat × Instr × Nat) := [(0, .aload_n 0, 1), (1, .iload_n 1, 1), (2, .iload_n 2, 1), (3, .iconst 0, 1), (4, .invokevirtual 392, 3), (7, .istore_n 3, 1), (8, .iload_n 3, 1), (9, .ifCond .le 9, 3), (12, .aload_n 0, 1), (13, .iload_n 3, 1), (14, .invokevirtual 87, 3), (17, .ireturn, 1), (18, .aload_n 0, 1), (19, .iload_n 1, 1), (20, .iload_n 2, 1), (21, .invokevirtual 401, 3), (24, .istore 4, 2), (26, .iload 4, 2), (28, .ldc_w 400, 3), (31, .if_icmp .ne 12, 3), (34, .aload_n 0, 1), (35, .bipush 6, 2), (37, .invokevirtual 87, 3), (40, .goto 9, 3), (43, .aload_n 0, 1), (44, .iload 4, 2), (46, .invokevirtual 91, 3), (49, .ireturn, 1)]
theorem dc_X12_soonest : DEC prog_14_method_121_code pc_X12_soonest dl_X12_soonest := DEC_of (by decide +kernel)
abbrev rm_X12_soonest : Room := { frames := 6, cells := 0, slots := 0, locals := 139 }
set_option maxRecDepth 20000 in
theorem sa_X12_soonest (l : Launch) : SNDALL l prog_14_method_121_code "GivenUpModel" 5 (some .int) rm_X12_soonest P_X12_soonest pc_X12_soonest := fun p e s m args below meth c cells slots Q D dA ad A RR hC hR => by
  have hM := RTX_room (R := rm_X12_soonest) hR
  exact ⟨st_aload_n hC (n := 0) (k := 0) (dc_X12_soonest 0 (0, .aload_n 0, 1) rfl rfl) rfl rfl,
    st_iload_n hC (n := 1) (k := 1) (dc_X12_soonest 1 (1, .iload_n 1, 1) rfl rfl) rfl rfl,
    st_iload_n hC (n := 2) (k := 2) (dc_X12_soonest 2 (2, .iload_n 2, 1) rfl rfl) rfl rfl,
    st_iconst hC (n := 3) (x := 0) (dc_X12_soonest 3 (3, .iconst 0, 1) rfl rfl) rfl (by decide),
    st_callV hC (n := 4) (k := 12) (na := 3) (con_X12_wrongPlan l) (dc_X12_soonest 4 (4, .invokevirtual 392, 3) rfl rfl) rfl wd_2123 wd_160 (by decide) ⟨rfl, rfl, by decide, by decide⟩ hM wd_2120 wd_2122 wd_117 clf_12,
    st_istore_n hC (n := 5) (k := 3) (dc_X12_soonest 5 (7, .istore_n 3, 1) rfl rfl) rfl rfl (by decide),
    st_iload_n hC (n := 6) (k := 3) (dc_X12_soonest 6 (8, .iload_n 3, 1) rfl rfl) rfl rfl,
    st_ifle hC (n := 7) (dc_X12_soonest 7 (9, .ifCond .le 9, 3) rfl rfl) rfl (by decide),
    st_aload_n hC (n := 8) (k := 0) (dc_X12_soonest 8 (12, .aload_n 0, 1) rfl rfl) rfl rfl,
    st_iload_n hC (n := 9) (k := 3) (dc_X12_soonest 9 (13, .iload_n 3, 1) rfl rfl) rfl rfl,
    st_callV hC (n := 10) (k := 12) (na := 1) (con_X12_refuse l) (dc_X12_soonest 10 (14, .invokevirtual 87, 3) rfl rfl) rfl wd_1758 wd_160 (by decide) ⟨rfl, rfl, by decide, by decide⟩ hM wd_1755 wd_1757 wd_57 clf_12,
    st_iret hC (n := 11) hR (dc_X12_soonest 11 (17, .ireturn, 1) rfl rfl),
    st_aload_n hC (n := 12) (k := 0) (dc_X12_soonest 12 (18, .aload_n 0, 1) rfl rfl) rfl rfl,
    st_iload_n hC (n := 13) (k := 1) (dc_X12_soonest 13 (19, .iload_n 1, 1) rfl rfl) rfl rfl,
    st_iload_n hC (n := 14) (k := 2) (dc_X12_soonest 14 (20, .iload_n 2, 1) rfl rfl) rfl rfl,
    st_callV hC (n := 15) (k := 12) (na := 2) (con_X12_soonestOf l) (dc_X12_soonest 15 (21, .invokevirtual 401, 3) rfl rfl) rfl wd_2158 wd_160 (by decide) ⟨rfl, rfl, by decide, by decide⟩ hM wd_2155 wd_2157 wd_122 clf_12,
    st_istore hC (n := 16) (dc_X12_soonest 16 (24, .istore 4, 2) rfl rfl) rfl (by decide),
    st_iload hC (n := 17) (dc_X12_soonest 17 (26, .iload 4, 2) rfl rfl) rfl,
    st_ldcw hC (n := 18) (x := 1000000) (dc_X12_soonest 18 (28, .ldc_w 400, 3) rfl rfl) rfl wd_2159,
    st_icne hC (n := 19) (dc_X12_soonest 19 (31, .if_icmp .ne 12, 3) rfl rfl) rfl (by decide),
    st_aload_n hC (n := 20) (k := 0) (dc_X12_soonest 20 (34, .aload_n 0, 1) rfl rfl) rfl rfl,
    st_bipush hC (n := 21) (x := 6) (dc_X12_soonest 21 (35, .bipush 6, 2) rfl rfl) rfl (by decide),
    st_callV hC (n := 22) (k := 12) (na := 1) (con_X12_refuse l) (dc_X12_soonest 22 (37, .invokevirtual 87, 3) rfl rfl) rfl wd_1758 wd_160 (by decide) ⟨rfl, rfl, by decide, by decide⟩ hM wd_1755 wd_1757 wd_57 clf_12,
    st_goto hC (n := 23) (dc_X12_soonest 23 (40, .goto 9, 3) rfl rfl) (by decide),
    st_aload_n hC (n := 24) (k := 0) (dc_X12_soonest 24 (43, .aload_n 0, 1) rfl rfl) rfl rfl,
    st_iload hC (n := 25) (dc_X12_soonest 25 (44, .iload 4, 2) rfl rfl) rfl,
    st_callV hC (n := 26) (k := 12) (na := 1) (con_X12_gives l) (dc_X12_soonest 26 (46, .invokevirtual 91, 3) rfl rfl) rfl wd_1849 wd_160 (by decide) ⟨rfl, rfl, by decide, by decide⟩ hM wd_1846 wd_1848 wd_79 clf_12,
    st_iret hC (n := 27) hR (dc_X12_soonest 27 (49, .ireturn, 1) rfl rfl), trivial⟩
set_option maxRecDepth 8000 in
theorem vc_X12_soonest : VC P_X12_soonest 5 Pre_X12_soonest Fn_X12_soonest := by
  rintro mm as hom hoa ⟨⟨ns, nm, nt, hV⟩, hH, x, y, rfl⟩
  refine ⟨Nat.le_of_ble_eq_true rfl, fun X h => ?_⟩
  have hM : VM mm := ⟨ns, nm, nt, hV⟩
  have hns4 : ns ≤ 4 := hV.1.2
  have hnm4 : nm ≤ 4 := hV.2.1.2
  have body : wpF (mm.1 54 0) x y 0 ≤ 0 → X 12 [some (vR 12 0), some (vI (x)), some (vI (y)), some (vI (wpF (mm.1 54 0) x y 0)), none] [] mm := by
    intro hp
    replace h : RUN P_X12_soonest (fun r m' => (r, m') = soR mm x y) X := by
      have e : Fn_X12_soonest mm [vR 12 0, vI x, vI y] = soR mm x y := if_pos hp
      rw [e] at h; exact h
    obtain ⟨i, hi, rfl⟩ := su_in hV (wpF_pos hp).1
    obtain ⟨d, hd, rfl⟩ := ma_in hV (wpF_pos hp).2
    show X 12 [some (vR 12 0), some (vI (nI i)), some (vI (nI d)), some (vI (wpF (mm.1 54 0) (nI i) (nI d) 0)), none] [] mm
    refine h (fun _ => false) 3000 12 _ _ _ ?_
    refine And.intro ⟨hM, hH, i, d, by omega, by omega, rfl⟩ ?_
    refine brn_c (fun b19 => ?_) (fun b19 => ?_)
    · -- 19: snA (mm.1 54 0) (nI i).toNatClampNeg (nI d).toNatClampNeg = 1000000 taken
      replace b19 : ¬ (snA (mm.1 54 0) (nI i).toNatClampNeg (nI d).toNatClampNeg = 1000000) := b19
      refine And.intro ⟨_, rfl⟩ ?_
      show ((some (vI (snA (mm.1 54 0) (nI i).toNatClampNeg (nI d).toNatClampNeg)) : Option MV), stM (laM mm (nI i)) 0) = _
      first | exact (if_neg b19).symm | exact (if_pos b19).symm
    · -- 19: snA (mm.1 54 0) (nI i).toNatClampNeg (nI d).toNatClampNeg = 1000000 on
      replace b19 : snA (mm.1 54 0) (nI i).toNatClampNeg (nI d).toNatClampNeg = 1000000 := b19
      refine And.intro ⟨_, rfl⟩ ?_
      show ((some (vI (-1)) : Option MV), stM (laM mm (nI i)) 6) = _
      first | exact (if_neg b19).symm | exact (if_pos b19).symm
  show X 0 [some (vR 12 0), some (vI x), some (vI y), none, none] [] mm
  refine h (fun i => Nat.beq i 12) 3000 0 _ _ _ ?_
  refine And.intro ⟨hM, _, _, _, rfl⟩ ?_
  refine br_c (fun b7 => ?_) (fun b7 => ?_)
  · -- 7: wpF (mm.1 54 0) x y 0 ≤ 0 taken
    replace b7 : wpF (mm.1 54 0) x y 0 ≤ 0 := b7
    show X 12 [some (vR 12 0), some (vI x), some (vI y), some (vI (wpF (mm.1 54 0) x y 0)), none] [] mm
    exact body b7
  · -- 7: wpF (mm.1 54 0) x y 0 ≤ 0 on
    replace b7 : ¬ (wpF (mm.1 54 0) x y 0 ≤ 0) := b7
    refine And.intro ⟨_, rfl⟩ ?_
    show ((some (vI (-1)) : Option MV), stM mm (wpF (mm.1 54 0) x y 0)) = _
    exact (if_neg b7).symm
theorem con_X12_soonest (l : Launch) : CON l y_X12_soonest prog_14_method_121_code 5 (some .int) rm_X12_soonest Pre_X12_soonest Fn_X12_soonest := CON_of (by decide) rfl rfl (sa_X12_soonest l) vc_X12_soonest
noncomputable def msF (a : Nat → Int32) (nt H i d : Nat) (w : Int32) : Nat → Int32
  | 0 => 0
  | k + 1 => cI (ndn k H = 0 ∧ Cn a nt k ∧ vwX a i k ≤ w ∧ a 6 + vwX a i k ≤ 999) (if msF a nt H i d w k < syA a (nI k) d then syA a (nI k) d else msF a nt H i d w k) (msF a nt H i d w k)
noncomputable def moR (m : MM) (i d : Nat) (w : Int32) : Option MV × MM := gvM (laM m (nI i)) (hdA (m.1 54 0) (nI i) d + msF (m.1 54 0) (m.1 54 0 2).toNatClampNeg (hsN (m.1 54 0) i) i d w (hsN (m.1 54 0) i + 1))

def Pre_X12_most : PreT := fun m as => VM m ∧ HSo (m.1 54 0) ∧ ∃ x y w : Int32, as = [vR 12 0, vI x, vI y, vI w]
noncomputable def Fn_X12_most : FnT := fun m as => match as with
  | [_, Sum.inl x, Sum.inl y, Sum.inl w] => if (suP (m.1 54 0) x ∧ maP (m.1 54 0) y) ∧ (¬ w < 0 ∧ ¬ 99 < w) then (if m.1 54 0 (15 + 4 * x.toNatClampNeg) = -1 then moR m x.toNatClampNeg y.toNatClampNeg w else rfM m 7) else rfM m 1
  | _ => (none, m)
abbrev y_X12_most : MethodName := ⟨"GivenUpModel", "most", "(III)I"⟩
def P_X12_most : List StpT := [s_aload 0, s_iload 1, s_iload 2, s_callV 12 2 Pre_X12_areBoth Fn_X12_areBoth, s_ifeq 8, s_iload 3, s_callS 1 Pre_X12_isAhead Fn_X12_isAhead, s_ifne 12, s_aload 0, s_ic (1), s_callV 12 1 Pre_X12_refuse Fn_X12_refuse, s_iret, s_aload 0, s_iload 1, s_callV 12 1 Pre_X12_hasWed Fn_X12_hasWed, s_ifeq 20, s_aload 0, s_ic (7), s_callV 12 1 Pre_X12_refuse Fn_X12_refuse, s_iret, s_aload 0, s_iload 1, s_callV 12 1 Pre_X12_laysCan Fn_X12_laysCan, s_istore 4, s_ic (0), s_istore 5, s_ic (0), s_istore 6, s_iload 6, s_iload 4, s_icgt 69, s_iload 6, s_iload 4, s_ic (-1), s_ixor, s_iand, s_ifne 67, s_aload 0, s_getR 12 24 62, s_iload 6, s_iald, s_ifne 43, s_goto 67, s_aload 0, s_iload 1, s_iload 6, s_callS 1 Pre_X12_bits Fn_X12_bits, s_callV 12 2 Pre_X12_weeksFor Fn_X12_weeksFor, s_istore 7, s_iload 7, s_iload 3, s_icgt 67, s_aload 0, s_getR 12 0 54, s_ic (6), s_iald, s_iload 7, s_iadd, s_ic (999), s_icgt 67, s_iload 5, s_aload 0, s_iload 6, s_iload 2, s_callV 12 2 Pre_X12_saidBy Fn_X12_saidBy, s_callS 2 Pre_J9_max_7cf53 Fn_J9_max_7cf53, s_istore 5, s_iinc 6 (1), s_goto 28, s_aload 0, s_aload 0, s_iload 1, s_iload 2, s_callV 12 2 Pre_X12_heardOf Fn_X12_heardOf, s_iload 5, s_iadd, s_callV 12 1 Pre_X12_gives Fn_X12_gives, s_iret]
def pc_X12_most : Nat → Nat := fun i => [0, 1, 2, 3, 6, 9, 10, 13, 16, 17, 18, 21, 22, 23, 24, 27, 30, 31, 33, 36, 37, 38, 39, 42, 44, 45, 47, 48, 50, 52, 54, 57, 59, 61, 62, 63, 64, 67, 68, 71, 73, 74, 77, 80, 81, 82, 84, 87, 90, 92, 94, 95, 98, 99, 102, 104, 105, 107, 108, 111, 114, 116, 117, 119, 120, 123, 126, 128, 131, 134, 135, 136, 137, 138, 141, 143, 144, 147].getD i 0
def dl_X12_most : List (Nat × Instr × Nat) := [(0, .aload_n 0, 1), (1, .iload_n 1, 1), (2, .iload_n 2, 1), (3, .invokevirtual 322, 3), (6, .ifCond .eq 10, 3), (9, .iload_n 3, 1), (10, .invokestatic 389, 3), (13, .ifCond .ne 9, 3), (16, .aload_n 0, 1), (17, .iconst 1, 1), (18, .invokevirtual 87, 3), (21, .ireturn, 1), (22, .aload_n 0, 1), (23, .iload_n 1, 1), (24, .invokevirtual 292, 3), (27, .ifCond .eq 10, 3), (30, .aload_n 0, 1), (31, .bipush 7, 2), (33, .invokevirtual 87, 3), (36, .ireturn, 1), (37, .aload_n 0, 1), (38, .iload_n 1, 1), (39, .invokevirtual 382, 3), (42, .istore 4, 2), (44, .iconst 0, 1), (45, .istore 5, 2), (47, .iconst 0, 1), (48, .istore 6, 2), (50, .iload 6, 2), (52, .iload 4, 2), (54, .if_icmp .gt 80, 3), (57, .iload 6, 2), (59, .iload 4, 2), (61, .iconst (-1), 1), (62, .ixor, 1), (63, .iand, 1), (64, .ifCond .ne 64, 3), (67, .aload_n 0, 1), (68, .getfield 47, 3), (71, .iload 6, 2), (73, .iaload, 1), (74, .ifCond .ne 6, 3), (77, .goto 51, 3), (80, .aload_n 0, 1), (81, .iload_n 1, 1), (82, .iload 6, 2), (84, .invokestatic 331, 3), (87, .invokevirtual 379, 3), (90, .istore 7, 2), (92, .iload 7, 2), (94, .iload_n 3, 1), (95, .if_icmp .gt 33, 3), (98, .aload_n 0, 1), (99, .getfield 7, 3), (102, .bipush 6, 2), (104, .iaload, 1), (105, .iload 7, 2), (107, .iadd, 1), (108, .sipush 999, 3), (111, .if_icmp .gt 17, 3), (114, .iload 5, 2), (116, .aload_n 0, 1), (117, .iload 6, 2), (119, .iload_n 2, 1), (120, .invokevirtual 283, 3), (123, .invokestatic 349, 3), (126, .istore 5, 2), (128, .iinc 6 1, 3), (131, .goto (-81), 3), (134, .aload_n 0, 1), (135, .aload_n 0, 1), (136, .iload_n 1, 1), (137, .iload_n 2, 1), (138, .invokevirtual 298, 3), (141, .iload 5, 2), (143, .iadd, 1), (144, .invokevirtual 91, 3), (147, .ireturn, 1)]
theorem dc_X12_most : DEC prog_14_method_122_code pc_X12_most dl_X12_most := DEC_of (by decide +kernel)
abbrev rm_X12_most : Room := { frames := 4, cells := 0, slots := 0, locals := 88 }
set_option maxRecDepth 20000 in
theorem sa_X12_most (l : Launch) : SNDALL l prog_14_method_122_code "GivenUpModel" 8 (some .int) rm_X12_most P_X12_most pc_X12_most := fun p e s m args below meth c cells slots Q D dA ad A RR hC hR => by
  have hM := RTX_room (R := rm_X12_most) hR
  exact ⟨st_aload_n hC (n := 0) (k := 0) (dc_X12_most 0 (0, .aload_n 0, 1) rfl rfl) rfl rfl,
    st_iload_n hC (n := 1) (k := 1) (dc_X12_most 1 (1, .iload_n 1, 1) rfl rfl) rfl rfl,
    st_iload_n hC (n := 2) (k := 2) (dc_X12_most 2 (2, .iload_n 2, 1) rfl rfl) rfl rfl,
    st_callV hC (n := 3) (k := 12) (na := 2) (con_X12_areBoth l) (dc_X12_most 3 (3, .invokevirtual 322, 3) rfl rfl) rfl wd_1969 wd_160 (by decide) ⟨rfl, rfl, by decide, by decide⟩ hM wd_1966 wd_1968 wd_99 clf_12,
    st_ifeq hC (n := 4) (dc_X12_most 4 (6, .ifCond .eq 10, 3) rfl rfl) rfl (by decide),
    st_iload_n hC (n := 5) (k := 3) (dc_X12_most 5 (9, .iload_n 3, 1) rfl rfl) rfl rfl,
    st_callS hC (n := 6) (na := 1) (con_X12_isAhead l) (dc_X12_most 6 (10, .invokestatic 389, 3) rfl rfl) rfl wd_2126 wd_160 (by decide) ⟨rfl, rfl, by decide, by decide⟩ hM wd_2124 wd_2125,
    st_ifne hC (n := 7) (dc_X12_most 7 (13, .ifCond .ne 9, 3) rfl rfl) rfl (by decide),
    st_aload_n hC (n := 8) (k := 0) (dc_X12_most 8 (16, .aload_n 0, 1) rfl rfl) rfl rfl,
    st_iconst hC (n := 9) (x := 1) (dc_X12_most 9 (17, .iconst 1, 1) rfl rfl) rfl (by decide),
    st_callV hC (n := 10) (k := 12) (na := 1) (con_X12_refuse l) (dc_X12_most 10 (18, .invokevirtual 87, 3) rfl rfl) rfl wd_1758 wd_160 (by decide) ⟨rfl, rfl, by decide, by decide⟩ hM wd_1755 wd_1757 wd_57 clf_12,
    st_iret hC (n := 11) hR (dc_X12_most 11 (21, .ireturn, 1) rfl rfl),
    st_aload_n hC (n := 12) (k := 0) (dc_X12_most 12 (22, .aload_n 0, 1) rfl rfl) rfl rfl,
    st_iload_n hC (n := 13) (k := 1) (dc_X12_most 13 (23, .iload_n 1, 1) rfl rfl) rfl rfl,
    st_callV hC (n := 14) (k := 12) (na := 1) (con_X12_hasWed l) (dc_X12_most 14 (24, .invokevirtual 292, 3) rfl rfl) rfl wd_1985 wd_160 (by decide) ⟨rfl, rfl, by decide, by decide⟩ hM wd_1982 wd_1984 wd_102 clf_12,
    st_ifeq hC (n := 15) (dc_X12_most 15 (27, .ifCond .eq 10, 3) rfl rfl) rfl (by decide),
    st_aload_n hC (n := 16) (k := 0) (dc_X12_most 16 (30, .aload_n 0, 1) rfl rfl) rfl rfl,
    st_bipush hC (n := 17) (x := 7) (dc_X12_most 17 (31, .bipush 7, 2) rfl rfl) rfl (by decide),
    st_callV hC (n := 18) (k := 12) (na := 1) (con_X12_refuse l) (dc_X12_most 18 (33, .invokevirtual 87, 3) rfl rfl) rfl wd_1758 wd_160 (by decide) ⟨rfl, rfl, by decide, by decide⟩ hM wd_1755 wd_1757 wd_57 clf_12,
    st_iret hC (n := 19) hR (dc_X12_most 19 (36, .ireturn, 1) rfl rfl),
    st_aload_n hC (n := 20) (k := 0) (dc_X12_most 20 (37, .aload_n 0, 1) rfl rfl) rfl rfl,
    st_iload_n hC (n := 21) (k := 1) (dc_X12_most 21 (38, .iload_n 1, 1) rfl rfl) rfl rfl,
    st_callV hC (n := 22) (k := 12) (na := 1) (con_X12_laysCan l) (dc_X12_most 22 (39, .invokevirtual 382, 3) rfl rfl) rfl wd_2134 wd_160 (by decide) ⟨rfl, rfl, by decide, by decide⟩ hM wd_2131 wd_2133 wd_119 clf_12,
    st_istore hC (n := 23) (dc_X12_most 23 (42, .istore 4, 2) rfl rfl) rfl (by decide),
    st_iconst hC (n := 24) (x := 0) (dc_X12_most 24 (44, .iconst 0, 1) rfl rfl) rfl (by decide),
    st_istore hC (n := 25) (dc_X12_most 25 (45, .istore 5, 2) rfl rfl) rfl (by decide),
    st_iconst hC (n := 26) (x := 0) (dc_X12_most 26 (47, .iconst 0, 1) rfl rfl) rfl (by decide),
    st_istore hC (n := 27) (dc_X12_most 27 (48, .istore 6, 2) rfl rfl) rfl (by decide),
    st_iload hC (n := 28) (dc_X12_most 28 (50, .iload 6, 2) rfl rfl) rfl,
    st_iload hC (n := 29) (dc_X12_most 29 (52, .iload 4, 2) rfl rfl) rfl,
    st_icgt hC (n := 30) (dc_X12_most 30 (54, .if_icmp .gt 80, 3) rfl rfl) rfl (by decide),
    st_iload hC (n := 31) (dc_X12_most 31 (57, .iload 6, 2) rfl rfl) rfl,
    st_iload hC (n := 32) (dc_X12_most 32 (59, .iload 4, 2) rfl rfl) rfl,
    st_iconst hC (n := 33) (x := (-1)) (dc_X12_most 33 (61, .iconst (-1), 1) rfl rfl) rfl (by decide),
    st_ixor hC (n := 34) (dc_X12_most 34 (62, .ixor, 1) rfl rfl) rfl,
    st_iand hC (n := 35) (dc_X12_most 35 (63, .iand, 1) rfl rfl) rfl,
    st_ifne hC (n := 36) (dc_X12_most 36 (64, .ifCond .ne 64, 3) rfl rfl) rfl (by decide),
    st_aload_n hC (n := 37) (k := 0) (dc_X12_most 37 (67, .aload_n 0, 1) rfl rfl) rfl rfl,
    st_getR hC (n := 38) (k := 12) (j := 24) (dc_X12_most 38 (68, .getfield 47, 3) rfl rfl) rfl clf_12 (by decide) rfl (by decide) wd_1576,
    st_iload hC (n := 39) (dc_X12_most 39 (71, .iload 6, 2) rfl rfl) rfl,
    st_iald hC (n := 40) (dc_X12_most 40 (73, .iaload, 1) rfl rfl) rfl,
    st_ifne hC (n := 41) (dc_X12_most 41 (74, .ifCond .ne 6, 3) rfl rfl) rfl (by decide),
    st_goto hC (n := 42) (dc_X12_most 42 (77, .goto 51, 3) rfl rfl) (by decide),
    st_aload_n hC (n := 43) (k := 0) (dc_X12_most 43 (80, .aload_n 0, 1) rfl rfl) rfl rfl,
    st_iload_n hC (n := 44) (k := 1) (dc_X12_most 44 (81, .iload_n 1, 1) rfl rfl) rfl rfl,
    st_iload hC (n := 45) (dc_X12_most 45 (82, .iload 6, 2) rfl rfl) rfl,
    st_callS hC (n := 46) (na := 1) (con_X12_bits l) (dc_X12_most 46 (84, .invokestatic 331, 3) rfl rfl) rfl wd_1957 wd_160 (by decide) ⟨rfl, rfl, by decide, by decide⟩ hM wd_1955 wd_1956,
    st_callV hC (n := 47) (k := 12) (na := 2) (con_X12_weeksFor l) (dc_X12_most 47 (87, .invokevirtual 379, 3) rfl rfl) rfl wd_2138 wd_160 (by decide) ⟨rfl, rfl, by decide, by decide⟩ hM wd_2135 wd_2137 wd_120 clf_12,
    st_istore hC (n := 48) (dc_X12_most 48 (90, .istore 7, 2) rfl rfl) rfl (by decide),
    st_iload hC (n := 49) (dc_X12_most 49 (92, .iload 7, 2) rfl rfl) rfl,
    st_iload_n hC (n := 50) (k := 3) (dc_X12_most 50 (94, .iload_n 3, 1) rfl rfl) rfl rfl,
    st_icgt hC (n := 51) (dc_X12_most 51 (95, .if_icmp .gt 33, 3) rfl rfl) rfl (by decide),
    st_aload_n hC (n := 52) (k := 0) (dc_X12_most 52 (98, .aload_n 0, 1) rfl rfl) rfl rfl,
    st_getR hC (n := 53) (k := 12) (j := 0) (dc_X12_most 53 (99, .getfield 7, 3) rfl rfl) rfl clf_12 (by decide) rfl (by decide) wd_1552,
    st_bipush hC (n := 54) (x := 6) (dc_X12_most 54 (102, .bipush 6, 2) rfl rfl) rfl (by decide),
    st_iald hC (n := 55) (dc_X12_most 55 (104, .iaload, 1) rfl rfl) rfl,
    st_iload hC (n := 56) (dc_X12_most 56 (105, .iload 7, 2) rfl rfl) rfl,
    st_iadd hC (n := 57) (dc_X12_most 57 (107, .iadd, 1) rfl rfl) rfl,
    st_sipush hC (n := 58) (x := 999) (dc_X12_most 58 (108, .sipush 999, 3) rfl rfl) rfl (by decide),
    st_icgt hC (n := 59) (dc_X12_most 59 (111, .if_icmp .gt 17, 3) rfl rfl) rfl (by decide),
    st_iload hC (n := 60) (dc_X12_most 60 (114, .iload 5, 2) rfl rfl) rfl,
    st_aload_n hC (n := 61) (k := 0) (dc_X12_most 61 (116, .aload_n 0, 1) rfl rfl) rfl rfl,
    st_iload hC (n := 62) (dc_X12_most 62 (117, .iload 6, 2) rfl rfl) rfl,
    st_iload_n hC (n := 63) (k := 2) (dc_X12_most 63 (119, .iload_n 2, 1) rfl rfl) rfl rfl,
    st_callV hC (n := 64) (k := 12) (na := 2) (con_X12_saidBy l) (dc_X12_most 64 (120, .invokevirtual 283, 3) rfl rfl) rfl wd_2025 wd_160 (by decide) ⟨rfl, rfl, by decide, by decide⟩ hM wd_2022 wd_2024 wd_107 clf_12,
    st_callS hC (n := 65) (na := 2) (con_J9_max_7cf53 l) (dc_X12_most 65 (123, .invokestatic 349, 3) rfl rfl) rfl wd_1185 wd_162 (by decide) ⟨rfl, rfl, by decide, by decide⟩ hM wd_2058 wd_1184,
    st_istore hC (n := 66) (dc_X12_most 66 (126, .istore 5, 2) rfl rfl) rfl (by decide),
    st_iinc hC (n := 67) (x := 1) (dc_X12_most 67 (128, .iinc 6 1, 3) rfl rfl) rfl (by decide) (by decide),
    st_goto hC (n := 68) (dc_X12_most 68 (131, .goto (-81), 3) rfl rfl) (by decide),
    st_aload_n hC (n := 69) (k := 0) (dc_X12_most 69 (134, .aload_n 0, 1) rfl rfl) rfl rfl,
    st_aload_n hC (n := 70) (k := 0) (dc_X12_most 70 (135, .aload_n 0, 1) rfl rfl) rfl rfl,
    st_iload_n hC (n := 71) (k := 1) (dc_X12_most 71 (136, .iload_n 1, 1) rfl rfl) rfl rfl,
    st_iload_n hC (n := 72) (k := 2) (dc_X12_most 72 (137, .iload_n 2, 1) rfl rfl) rfl rfl,
    st_callV hC (n := 73) (k := 12) (na := 2) (con_X12_heardOf l) (dc_X12_most 73 (138, .invokevirtual 298, 3) rfl rfl) rfl wd_2021 wd_160 (by decide) ⟨rfl, rfl, by decide, by decide⟩ hM wd_2018 wd_2020 wd_106 clf_12,
    st_iload hC (n := 74) (dc_X12_most 74 (141, .iload 5, 2) rfl rfl) rfl,
    st_iadd hC (n := 75) (dc_X12_most 75 (143, .iadd, 1) rfl rfl) rfl,
    st_callV hC (n := 76) (k := 12) (na := 1) (con_X12_gives l) (dc_X12_most 76 (144, .invokevirtual 91, 3) rfl rfl) rfl wd_1849 wd_160 (by decide) ⟨rfl, rfl, by decide, by decide⟩ hM wd_1846 wd_1848 wd_79 clf_12,
    st_iret hC (n := 77) hR (dc_X12_most 77 (147, .ireturn, 1) rfl rfl), trivial⟩
set_option maxRecDepth 8000 in
theorem vc_X12_most : VC P_X12_most 8 Pre_X12_most Fn_X12_most := by
  rintro mm as hom hoa ⟨⟨ns, nm, n, hV⟩, hH, x, y, w, rfl⟩
  refine ⟨Nat.le_of_ble_eq_true rfl, fun X h => ?_⟩
  have hM : VM mm := ⟨ns, nm, n, hV⟩
  have hn : mm.1 54 0 2 = nI n := hV.2.2.1.1
  have hn12 : n ≤ 12 := hV.2.2.1.2
  have hns4 : ns ≤ 4 := hV.1.2
  have hnm4 : nm ≤ 4 := hV.2.1.2
  have body : (suP (mm.1 54 0) x ∧ maP (mm.1 54 0) y) ∧ (¬ w < 0 ∧ ¬ 99 < w) → X 12 [some (vR 12 0), some (vI (x)), some (vI (y)), some (vI (w)), none, none, none, none] [] mm := by
    intro hp
    obtain ⟨i, hi, rfl⟩ := su_in hV hp.1.1
    obtain ⟨d, hd, rfl⟩ := ma_in hV hp.1.2
    have ei : (nI i).toNatClampNeg = i := nI_clamp (by omega)
    have ed : (nI d).toNatClampNeg = d := nI_clamp (by omega)
    have eF : Fn_X12_most mm [vR 12 0, vI (nI i), vI (nI d), vI w] = if mm.1 54 0 (15 + 4 * i) = -1 then moR mm i d w else rfM mm 7 := by
      refine Eq.trans (if_pos hp) ?_
      rw [ei, ed]
    rw [eF] at h
    suffices z : mm.1 54 0 (15 + 4 * i) = -1 → X 20 [some (vR 12 0), some (vI (nI i)), some (vI (nI d)), some (vI (w)), none, none, none, none] [] mm by
      show X 12 [some (vR 12 0), some (vI (nI i)), some (vI (nI d)), some (vI w), none, none, none, none] [] mm
      refine h (fun i => Nat.beq i 20) 3000 12 _ _ _ ?_
      refine And.intro ⟨i, by omega, rfl⟩ ?_
      refine br_c (fun b15 => ?_) (fun b15 => ?_)
      · -- 15: bI (¬ mm.1 54 0 (15 + 4 * (nI i).toNatClampNeg) = -1) = 0 taken
        replace b15 : ¬ (¬ mm.1 54 0 (15 + 4 * (nI i).toNatClampNeg) = -1) := bI_0.mp b15
        rw [ei] at b15
        show X 20 [some (vR 12 0), some (vI (nI i)), some (vI (nI d)), some (vI w), none, none, none, none] [] mm
        exact z (Decidable.not_not.mp b15)
      · -- 15: bI (¬ mm.1 54 0 (15 + 4 * (nI i).toNatClampNeg) = -1) = 0 on
        replace b15 : ¬ mm.1 54 0 (15 + 4 * (nI i).toNatClampNeg) = -1 := bI_n0.mp b15
        rw [ei] at b15
        refine And.intro ⟨_, rfl⟩ ?_
        show ((some (vI (-1)) : Option MV), stM mm 7) = _
        exact (if_neg b15).symm
    intro hw
    rw [if_pos hw] at h
    obtain ⟨H, hH2, eH⟩ := hH (nI i)
    unfold moR hsN at h
    rw [eH, hn, nI_clamp (show n < 2 ^ 31 by omega), nI_clamp (show H < 2 ^ 31 by omega)] at h
    suffices z : X 28 [some (vR 12 0), some (vI (nI i)), some (vI (nI d)), some (vI (w)), some (vI (nI H)), some (vI (0)), some (vI (0)), none] [] (laM mm (nI i)) by
      show X 20 [some (vR 12 0), some (vI (nI i)), some (vI (nI d)), some (vI w), none, none, none, none] [] mm
      refine h (fun i => Nat.beq i 28) 3000 20 _ _ _ ?_
      refine And.intro ⟨hM, hH, _, rfl⟩ ?_
      show X 28 [some (vR 12 0), some (vI (nI i)), some (vI (nI d)), some (vI w), some (vI (hsA (mm.1 54 0) (nI i))), some (vI 0), some (vI 0), none] [] (laM mm (nI i))
      rw [eH]
      exact z
    have a54 : (laM mm (nI i)).1 54 0 = mm.1 54 0 := rfl
    have a62 : (laM mm (nI i)).1 62 0 = cnR (mm.1 62 0) (mm.1 54 0) n H (H + 1) := by
      show cnR (mm.1 62 0) (mm.1 54 0) (mm.1 54 0 2).toNatClampNeg (hsA (mm.1 54 0) (nI i)).toNatClampNeg ((hsA (mm.1 54 0) (nI i)).toNatClampNeg + 1) = _
      rw [eH, hn, nI_clamp (by omega), nI_clamp (by omega)]
    have hVM : VM (laM mm (nI i)) := hM
    rw [← a54] at h a62
    clear eF hH hoa hom hp hw
    generalize laM mm (nI i) = M at *
    have loop : ∀ k, k ≤ H + 1 → ∀ L7, X 28 [some (vR 12 0), some (vI (nI i)), some (vI (nI d)), some (vI (w)), some (vI (nI H)), some (vI (msF (M.1 54 0) n H i d w k)), some (vI (nI k)), L7] [] (M) := by
      refine up_ind (H + 1) ?_ (fun k hk ih => ?_)
      · intro L7
        show X 28 [some (vR 12 0), some (vI (nI i)), some (vI (nI d)), some (vI w), some (vI (nI H)), some (vI (msF (M.1 54 0) n H i d w (H + 1))), some (vI (nI (H + 1))), L7] [] M
        refine h (fun _ => false) 3000 28 _ _ _ ?_
        refine br_t ((nI_ltI (by omega) (by omega)).mpr (by omega)) ?_
        refine And.intro ⟨hVM, _, d, by omega, rfl⟩ ?_
        refine And.intro ⟨_, rfl⟩ ?_
        show ((some (vI ((hdA (M.1 54 0) (nI i) (nI d).toNatClampNeg) + (msF (M.1 54 0) n H i d w (H + 1)))) : Option MV), stM M 0) = _
        rw [ed]
        exact rfl
      · intro L7
        have ek : (nI k).toNatClampNeg = k := nI_clamp (by omega)
        have eN : nI k &&& (nI H ^^^ (-1)) = nI (ndn k H) := nI_ndn k H
        have eZ : nI k &&& (nI H ^^^ (-1)) = 0 ↔ ndn k H = 0 := by rw [eN]; exact nI_z (Nat.lt_of_le_of_lt (ndn_le _ _) (by omega))
        have c1 := cnR_at (o := mm.1 62 0) (a := M.1 54 0) (nt := n) (H := H) (k := H + 1) (X := k) (by omega)
        rw [← a62] at c1
        have st : ∀ v, v = msF (M.1 54 0) n H i d w (k + 1) → ∀ L7, X 67 [some (vR 12 0), some (vI (nI i)), some (vI (nI d)), some (vI (w)), some (vI (nI H)), some (vI (v)), some (vI (nI k)), L7] [] (M) := by
          intro v ev L7
          show X 67 [some (vR 12 0), some (vI (nI i)), some (vI (nI d)), some (vI w), some (vI (nI H)), some (vI v), some (vI (nI k)), L7] [] M
          refine h (fun i => Nat.beq i 28) 3000 67 _ _ _ ?_
          show X 28 [some (vR 12 0), some (vI (nI i)), some (vI (nI d)), some (vI w), some (vI (nI H)), some (vI v), some (vI ((nI k) + 1)), L7] [] M
          rw [nI_1, ev]
          exact ih L7
        show X 28 [some (vR 12 0), some (vI (nI i)), some (vI (nI d)), some (vI w), some (vI (nI H)), some (vI (msF (M.1 54 0) n H i d w k)), some (vI (nI k)), L7] [] M
        refine h (fun i => Nat.beq i 67) 3000 28 _ _ _ ?_
        refine br_f (fun z => by rw [nI_ltI (by omega) (by omega)] at z; omega) ?_
        refine brn_c (fun b36 => ?_) (fun b36 => ?_)
        · -- 36: (nI k) &&& ((nI H) ^^^ (-1)) = 0 taken
          replace b36 : ¬ ((nI k) &&& ((nI H) ^^^ (-1)) = 0) := b36
          rw [eZ] at b36
          show X 67 [some (vR 12 0), some (vI (nI i)), some (vI (nI d)), some (vI w), some (vI (nI H)), some (vI (msF (M.1 54 0) n H i d w k)), some (vI (nI k)), L7] [] M
          exact st _ (cI_f (fun z => b36 z.1)).symm _
        · -- 36: (nI k) &&& ((nI H) ^^^ (-1)) = 0 on
          replace b36 : (nI k) &&& ((nI H) ^^^ (-1)) = 0 := b36
          rw [eZ] at b36
          refine And.intro (inb_o 4096 rfl rfl rfl (by omega)) ?_
          refine brn_c (fun b41 => ?_) (fun b41 => ?_)
          · -- 41: M.1 62 0 (nI k).toNatClampNeg = 0 taken
            replace b41 : ¬ (M.1 62 0 (nI k).toNatClampNeg = 0) := b41
            rw [ek] at b41
            replace b41 := Classical.byContradiction (fun z => b41 (c1.2.mpr z))
            refine And.intro ⟨k, by omega, rfl⟩ ?_
            refine And.intro ⟨hVM, i, _, by omega, rfl⟩ ?_
            refine br_c (fun b51 => ?_) (fun b51 => ?_)
            · -- 51: w < vwA (M.1 54 0) (nI i).toNatClampNeg (nI (pcN (nI k).toNatClampNeg)) taken
              replace b51 : w < vwA (M.1 54 0) (nI i).toNatClampNeg (nI (pcN (nI k).toNatClampNeg)) := b51
              rw [ek] at b51
              rw [ei] at b51
              show X 67 [some (vR 12 0), some (vI (nI i)), some (vI (nI d)), some (vI w), some (vI (nI H)), some (vI (msF (M.1 54 0) n H i d w k)), some (vI (nI k)), some (vI (vwA (M.1 54 0) (nI i).toNatClampNeg (nI (pcN (nI k).toNatClampNeg))))] [] M
              rw [ek]
              rw [ei]
              exact st _ (cI_f (fun z => Int32.not_le.mpr b51 z.2.2.1)).symm _
            · -- 51: w < vwA (M.1 54 0) (nI i).toNatClampNeg (nI (pcN (nI k).toNatClampNeg)) on
              replace b51 : ¬ (w < vwA (M.1 54 0) (nI i).toNatClampNeg (nI (pcN (nI k).toNatClampNeg))) := b51
              rw [ek] at b51
              rw [ei] at b51
              refine And.intro rfl ?_
              refine br_c (fun b59 => ?_) (fun b59 => ?_)
              · -- 59: 999 < (M.1 54 0 6) + (vwA (M.1 54 0) (nI i).toNatClampNeg (nI (pcN (nI k).toNatClampNeg))) taken
                replace b59 : 999 < (M.1 54 0 6) + (vwA (M.1 54 0) (nI i).toNatClampNeg (nI (pcN (nI k).toNatClampNeg))) := b59
                rw [ek] at b59
                rw [ei] at b59
                show X 67 [some (vR 12 0), some (vI (nI i)), some (vI (nI d)), some (vI w), some (vI (nI H)), some (vI (msF (M.1 54 0) n H i d w k)), some (vI (nI k)), some (vI (vwA (M.1 54 0) (nI i).toNatClampNeg (nI (pcN (nI k).toNatClampNeg))))] [] M
                rw [ek]
                rw [ei]
                first | exact st _ (cI_f (fun z => Int32.not_le.mpr b59 z.2.2.2)).symm _ | exact st _ (cI_t ⟨b36, b41.2, Int32.not_lt.mp b51, Int32.not_lt.mp b59⟩).symm _
              · -- 59: 999 < (M.1 54 0 6) + (vwA (M.1 54 0) (nI i).toNatClampNeg (nI (pcN (nI k).toNatClampNeg))) on
                replace b59 : ¬ (999 < (M.1 54 0 6) + (vwA (M.1 54 0) (nI i).toNatClampNeg (nI (pcN (nI k).toNatClampNeg)))) := b59
                rw [ek] at b59
                rw [ei] at b59
                refine And.intro ⟨hVM, _, d, by omega, rfl⟩ ?_
                refine And.intro ⟨_, _, rfl⟩ ?_
                show X 67 [some (vR 12 0), some (vI (nI i)), some (vI (nI d)), some (vI w), some (vI (nI H)), some (vI (if (msF (M.1 54 0) n H i d w k) < (syA (M.1 54 0) (nI k) (nI d).toNatClampNeg) then (syA (M.1 54 0) (nI k) (nI d).toNatClampNeg) else (msF (M.1 54 0) n H i d w k))), some (vI (nI k)), some (vI (vwA (M.1 54 0) (nI i).toNatClampNeg (nI (pcN (nI k).toNatClampNeg))))] [] M
                rw [ek]
                rw [ei]
                rw [ed]
                first | exact st _ (cI_f (fun z => Int32.not_le.mpr b59 z.2.2.2)).symm _ | exact st _ (cI_t ⟨b36, b41.2, Int32.not_lt.mp b51, Int32.not_lt.mp b59⟩).symm _
          · -- 41: M.1 62 0 (nI k).toNatClampNeg = 0 on
            replace b41 : M.1 62 0 (nI k).toNatClampNeg = 0 := b41
            rw [ek] at b41
            replace b41 := c1.2.mp b41
            show X 67 [some (vR 12 0), some (vI (nI i)), some (vI (nI d)), some (vI w), some (vI (nI H)), some (vI (msF (M.1 54 0) n H i d w k)), some (vI (nI k)), L7] [] M
            exact st _ (cI_f (fun z => b41 ⟨z.1, z.2.1⟩)).symm _
    exact loop 0 (by omega) none
  show X 0 [some (vR 12 0), some (vI x), some (vI y), some (vI w), none, none, none, none] [] mm
  refine h (fun i => Nat.beq i 12) 3000 0 _ _ _ ?_
  refine And.intro ⟨_, _, rfl⟩ ?_
  refine br_c (fun b4 => ?_) (fun b4 => ?_)
  · -- 4: bI (suP (mm.1 54 0) x ∧ maP (mm.1 54 0) y) = 0 taken
    replace b4 : ¬ (suP (mm.1 54 0) x ∧ maP (mm.1 54 0) y) := bI_0.mp b4
    refine And.intro ⟨_, rfl⟩ ?_
    show ((some (vI (-1)) : Option MV), stM mm 1) = _
    exact (if_neg (fun z => b4 z.1)).symm
  · -- 4: bI (suP (mm.1 54 0) x ∧ maP (mm.1 54 0) y) = 0 on
    replace b4 : suP (mm.1 54 0) x ∧ maP (mm.1 54 0) y := bI_n0.mp b4
    refine And.intro ⟨_, rfl⟩ ?_
    refine brn_c (fun b7 => ?_) (fun b7 => ?_)
    · -- 7: bI (¬ w < 0 ∧ ¬ 99 < w) = 0 taken
      replace b7 : ¬ w < 0 ∧ ¬ 99 < w := bI_n0.mp b7
      show X 12 [some (vR 12 0), some (vI x), some (vI y), some (vI w), none, none, none, none] [] mm
      exact body ⟨b4, b7⟩
    · -- 7: bI (¬ w < 0 ∧ ¬ 99 < w) = 0 on
      replace b7 : ¬ (¬ w < 0 ∧ ¬ 99 < w) := bI_0.mp b7
      refine And.intro ⟨_, rfl⟩ ?_
      show ((some (vI (-1)) : Option MV), stM mm 1) = _
      exact (if_neg (fun z => b7 z.2)).symm
theorem con_X12_most (l : Launch) : CON l y_X12_most prog_14_method_122_code 8 (some .int) rm_X12_most Pre_X12_most Fn_X12_most := CON_of (by decide) rfl rfl (sa_X12_most l) vc_X12_most
