/-! PART 55: the model: live, lived, mean, marks -/

def cp5 (o r : Nat → Int32) (i : Nat) : Nat → Int32 := fun j => if j < i then r j else o j
theorem cp5_s (o r : Nat → Int32) (i : Nat) : upd (cp5 o r i) i (r i) = cp5 o r (i + 1) := by
  funext j
  unfold upd cp5
  by_cases h : j = i
  · subst h
    rw [if_pos rfl, if_pos (by omega)]
  · rw [if_neg h]
    by_cases h2 : j < i
    · rw [if_pos h2, if_pos (by omega)]
    · rw [if_neg h2, if_neg (by omega)]
theorem cp5_0 (o r : Nat → Int32) : cp5 o r 0 = o := by
  funext j
  exact if_neg (by omega)
def liE (m : MM) : MM := mI (mRow m 71 0 (cp5 (m.1 71 0) (m.1 70 0) 5)) 12 0 39 1
def liR (m : MM) (x : Int32) : Option MV × MM := gvM (liE (liM m x)) ((liM m x).1 12 0 35)
/-- the YEARS that there are stand well -/
def YO (a : Nat → Int32) (ns nm nt : Nat) : Prop := a 10 = -1 ∨ ∃ L, YP a ns nm nt L
theorem i99_in {x : Int32} (h : i99 x 9999) : ∃ d, d ≤ 9999 ∧ x = nI d := by
  have h1 : ¬ x < 0 := fun z => h.1 ((lg_cmp_lt _ _).mpr (by rw [Int64.lt_iff_toInt_lt, Int32.toInt_toInt64]; rw [Int32.lt_iff_toInt_lt] at z; exact z))
  have h2 : x ≤ 9999 := by
    rw [Int32.le_iff_toInt_le]
    have h3 := h.2
    rw [lg_cmp_gt, Int64.lt_iff_toInt_lt, Int32.toInt_toInt64] at h3
    have e1 : (9999 : Int64).toInt = 9999 := by decide
    have e2 : (9999 : Int32).toInt = 9999 := by decide
    rw [e1] at h3
    rw [e2]
    omega
  exact nI_of2 (n := 9999) (by decide) h1 h2

--tpl rfl
def Pre_X12_live : PreT := fun m as => (∃ ns nm nt, VMx m ns nm nt ∧ YO (m.1 54 0) ns nm nt) ∧ LPo m ∧ ∃ x : Int32, as = [vR 12 0, vI x]
def Fn_X12_live : FnT := fun m as => match as with
  | [_, Sum.inl x] => if i99 x 9999 then (if m.1 54 0 10 = -1 then rfM m 6 else liR m x) else rfM m 1
  | _ => (none, m)
abbrev y_X12_live : MethodName := ⟨"GivenUpModel", "live", "(I)I"⟩
def P_X12_live : List StpT := [s_iload 1, s_i2l, s_lc 0, s_lc (9999), s_callS 3 Pre_X12_isFrom Fn_X12_isFrom, s_ifne 10, s_aload 0, s_ic (1), s_callV 12 1 Pre_X12_refuse Fn_X12_refuse, s_iret, s_aload 0, s_getR 12 0 54, s_ic (10), s_iald, s_ic (-1), s_icne 20, s_aload 0, s_ic (6), s_callV 12 1 Pre_X12_refuse Fn_X12_refuse, s_iret, s_aload 0, s_iload 1, s_callV 12 1 Pre_X12_lives Fn_X12_lives, s_ic (0), s_istore 2, s_iload 2, s_ic (5), s_icge 38, s_aload 0, s_getR 12 38 71, s_iload 2, s_aload 0, s_getR 12 37 70, s_iload 2, s_iald, s_iast, s_iinc 2 (1), s_goto 25, s_aload 0, s_ic (1), s_putZ 12 39, s_aload 0, s_aload 0, s_getI 12 35, s_callV 12 1 Pre_X12_gives Fn_X12_gives, s_iret]
def pc_X12_live : Nat → Nat := fun i => [0, 1, 2, 3, 6, 9, 12, 13, 14, 17, 18, 19, 22, 24, 25, 26, 29, 30, 32, 35, 36, 37, 38, 41, 42, 43, 44, 45, 48, 49, 52, 53, 54, 57, 58, 59, 60, 63, 66, 67, 68, 71, 72, 73, 76, 79].getD i 0
def dl_X12_live : List (Nat × Instr × Nat) := [(0, .iload_n 1, 1), (1, .i2l, 1), (2, .lconst 0, 1), (3, .ldc2_w 479, 3), (6, .invokestatic 373, 3), (9, .ifCond .ne 9, 3), (12, .aload_n 0, 1), (13, .iconst 1, 1), (14, .invokevirtual 87, 3), (17, .ireturn, 1), (18, .aload_n 0, 1), (19, .getfield 7, 3), (22, .bipush 10, 2), (24, .iaload, 1), (25, .iconst (-1), 1), (26, .if_icmp .ne 10, 3), (29, .aload_n 0, 1), (30, .bipush 6, 2), (32, .invokevirtual 87, 3), (35, .ireturn, 1), (36, .aload_n 0, 1), (37, .iload_n 1, 1), (38, .invokevirtual 481, 3), (41, .iconst 0, 1), (42, .istore_n 2, 1), (43, .iload_n 2, 1), (44, .iconst 5, 1), (45, .if_icmp .ge 21, 3), (48, .aload_n 0, 1), (49, .getfield 74, 3), (52, .iload_n 2, 1), (53, .aload_n 0, 1), (54, .getfield 71, 3), (57, .iload_n 2, 1), (58, .iaload, 1), (59, .iastore, 1), (60, .iinc 2 1, 3), (63, .goto (-20), 3), (66, .aload_n 0, 1), (67, .iconst 1, 1), (68, .putfield 484, 3), (71, .aload_n 0, 1), (72, .aload_n 0, 1), (73, .getfield 467, 3), (76, .invokevirtual 91, 3), (79, .ireturn, 1)]
theorem dc_X12_live : DEC prog_14_method_160_code pc_X12_live dl_X12_live := DEC_of (by decide +kernel)
abbrev rm_X12_live : Room := { frames := 8, cells := 0, slots := 0, locals := 176 }
set_option maxRecDepth 20000 in
theorem sa_X12_live (l : Launch) : SNDALL l prog_14_method_160_code "GivenUpModel" 3 (some .int) rm_X12_live P_X12_live pc_X12_live := fun p e s m args below meth c cells slots Q D dA ad A RR hC hR => by
  have hM := RTX_room (R := rm_X12_live) hR
  exact ⟨st_iload_n hC (n := 0) (k := 1) (dc_X12_live 0 (0, .iload_n 1, 1) rfl rfl) rfl rfl,
    st_i2l hC (n := 1) (dc_X12_live 1 (1, .i2l, 1) rfl rfl) rfl,
    st_lconst hC (n := 2) (x := 0) (dc_X12_live 2 (2, .lconst 0, 1) rfl rfl) rfl (by decide),
    st_ldc2 hC (n := 3) (x := 9999) (dc_X12_live 3 (3, .ldc2_w 479, 3) rfl rfl) rfl wd_2280,
    st_callS hC (n := 4) (na := 3) (con_X12_isFrom l) (dc_X12_live 4 (6, .invokestatic 373, 3) rfl rfl) rfl wd_2110 wd_160 (by decide) ⟨rfl, rfl, by decide, by decide⟩ hM wd_2108 wd_2109,
    st_ifne hC (n := 5) (dc_X12_live 5 (9, .ifCond .ne 9, 3) rfl rfl) rfl (by decide),
    st_aload_n hC (n := 6) (k := 0) (dc_X12_live 6 (12, .aload_n 0, 1) rfl rfl) rfl rfl,
    st_iconst hC (n := 7) (x := 1) (dc_X12_live 7 (13, .iconst 1, 1) rfl rfl) rfl (by decide),
    st_callV hC (n := 8) (k := 12) (na := 1) (con_X12_refuse l) (dc_X12_live 8 (14, .invokevirtual 87, 3) rfl rfl) rfl wd_1758 wd_160 (by decide) ⟨rfl, rfl, by decide, by decide⟩ hM wd_1755 wd_1757 wd_57 clf_12,
    st_iret hC (n := 9) hR (dc_X12_live 9 (17, .ireturn, 1) rfl rfl),
    st_aload_n hC (n := 10) (k := 0) (dc_X12_live 10 (18, .aload_n 0, 1) rfl rfl) rfl rfl,
    st_getR hC (n := 11) (k := 12) (j := 0) (dc_X12_live 11 (19, .getfield 7, 3) rfl rfl) rfl clf_12 (by decide) rfl (by decide) wd_1552,
    st_bipush hC (n := 12) (x := 10) (dc_X12_live 12 (22, .bipush 10, 2) rfl rfl) rfl (by decide),
    st_iald hC (n := 13) (dc_X12_live 13 (24, .iaload, 1) rfl rfl) rfl,
    st_iconst hC (n := 14) (x := (-1)) (dc_X12_live 14 (25, .iconst (-1), 1) rfl rfl) rfl (by decide),
    st_icne hC (n := 15) (dc_X12_live 15 (26, .if_icmp .ne 10, 3) rfl rfl) rfl (by decide),
    st_aload_n hC (n := 16) (k := 0) (dc_X12_live 16 (29, .aload_n 0, 1) rfl rfl) rfl rfl,
    st_bipush hC (n := 17) (x := 6) (dc_X12_live 17 (30, .bipush 6, 2) rfl rfl) rfl (by decide),
    st_callV hC (n := 18) (k := 12) (na := 1) (con_X12_refuse l) (dc_X12_live 18 (32, .invokevirtual 87, 3) rfl rfl) rfl wd_1758 wd_160 (by decide) ⟨rfl, rfl, by decide, by decide⟩ hM wd_1755 wd_1757 wd_57 clf_12,
    st_iret hC (n := 19) hR (dc_X12_live 19 (35, .ireturn, 1) rfl rfl),
    st_aload_n hC (n := 20) (k := 0) (dc_X12_live 20 (36, .aload_n 0, 1) rfl rfl) rfl rfl,
    st_iload_n hC (n := 21) (k := 1) (dc_X12_live 21 (37, .iload_n 1, 1) rfl rfl) rfl rfl,
    st_callV hC (n := 22) (k := 12) (na := 1) (con_X12_lives l) (dc_X12_live 22 (38, .invokevirtual 481, 3) rfl rfl) rfl wd_2284 wd_160 (by decide) ⟨rfl, rfl, by decide, by decide⟩ hM wd_2281 wd_2283 wd_134 clf_12,
    st_iconst hC (n := 23) (x := 0) (dc_X12_live 23 (41, .iconst 0, 1) rfl rfl) rfl (by decide),
    st_istore_n hC (n := 24) (k := 2) (dc_X12_live 24 (42, .istore_n 2, 1) rfl rfl) rfl rfl (by decide),
    st_iload_n hC (n := 25) (k := 2) (dc_X12_live 25 (43, .iload_n 2, 1) rfl rfl) rfl rfl,
    st_iconst hC (n := 26) (x := 5) (dc_X12_live 26 (44, .iconst 5, 1) rfl rfl) rfl (by decide),
    st_icge hC (n := 27) (dc_X12_live 27 (45, .if_icmp .ge 21, 3) rfl rfl) rfl (by decide),
    st_aload_n hC (n := 28) (k := 0) (dc_X12_live 28 (48, .aload_n 0, 1) rfl rfl) rfl rfl,
    st_getR hC (n := 29) (k := 12) (j := 38) (dc_X12_live 29 (49, .getfield 74, 3) rfl rfl) rfl clf_12 (by decide) rfl (by decide) wd_1590,
    st_iload_n hC (n := 30) (k := 2) (dc_X12_live 30 (52, .iload_n 2, 1) rfl rfl) rfl rfl,
    st_aload_n hC (n := 31) (k := 0) (dc_X12_live 31 (53, .aload_n 0, 1) rfl rfl) rfl rfl,
    st_getR hC (n := 32) (k := 12) (j := 37) (dc_X12_live 32 (54, .getfield 71, 3) rfl rfl) rfl clf_12 (by decide) rfl (by decide) wd_1589,
    st_iload_n hC (n := 33) (k := 2) (dc_X12_live 33 (57, .iload_n 2, 1) rfl rfl) rfl rfl,
    st_iald hC (n := 34) (dc_X12_live 34 (58, .iaload, 1) rfl rfl) rfl,
    st_iast hC (n := 35) (dc_X12_live 35 (59, .iastore, 1) rfl rfl) rfl,
    st_iinc hC (n := 36) (x := 1) (dc_X12_live 36 (60, .iinc 2 1, 3) rfl rfl) rfl (by decide) (by decide),
    st_goto hC (n := 37) (dc_X12_live 37 (63, .goto (-20), 3) rfl rfl) (by decide),
    st_aload_n hC (n := 38) (k := 0) (dc_X12_live 38 (66, .aload_n 0, 1) rfl rfl) rfl rfl,
    st_iconst hC (n := 39) (x := 1) (dc_X12_live 39 (67, .iconst 1, 1) rfl rfl) rfl (by decide),
    st_putZ hC (n := 40) (k := 12) (j := 39) (dc_X12_live 40 (68, .putfield 484, 3) rfl rfl) rfl clf_12 (by decide) rfl rfl rfl wd_1591,
    st_aload_n hC (n := 41) (k := 0) (dc_X12_live 41 (71, .aload_n 0, 1) rfl rfl) rfl rfl,
    st_aload_n hC (n := 42) (k := 0) (dc_X12_live 42 (72, .aload_n 0, 1) rfl rfl) rfl rfl,
    st_getI hC (n := 43) (k := 12) (j := 35) (dc_X12_live 43 (73, .getfield 467, 3) rfl rfl) rfl clf_12 (by decide) rfl wd_1587,
    st_callV hC (n := 44) (k := 12) (na := 1) (con_X12_gives l) (dc_X12_live 44 (76, .invokevirtual 91, 3) rfl rfl) rfl wd_1849 wd_160 (by decide) ⟨rfl, rfl, by decide, by decide⟩ hM wd_1846 wd_1848 wd_79 clf_12,
    st_iret hC (n := 45) hR (dc_X12_live 45 (79, .ireturn, 1) rfl rfl), trivial⟩
set_option maxRecDepth 8000 in
theorem vc_X12_live : VC P_X12_live 3 Pre_X12_live Fn_X12_live := by
  rintro mm as hom hoa ⟨⟨ns, nm, nt, hV, hO⟩, hl, x, rfl⟩
  refine ⟨Nat.le_of_ble_eq_true rfl, fun X h => ?_⟩
  have hF : Fn_X12_live mm [vR 12 0, vI x] = if i99 x 9999 then (if mm.1 54 0 10 = -1 then rfM mm 6 else liR mm x) else rfM mm 1 := rfl
  rw [hF] at h
  have go : i99 x 9999 → ¬ mm.1 54 0 10 = -1 → X 20 [some (vR 12 0), some (vI (x)), none] [] mm := by
    intro hx hn
    obtain ⟨d, hd, rfl⟩ := i99_in hx
    obtain ⟨L, hY⟩ := hO.resolve_left hn
    rw [if_pos hx, if_neg hn] at h
    unfold liR at h
    have s23 : X 23 [some (vR 12 0), some (vI (nI d)), none] [] (liM mm (nI d)) := by
      generalize liM mm (nI d) = M at h
      unfold liE at h
      have loop : ∀ i, i ≤ 5 → X 25 [some (vR 12 0), some (vI (nI d)), some (vI (nI i))] [] (mRow M 71 0 (cp5 (M.1 71 0) (M.1 70 0) i)) := by
        refine up_ind 5 ?_ (fun i hi ih => ?_)
        ·
          show X 25 [some (vR 12 0), some (vI (nI d)), some (vI (nI 5))] [] (mRow M 71 0 (cp5 (M.1 71 0) (M.1 70 0) 5))
          refine h (fun _ => false) 3000 25 _ _ _ ?_
          refine br_t (show 5 ≤ nI 5 from Int32.le_refl _) ?_
          refine And.intro (Or.inr rfl) ?_
          refine And.intro (show Pre_X12_gives (mI (mRow M 71 0 (cp5 (M.1 71 0) (M.1 70 0) 5)) 12 0 39 1) [vR 12 0, vI (M.1 12 0 35)] from ⟨_, rfl⟩) ?_
          show ((some (vI (M.1 12 0 35)) : Option MV), stM (mI (mRow M 71 0 (cp5 (M.1 71 0) (M.1 70 0) 5)) 12 0 39 1) 0) = _
          exact rfl
        · have ei : (nI i).toNatClampNeg = i := nI_clamp (by omega)
          show X 25 [some (vR 12 0), some (vI (nI d)), some (vI (nI i))] [] (mRow M 71 0 (cp5 (M.1 71 0) (M.1 70 0) i))
          refine h (fun i => Nat.beq i 25) 3000 25 _ _ _ ?_
          refine br_f (show ¬ (5 ≤ nI i) from show ¬ nI 5 ≤ nI i from nI_ge hi (by omega)) ?_
          refine And.intro (show inb (nI i) (alen 70) = true from (inb_o 5 rfl rfl rfl (by omega))) ?_
          refine And.intro (show inb (nI i) (alen 71) = true from (inb_o 5 rfl rfl rfl (by omega))) ?_
          show X 25 [some (vR 12 0), some (vI (nI d)), some (vI ((nI i) + 1))] [] (mRow (mRow M 71 0 (cp5 (M.1 71 0) (M.1 70 0) i)) 71 0 (upd (cp5 (M.1 71 0) (M.1 70 0) i) (nI i).toNatClampNeg (M.1 70 0 ((nI i).toNatClampNeg))))
          rw [ei, mRow2, cp5_s, nI_1]
          exact ih
      have l0 := loop 0 (by omega)
      rw [cp5_0, mRow_self] at l0
      show X 23 [some (vR 12 0), some (vI (nI d)), none] [] M
      refine h (fun i => Nat.beq i 25) 3000 23 _ _ _ ?_
      show X 25 [some (vR 12 0), some (vI (nI d)), some (vI 0)] [] M
      exact l0
    show X 20 [some (vR 12 0), some (vI (nI d)), none] [] mm
    refine h (fun i => Nat.beq i 23) 3000 20 _ _ _ ?_
    refine And.intro (show Pre_X12_lives mm [vR 12 0, vI (nI d)] from ⟨ns, nm, nt, L, d, hV, hY, hl, by omega, rfl⟩) ?_
    show X 23 [some (vR 12 0), some (vI (nI d)), none] [] (liM mm (nI d))
    exact s23
  show X 0 [some (vR 12 0), some (vI x), none] [] mm
  refine h (fun i => Nat.beq i 20) 3000 0 _ _ _ ?_
  refine And.intro (show Pre_X12_isFrom mm [vL x.toInt64, vL 0, vL 9999] from ⟨_, _, _, rfl⟩) ?_
  refine brn_c (fun b5 => ?_) (fun b5 => ?_)
  · -- 5: bI (¬ lg_cmp x.toInt64 0 < 0 ∧ ¬ 0 < lg_cmp x.toInt64 9999) = 0 taken
    replace b5 : ¬ lg_cmp x.toInt64 0 < 0 ∧ ¬ 0 < lg_cmp x.toInt64 9999 := bI_n0.mp b5
    refine And.intro (show inb 10 (alen 54) = true from rfl) ?_
    refine brn_c (fun b15 => ?_) (fun b15 => ?_)
    · -- 15: mm.1 54 0 10 = (-1) taken
      replace b15 : ¬ (mm.1 54 0 10 = (-1)) := b15
      show X 20 [some (vR 12 0), some (vI x), none] [] mm
      exact go b5 b15
    · -- 15: mm.1 54 0 10 = (-1) on
      replace b15 : mm.1 54 0 10 = (-1) := b15
      refine And.intro (show Pre_X12_refuse mm [vR 12 0, vI 6] from ⟨_, rfl⟩) ?_
      show ((some (vI (-1)) : Option MV), stM mm 6) = _
      rw [if_pos b5, if_pos b15]
      exact rfl
  · -- 5: bI (¬ lg_cmp x.toInt64 0 < 0 ∧ ¬ 0 < lg_cmp x.toInt64 9999) = 0 on
    replace b5 : ¬ (¬ lg_cmp x.toInt64 0 < 0 ∧ ¬ 0 < lg_cmp x.toInt64 9999) := bI_0.mp b5
    refine And.intro (show Pre_X12_refuse mm [vR 12 0, vI 1] from ⟨_, rfl⟩) ?_
    show ((some (vI (-1)) : Option MV), stM mm 1) = _
    rw [if_neg b5]
    exact rfl
theorem con_X12_live (l : Launch) : CON l y_X12_live prog_14_method_160_code 3 (some .int) rm_X12_live Pre_X12_live Fn_X12_live := CON_of (by decide) rfl rfl (sa_X12_live l) vc_X12_live
--tpl rfl
def Pre_X12_lived : PreT := fun _ as => ∃ x : Int32, as = [vR 12 0, vI x]
def Fn_X12_lived : FnT := fun m as => match as with
  | [_, Sum.inl x] => if ¬ x < 0 ∧ x ≤ 4 then (if m.1 12 0 39 = 0 then rfM m 6 else gvM m (m.1 71 0 x.toNatClampNeg)) else rfM m 1
  | _ => (none, m)
abbrev y_X12_lived : MethodName := ⟨"GivenUpModel", "lived", "(I)I"⟩
def P_X12_lived : List StpT := [s_iload 1, s_iflt 5, s_iload 1, s_ic (4), s_icle 9, s_aload 0, s_ic (1), s_callV 12 1 Pre_X12_refuse Fn_X12_refuse, s_goto 22, s_aload 0, s_getI 12 39, s_ifeq 19, s_aload 0, s_aload 0, s_getR 12 38 71, s_iload 1, s_iald, s_callV 12 1 Pre_X12_gives Fn_X12_gives, s_goto 22, s_aload 0, s_ic (6), s_callV 12 1 Pre_X12_refuse Fn_X12_refuse, s_iret]
def pc_X12_lived : Nat → Nat := fun i => [0, 1, 4, 5, 6, 9, 10, 11, 14, 17, 18, 21, 24, 25, 26, 29, 30, 31, 34, 37, 38, 40, 43].getD i 0
def dl_X12_lived : List (Nat × Instr × Nat) := [(0, .iload_n 1, 1), (1, .ifCond .lt 8, 3), (4, .iload_n 1, 1), (5, .iconst 4, 1), (6, .if_icmp .le 11, 3), (9, .aload_n 0, 1), (10, .iconst 1, 1), (11, .invokevirtual 87, 3), (14, .goto 29, 3), (17, .aload_n 0, 1), (18, .getfield 484, 3), (21, .ifCond .eq 16, 3), (24, .aload_n 0, 1), (25, .aload_n 0, 1), (26, .getfield 74, 3), (29, .iload_n 1, 1), (30, .iaload, 1), (31, .invokevirtual 91, 3), (34, .goto 9, 3), (37, .aload_n 0, 1), (38, .bipush 6, 2), (40, .invokevirtual 87, 3), (43, .ireturn, 1)]
theorem dc_X12_lived : DEC prog_14_method_161_code pc_X12_lived dl_X12_lived := DEC_of (by decide +kernel)
abbrev rm_X12_lived : Room := { frames := 1, cells := 0, slots := 0, locals := 21 }
set_option maxRecDepth 20000 in
theorem sa_X12_lived (l : Launch) : SNDALL l prog_14_method_161_code "GivenUpModel" 2 (some .int) rm_X12_lived P_X12_lived pc_X12_lived := fun p e s m args below meth c cells slots Q D dA ad A RR hC hR => by
  have hM := RTX_room (R := rm_X12_lived) hR
  exact ⟨st_iload_n hC (n := 0) (k := 1) (dc_X12_lived 0 (0, .iload_n 1, 1) rfl rfl) rfl rfl,
    st_iflt hC (n := 1) (dc_X12_lived 1 (1, .ifCond .lt 8, 3) rfl rfl) rfl (by decide),
    st_iload_n hC (n := 2) (k := 1) (dc_X12_lived 2 (4, .iload_n 1, 1) rfl rfl) rfl rfl,
    st_iconst hC (n := 3) (x := 4) (dc_X12_lived 3 (5, .iconst 4, 1) rfl rfl) rfl (by decide),
    st_icle hC (n := 4) (dc_X12_lived 4 (6, .if_icmp .le 11, 3) rfl rfl) rfl (by decide),
    st_aload_n hC (n := 5) (k := 0) (dc_X12_lived 5 (9, .aload_n 0, 1) rfl rfl) rfl rfl,
    st_iconst hC (n := 6) (x := 1) (dc_X12_lived 6 (10, .iconst 1, 1) rfl rfl) rfl (by decide),
    st_callV hC (n := 7) (k := 12) (na := 1) (con_X12_refuse l) (dc_X12_lived 7 (11, .invokevirtual 87, 3) rfl rfl) rfl wd_1758 wd_160 (by decide) ⟨rfl, rfl, by decide, by decide⟩ hM wd_1755 wd_1757 wd_57 clf_12,
    st_goto hC (n := 8) (dc_X12_lived 8 (14, .goto 29, 3) rfl rfl) (by decide),
    st_aload_n hC (n := 9) (k := 0) (dc_X12_lived 9 (17, .aload_n 0, 1) rfl rfl) rfl rfl,
    st_getI hC (n := 10) (k := 12) (j := 39) (dc_X12_lived 10 (18, .getfield 484, 3) rfl rfl) rfl clf_12 (by decide) rfl wd_1591,
    st_ifeq hC (n := 11) (dc_X12_lived 11 (21, .ifCond .eq 16, 3) rfl rfl) rfl (by decide),
    st_aload_n hC (n := 12) (k := 0) (dc_X12_lived 12 (24, .aload_n 0, 1) rfl rfl) rfl rfl,
    st_aload_n hC (n := 13) (k := 0) (dc_X12_lived 13 (25, .aload_n 0, 1) rfl rfl) rfl rfl,
    st_getR hC (n := 14) (k := 12) (j := 38) (dc_X12_lived 14 (26, .getfield 74, 3) rfl rfl) rfl clf_12 (by decide) rfl (by decide) wd_1590,
    st_iload_n hC (n := 15) (k := 1) (dc_X12_lived 15 (29, .iload_n 1, 1) rfl rfl) rfl rfl,
    st_iald hC (n := 16) (dc_X12_lived 16 (30, .iaload, 1) rfl rfl) rfl,
    st_callV hC (n := 17) (k := 12) (na := 1) (con_X12_gives l) (dc_X12_lived 17 (31, .invokevirtual 91, 3) rfl rfl) rfl wd_1849 wd_160 (by decide) ⟨rfl, rfl, by decide, by decide⟩ hM wd_1846 wd_1848 wd_79 clf_12,
    st_goto hC (n := 18) (dc_X12_lived 18 (34, .goto 9, 3) rfl rfl) (by decide),
    st_aload_n hC (n := 19) (k := 0) (dc_X12_lived 19 (37, .aload_n 0, 1) rfl rfl) rfl rfl,
    st_bipush hC (n := 20) (x := 6) (dc_X12_lived 20 (38, .bipush 6, 2) rfl rfl) rfl (by decide),
    st_callV hC (n := 21) (k := 12) (na := 1) (con_X12_refuse l) (dc_X12_lived 21 (40, .invokevirtual 87, 3) rfl rfl) rfl wd_1758 wd_160 (by decide) ⟨rfl, rfl, by decide, by decide⟩ hM wd_1755 wd_1757 wd_57 clf_12,
    st_iret hC (n := 22) hR (dc_X12_lived 22 (43, .ireturn, 1) rfl rfl), trivial⟩
set_option maxRecDepth 8000 in
theorem vc_X12_lived : VC P_X12_lived 2 Pre_X12_lived Fn_X12_lived := by
  rintro mm as hom hoa ⟨x, rfl⟩
  refine ⟨Nat.le_of_ble_eq_true rfl, fun X h => ?_⟩
  have hF : Fn_X12_lived mm [vR 12 0, vI x] = if ¬ x < 0 ∧ x ≤ 4 then (if mm.1 12 0 39 = 0 then rfM mm 6 else gvM mm (mm.1 71 0 x.toNatClampNeg)) else rfM mm 1 := rfl
  rw [hF] at h
  have no : ¬ (¬ x < 0 ∧ x ≤ 4) → X 5 [some (vR 12 0), some (vI (x))] [] mm := by
    intro hc
    rw [if_neg hc] at h
    show X 5 [some (vR 12 0), some (vI x)] [] mm
    refine h (fun _ => false) 3000 5 _ _ _ ?_
    refine And.intro (show Pre_X12_refuse mm [vR 12 0, vI 1] from ⟨_, rfl⟩) ?_
    show ((some (vI (-1)) : Option MV), stM mm 1) = _
    exact rfl
  have yes : (¬ x < 0 ∧ x ≤ 4) → X 9 [some (vR 12 0), some (vI (x))] [] mm := by
    intro hc
    rw [if_pos hc] at h
    obtain ⟨k, hk, rfl⟩ := nI_of2 (n := 4) (by decide) hc.1 hc.2
    show X 9 [some (vR 12 0), some (vI (nI k))] [] mm
    refine h (fun _ => false) 3000 9 _ _ _ ?_
    refine br_c (fun b11 => ?_) (fun b11 => ?_)
    · -- 11: mm.1 12 0 39 = 0 taken
      replace b11 : mm.1 12 0 39 = 0 := b11
      refine And.intro (show Pre_X12_refuse mm [vR 12 0, vI 6] from ⟨_, rfl⟩) ?_
      show ((some (vI (-1)) : Option MV), stM mm 6) = _
      rw [if_pos b11]
      exact rfl
    · -- 11: mm.1 12 0 39 = 0 on
      replace b11 : ¬ (mm.1 12 0 39 = 0) := b11
      refine And.intro (show inb (nI k) (alen 71) = true from (inb_o 5 rfl rfl rfl (by omega))) ?_
      refine And.intro (show Pre_X12_gives mm [vR 12 0, vI (mm.1 71 0 ((nI k).toNatClampNeg))] from ⟨_, rfl⟩) ?_
      show ((some (vI (mm.1 71 0 ((nI k).toNatClampNeg))) : Option MV), stM mm 0) = _
      rw [if_neg b11]
      exact rfl
  show X 0 [some (vR 12 0), some (vI x)] [] mm
  refine h (fun i => Nat.beq i 5 || Nat.beq i 9) 3000 0 _ _ _ ?_
  refine br_c (fun b1 => ?_) (fun b1 => ?_)
  · -- 1: x < 0 taken
    replace b1 : x < 0 := b1
    show X 5 [some (vR 12 0), some (vI x)] [] mm
    exact no (fun z => z.1 b1)
  · -- 1: x < 0 on
    replace b1 : ¬ (x < 0) := b1
    refine br_c (fun b4 => ?_) (fun b4 => ?_)
    · -- 4: x ≤ 4 taken
      replace b4 : x ≤ 4 := b4
      show X 9 [some (vR 12 0), some (vI x)] [] mm
      exact yes ⟨b1, b4⟩
    · -- 4: x ≤ 4 on
      replace b4 : ¬ (x ≤ 4) := b4
      show X 5 [some (vR 12 0), some (vI x)] [] mm
      exact no (fun z => b4 z.2)
theorem con_X12_lived (l : Launch) : CON l y_X12_lived prog_14_method_161_code 2 (some .int) rm_X12_lived Pre_X12_lived Fn_X12_lived := CON_of (by decide) rfl rfl (sa_X12_lived l) vc_X12_lived
def cpS (m : MM) (f t : Nat) : MM := mRowL (mRow m 54 0 (fun j => if 510 * t ≤ j ∧ j < 510 * t + 510 then m.1 54 0 (510 * f + (j - 510 * t)) else m.1 54 0 j)) 55 0 (fun j => if 20 * t ≤ j ∧ j < 20 * t + 20 then m.2.1 55 0 (20 * f + (j - 20 * t)) else m.2.1 55 0 j)
def c54 (o : Nat → Int32) (f t i : Nat) : Nat → Int32 := fun j => if 510 * t ≤ j ∧ j < 510 * t + i then o (510 * f + (j - 510 * t)) else o j
theorem c54_s (o : Nat → Int32) (f t i : Nat) : upd (c54 o f t i) (510 * t + i) (o (510 * f + i)) = c54 o f t (i + 1) := by
  funext j
  unfold upd c54
  by_cases h : j = 510 * t + i
  · subst h
    rw [if_pos rfl, if_pos (by omega)]
    congr 1
    omega
  · rw [if_neg h]
    by_cases h2 : 510 * t ≤ j ∧ j < 510 * t + i
    · rw [if_pos h2, if_pos (by omega)]
    · rw [if_neg h2, if_neg (by omega)]
theorem c54_r (o : Nat → Int32) (f t i j : Nat) (hft : f ≠ t) (hi : i ≤ 510) (hj : j < 510) : c54 o f t i (510 * f + j) = o (510 * f + j) := if_neg (fun z => by
  rcases Nat.lt_or_gt_of_ne hft with q | q <;> omega)
theorem c54_0 (o : Nat → Int32) (f t : Nat) : c54 o f t 0 = o := by
  funext j
  exact if_neg (by omega)
def c55 (o : Nat → Int64) (f t i : Nat) : Nat → Int64 := fun j => if 20 * t ≤ j ∧ j < 20 * t + i then o (20 * f + (j - 20 * t)) else o j
theorem c55_s (o : Nat → Int64) (f t i : Nat) : vp_updL (c55 o f t i) (20 * t + i) (o (20 * f + i)) = c55 o f t (i + 1) := by
  funext j
  unfold vp_updL c55
  by_cases h : j = 20 * t + i
  · subst h
    rw [if_pos rfl, if_pos (by omega)]
    congr 1
    omega
  · rw [if_neg h]
    by_cases h2 : 20 * t ≤ j ∧ j < 20 * t + i
    · rw [if_pos h2, if_pos (by omega)]
    · rw [if_neg h2, if_neg (by omega)]
theorem c55_r (o : Nat → Int64) (f t i j : Nat) (hft : f ≠ t) (hi : i ≤ 20) (hj : j < 20) : c55 o f t i (20 * f + j) = o (20 * f + j) := if_neg (fun z => by
  rcases Nat.lt_or_gt_of_ne hft with q | q <;> omega)
theorem c55_0 (o : Nat → Int64) (f t : Nat) : c55 o f t 0 = o := by
  funext j
  exact if_neg (by omega)

--tpl ⟨{1N}, {2N}, by omega, by omega, by omega, rfl⟩ ||  || cpS {m} {1n} {2n}
def Pre_X12_copies : PreT := fun _ as => ∃ f t : Nat, f ≤ 3 ∧ t ≤ 3 ∧ f ≠ t ∧ as = [vR 12 0, vI (nI f), vI (nI t)]
def Fn_X12_copies : FnT := fun m as => match as with
  | [_, Sum.inl f, Sum.inl t] => (none, cpS m f.toNatClampNeg t.toNatClampNeg)
  | _ => (none, m)
abbrev y_X12_copies : MethodName := ⟨"GivenUpModel", "copies", "(II)V"⟩
def P_X12_copies : List StpT := [s_ic (0), s_istore 3, s_iload 3, s_ic (510), s_icge 23, s_aload 0, s_getR 12 0 54, s_ic (510), s_iload 2, s_imul, s_iload 3, s_iadd, s_aload 0, s_getR 12 0 54, s_ic (510), s_iload 1, s_imul, s_iload 3, s_iadd, s_iald, s_iast, s_iinc 3 (1), s_goto 2, s_ic (0), s_istore 3, s_iload 3, s_ic (20), s_icge 46, s_aload 0, s_getR 12 1 55, s_ic (20), s_iload 2, s_imul, s_iload 3, s_iadd, s_aload 0, s_getR 12 1 55, s_ic (20), s_iload 1, s_imul, s_iload 3, s_iadd, s_lald, s_last, s_iinc 3 (1), s_goto 25, s_vret]
def pc_X12_copies : Nat → Nat := fun i => [0, 1, 2, 3, 6, 9, 10, 13, 16, 17, 18, 19, 20, 21, 24, 27, 28, 29, 30, 31, 32, 33, 36, 39, 40, 41, 42, 44, 47, 48, 51, 53, 54, 55, 56, 57, 58, 61, 63, 64, 65, 66, 67, 68, 69, 72, 75].getD i 0
def dl_X12_copies : List (Nat × Instr × Nat) := [(0, .iconst 0, 1), (1, .istore_n 3, 1), (2, .iload_n 3, 1), (3, .sipush 510, 3), (6, .if_icmp .ge 33, 3), (9, .aload_n 0, 1), (10, .getfield 7, 3), (13, .sipush 510, 3), (16, .iload_n 2, 1), (17, .imul, 1), (18, .iload_n 3, 1), (19, .iadd, 1), (20, .aload_n 0, 1), (21, .getfield 7, 3), (24, .sipush 510, 3), (27, .iload_n 1, 1), (28, .imul, 1), (29, .iload_n 3, 1), (30, .iadd, 1), (31, .iaload, 1), (32, .iastore, 1), (33, .iinc 3 1, 3), (36, .goto (-34), 3), (39, .iconst 0, 1), (40, .istore_n 3, 1), (41, .iload_n 3, 1), (42, .bipush 20, 2), (44, .if_icmp .ge 31, 3), (47, .aload_n 0, 1), (48, .getfield 13, 3), (51, .bipush 20, 2), (53, .iload_n 2, 1), (54, .imul, 1), (55, .iload_n 3, 1), (56, .iadd, 1), (57, .aload_n 0, 1), (58, .getfield 13, 3), (61, .bipush 20, 2), (63, .iload_n 1, 1), (64, .imul, 1), (65, .iload_n 3, 1), (66, .iadd, 1), (67, .laload, 1), (68, .lastore, 1), (69, .iinc 3 1, 3), (72, .goto (-31), 3), (75, .return_, 1)]
theorem dc_X12_copies : DEC prog_14_method_163_code pc_X12_copies dl_X12_copies := DEC_of (by decide +kernel)
abbrev rm_X12_copies : Room := { frames := 0, cells := 0, slots := 0, locals := 0 }
set_option maxRecDepth 20000 in
theorem sa_X12_copies (l : Launch) : SNDALL l prog_14_method_163_code "GivenUpModel" 4 none rm_X12_copies P_X12_copies pc_X12_copies := fun p e s m args below meth c cells slots Q D dA ad A RR hC hR => by
  have hM := RTX_room (R := rm_X12_copies) hR
  exact ⟨st_iconst hC (n := 0) (x := 0) (dc_X12_copies 0 (0, .iconst 0, 1) rfl rfl) rfl (by decide),
    st_istore_n hC (n := 1) (k := 3) (dc_X12_copies 1 (1, .istore_n 3, 1) rfl rfl) rfl rfl (by decide),
    st_iload_n hC (n := 2) (k := 3) (dc_X12_copies 2 (2, .iload_n 3, 1) rfl rfl) rfl rfl,
    st_sipush hC (n := 3) (x := 510) (dc_X12_copies 3 (3, .sipush 510, 3) rfl rfl) rfl (by decide),
    st_icge hC (n := 4) (dc_X12_copies 4 (6, .if_icmp .ge 33, 3) rfl rfl) rfl (by decide),
    st_aload_n hC (n := 5) (k := 0) (dc_X12_copies 5 (9, .aload_n 0, 1) rfl rfl) rfl rfl,
    st_getR hC (n := 6) (k := 12) (j := 0) (dc_X12_copies 6 (10, .getfield 7, 3) rfl rfl) rfl clf_12 (by decide) rfl (by decide) wd_1552,
    st_sipush hC (n := 7) (x := 510) (dc_X12_copies 7 (13, .sipush 510, 3) rfl rfl) rfl (by decide),
    st_iload_n hC (n := 8) (k := 2) (dc_X12_copies 8 (16, .iload_n 2, 1) rfl rfl) rfl rfl,
    st_imul hC (n := 9) (dc_X12_copies 9 (17, .imul, 1) rfl rfl) rfl,
    st_iload_n hC (n := 10) (k := 3) (dc_X12_copies 10 (18, .iload_n 3, 1) rfl rfl) rfl rfl,
    st_iadd hC (n := 11) (dc_X12_copies 11 (19, .iadd, 1) rfl rfl) rfl,
    st_aload_n hC (n := 12) (k := 0) (dc_X12_copies 12 (20, .aload_n 0, 1) rfl rfl) rfl rfl,
    st_getR hC (n := 13) (k := 12) (j := 0) (dc_X12_copies 13 (21, .getfield 7, 3) rfl rfl) rfl clf_12 (by decide) rfl (by decide) wd_1552,
    st_sipush hC (n := 14) (x := 510) (dc_X12_copies 14 (24, .sipush 510, 3) rfl rfl) rfl (by decide),
    st_iload_n hC (n := 15) (k := 1) (dc_X12_copies 15 (27, .iload_n 1, 1) rfl rfl) rfl rfl,
    st_imul hC (n := 16) (dc_X12_copies 16 (28, .imul, 1) rfl rfl) rfl,
    st_iload_n hC (n := 17) (k := 3) (dc_X12_copies 17 (29, .iload_n 3, 1) rfl rfl) rfl rfl,
    st_iadd hC (n := 18) (dc_X12_copies 18 (30, .iadd, 1) rfl rfl) rfl,
    st_iald hC (n := 19) (dc_X12_copies 19 (31, .iaload, 1) rfl rfl) rfl,
    st_iast hC (n := 20) (dc_X12_copies 20 (32, .iastore, 1) rfl rfl) rfl,
    st_iinc hC (n := 21) (x := 1) (dc_X12_copies 21 (33, .iinc 3 1, 3) rfl rfl) rfl (by decide) (by decide),
    st_goto hC (n := 22) (dc_X12_copies 22 (36, .goto (-34), 3) rfl rfl) (by decide),
    st_iconst hC (n := 23) (x := 0) (dc_X12_copies 23 (39, .iconst 0, 1) rfl rfl) rfl (by decide),
    st_istore_n hC (n := 24) (k := 3) (dc_X12_copies 24 (40, .istore_n 3, 1) rfl rfl) rfl rfl (by decide),
    st_iload_n hC (n := 25) (k := 3) (dc_X12_copies 25 (41, .iload_n 3, 1) rfl rfl) rfl rfl,
    st_bipush hC (n := 26) (x := 20) (dc_X12_copies 26 (42, .bipush 20, 2) rfl rfl) rfl (by decide),
    st_icge hC (n := 27) (dc_X12_copies 27 (44, .if_icmp .ge 31, 3) rfl rfl) rfl (by decide),
    st_aload_n hC (n := 28) (k := 0) (dc_X12_copies 28 (47, .aload_n 0, 1) rfl rfl) rfl rfl,
    st_getR hC (n := 29) (k := 12) (j := 1) (dc_X12_copies 29 (48, .getfield 13, 3) rfl rfl) rfl clf_12 (by decide) rfl (by decide) wd_1553,
    st_bipush hC (n := 30) (x := 20) (dc_X12_copies 30 (51, .bipush 20, 2) rfl rfl) rfl (by decide),
    st_iload_n hC (n := 31) (k := 2) (dc_X12_copies 31 (53, .iload_n 2, 1) rfl rfl) rfl rfl,
    st_imul hC (n := 32) (dc_X12_copies 32 (54, .imul, 1) rfl rfl) rfl,
    st_iload_n hC (n := 33) (k := 3) (dc_X12_copies 33 (55, .iload_n 3, 1) rfl rfl) rfl rfl,
    st_iadd hC (n := 34) (dc_X12_copies 34 (56, .iadd, 1) rfl rfl) rfl,
    st_aload_n hC (n := 35) (k := 0) (dc_X12_copies 35 (57, .aload_n 0, 1) rfl rfl) rfl rfl,
    st_getR hC (n := 36) (k := 12) (j := 1) (dc_X12_copies 36 (58, .getfield 13, 3) rfl rfl) rfl clf_12 (by decide) rfl (by decide) wd_1553,
    st_bipush hC (n := 37) (x := 20) (dc_X12_copies 37 (61, .bipush 20, 2) rfl rfl) rfl (by decide),
    st_iload_n hC (n := 38) (k := 1) (dc_X12_copies 38 (63, .iload_n 1, 1) rfl rfl) rfl rfl,
    st_imul hC (n := 39) (dc_X12_copies 39 (64, .imul, 1) rfl rfl) rfl,
    st_iload_n hC (n := 40) (k := 3) (dc_X12_copies 40 (65, .iload_n 3, 1) rfl rfl) rfl rfl,
    st_iadd hC (n := 41) (dc_X12_copies 41 (66, .iadd, 1) rfl rfl) rfl,
    st_lald hC (n := 42) (dc_X12_copies 42 (67, .laload, 1) rfl rfl) rfl,
    st_last hC (n := 43) (dc_X12_copies 43 (68, .lastore, 1) rfl rfl) rfl,
    st_iinc hC (n := 44) (x := 1) (dc_X12_copies 44 (69, .iinc 3 1, 3) rfl rfl) rfl (by decide) (by decide),
    st_goto hC (n := 45) (dc_X12_copies 45 (72, .goto (-31), 3) rfl rfl) (by decide),
    st_vret hC (n := 46) hR (dc_X12_copies 46 (75, .return_, 1) rfl rfl), trivial⟩
set_option maxRecDepth 8000 in
theorem vc_X12_copies : VC P_X12_copies 4 Pre_X12_copies Fn_X12_copies := by
  rintro mm as hom hoa ⟨f, t, hf, ht, hft, rfl⟩
  refine ⟨Nat.le_of_ble_eq_true rfl, fun X h => ?_⟩
  have hF : Fn_X12_copies mm [vR 12 0, vI (nI f), vI (nI t)] = (none, mRowL (mRow mm 54 0 (c54 (mm.1 54 0) f t 510)) 55 0 (c55 (mm.2.1 55 0) f t 20)) := by
    show (none, cpS mm (nI f).toNatClampNeg (nI t).toNatClampNeg) = _
    rw [nI_clamp (by omega), nI_clamp (by omega)]
    rfl
  rw [hF] at h
  obtain ⟨N, hN⟩ : ∃ N, N = mRow mm 54 0 (c54 (mm.1 54 0) f t 510) := ⟨_, rfl⟩
  have e55 : N.2.1 55 0 = mm.2.1 55 0 := by rw [hN]; rfl
  rw [← hN, ← e55] at h
  have loopB : ∀ i, i ≤ 20 → X 25 [some (vR 12 0), some (vI (nI f)), some (vI (nI t)), some (vI (nI i))] [] (mRowL N 55 0 (c55 (N.2.1 55 0) f t i)) := by
    refine up_ind 20 ?_ (fun i hi ih => ?_)
    ·
      show X 25 [some (vR 12 0), some (vI (nI f)), some (vI (nI t)), some (vI (nI 20))] [] (mRowL N 55 0 (c55 (N.2.1 55 0) f t 20))
      refine h (fun _ => false) 3000 25 _ _ _ ?_
      refine br_t (show 20 ≤ nI 20 from Int32.le_refl _) ?_
      show ((none : Option MV), mRowL N 55 0 (c55 (N.2.1 55 0) f t 20)) = _
      exact rfl
    · have e1 : (20 * nI t + nI i).toNatClampNeg = 20 * t + i := by simp (disch := omega) only [li, pk_mul, nI_add, nI_clamp]
      have e2 : (20 * nI f + nI i).toNatClampNeg = 20 * f + i := by simp (disch := omega) only [li, pk_mul, nI_add, nI_clamp]
      show X 25 [some (vR 12 0), some (vI (nI f)), some (vI (nI t)), some (vI (nI i))] [] (mRowL N 55 0 (c55 (N.2.1 55 0) f t i))
      refine h (fun i => Nat.beq i 25) 3000 25 _ _ _ ?_
      refine br_f (show ¬ (20 ≤ nI i) from show ¬ nI 20 ≤ nI i from nI_ge hi (by omega)) ?_
      refine And.intro (show inb ((20 * (nI f)) + (nI i)) (alen 55) = true from (inb_o 120 rfl rfl (show (20 * (nI f)) + (nI i) = nI ((20 * ( f)) + ( i)) by simp (disch := omega) only [li, pk_mul, nI_add, nI_clamp]) (by omega))) ?_
      refine And.intro (show inb ((20 * (nI t)) + (nI i)) (alen 55) = true from (inb_o 120 rfl rfl (show (20 * (nI t)) + (nI i) = nI ((20 * ( t)) + ( i)) by simp (disch := omega) only [li, pk_mul, nI_add, nI_clamp]) (by omega))) ?_
      show X 25 [some (vR 12 0), some (vI (nI f)), some (vI (nI t)), some (vI ((nI i) + 1))] [] (mRowL (mRowL N 55 0 (c55 (N.2.1 55 0) f t i)) 55 0 (vp_updL (c55 (N.2.1 55 0) f t i) ((20 * (nI t)) + (nI i)).toNatClampNeg ((c55 (N.2.1 55 0) f t i) (((20 * (nI f)) + (nI i)).toNatClampNeg))))
      rw [e1, e2, c55_r _ _ _ _ _ hft (by omega) (by omega), mRowL2, c55_s, nI_1]
      exact ih
  have lB := loopB 0 (by omega)
  rw [c55_0, mRowL_self] at lB
  have loopA : ∀ i, i ≤ 510 → X 2 [some (vR 12 0), some (vI (nI f)), some (vI (nI t)), some (vI (nI i))] [] (mRow mm 54 0 (c54 (mm.1 54 0) f t i)) := by
    refine up_ind 510 ?_ (fun i hi ih => ?_)
    ·
      show X 2 [some (vR 12 0), some (vI (nI f)), some (vI (nI t)), some (vI (nI 510))] [] (mRow mm 54 0 (c54 (mm.1 54 0) f t 510))
      refine h (fun i => Nat.beq i 25) 3000 2 _ _ _ ?_
      refine br_t (show 510 ≤ nI 510 from Int32.le_refl _) ?_
      show X 25 [some (vR 12 0), some (vI (nI f)), some (vI (nI t)), some (vI 0)] [] (mRow mm 54 0 (c54 (mm.1 54 0) f t 510))
      rw [← hN]
      exact lB
    · have e1 : (510 * nI t + nI i).toNatClampNeg = 510 * t + i := by simp (disch := omega) only [li, pk_mul, nI_add, nI_clamp]
      have e2 : (510 * nI f + nI i).toNatClampNeg = 510 * f + i := by simp (disch := omega) only [li, pk_mul, nI_add, nI_clamp]
      show X 2 [some (vR 12 0), some (vI (nI f)), some (vI (nI t)), some (vI (nI i))] [] (mRow mm 54 0 (c54 (mm.1 54 0) f t i))
      refine h (fun i => Nat.beq i 2) 3000 2 _ _ _ ?_
      refine br_f (show ¬ (510 ≤ nI i) from show ¬ nI 510 ≤ nI i from nI_ge hi (by omega)) ?_
      refine And.intro (show inb ((510 * (nI f)) + (nI i)) (alen 54) = true from (inb_o 3060 rfl rfl (show (510 * (nI f)) + (nI i) = nI ((510 * ( f)) + ( i)) by simp (disch := omega) only [li, pk_mul, nI_add, nI_clamp]) (by omega))) ?_
      refine And.intro (show inb ((510 * (nI t)) + (nI i)) (alen 54) = true from (inb_o 3060 rfl rfl (show (510 * (nI t)) + (nI i) = nI ((510 * ( t)) + ( i)) by simp (disch := omega) only [li, pk_mul, nI_add, nI_clamp]) (by omega))) ?_
      show X 2 [some (vR 12 0), some (vI (nI f)), some (vI (nI t)), some (vI ((nI i) + 1))] [] (mRow (mRow mm 54 0 (c54 (mm.1 54 0) f t i)) 54 0 (upd (c54 (mm.1 54 0) f t i) ((510 * (nI t)) + (nI i)).toNatClampNeg ((c54 (mm.1 54 0) f t i) (((510 * (nI f)) + (nI i)).toNatClampNeg))))
      rw [e1, e2, c54_r _ _ _ _ _ hft (by omega) (by omega), mRow2, c54_s, nI_1]
      exact ih
  have lA := loopA 0 (by omega)
  rw [c54_0, mRow_self] at lA
  show X 0 [some (vR 12 0), some (vI (nI f)), some (vI (nI t)), none] [] mm
  refine h (fun i => Nat.beq i 2) 3000 0 _ _ _ ?_
  show X 2 [some (vR 12 0), some (vI (nI f)), some (vI (nI t)), some (vI 0)] [] mm
  exact lA
theorem con_X12_copies (l : Launch) : CON l y_X12_copies prog_14_method_163_code 4 none rm_X12_copies Pre_X12_copies Fn_X12_copies := CON_of (by decide) rfl rfl (sa_X12_copies l) vc_X12_copies
def MKo (m : MM) : Prop := ∃ q, q ≤ 3 ∧ m.1 12 0 40 = nI q
def mkR (m : MM) : Option MV × MM := gvM (cpS (mI m 12 0 40 (m.1 12 0 40 + 1)) 0 (m.1 12 0 40 + 1).toNatClampNeg) (m.1 12 0 40 + 1)
def unR (m : MM) : Option MV × MM := gvM (mI (cpS m (m.1 12 0 40).toNatClampNeg 0) 12 0 40 (m.1 12 0 40 - 1)) (m.1 12 0 40 - 1)

--tpl rfl
def Pre_X12_mark : PreT := fun m as => MKo m ∧ as = [vR 12 0]
def Fn_X12_mark : FnT := fun m _ => if m.1 12 0 40 = 3 then rfM m 4 else mkR m
abbrev y_X12_mark : MethodName := ⟨"GivenUpModel", "mark", "()I"⟩
def P_X12_mark : List StpT := [s_aload 0, s_getI 12 40, s_ic (3), s_icne 8, s_aload 0, s_ic (4), s_callV 12 1 Pre_X12_refuse Fn_X12_refuse, s_iret, s_aload 0, s_dup, s_getI 12 40, s_ic (1), s_iadd, s_putI 12 40, s_aload 0, s_ic (0), s_aload 0, s_getI 12 40, s_callV 12 2 Pre_X12_copies Fn_X12_copies, s_aload 0, s_aload 0, s_getI 12 40, s_callV 12 1 Pre_X12_gives Fn_X12_gives, s_iret]
def pc_X12_mark : Nat → Nat := fun i => [0, 1, 4, 5, 8, 9, 10, 13, 14, 15, 16, 19, 20, 21, 24, 25, 26, 27, 30, 33, 34, 35, 38, 41].getD i 0
def dl_X12_mark : List (Nat × Instr × Nat) := [(0, .aload_n 0, 1), (1, .getfield 490, 3), (4, .iconst 3, 1), (5, .if_icmp .ne 9, 3), (8, .aload_n 0, 1), (9, .iconst 4, 1), (10, .invokevirtual 87, 3), (13, .ireturn, 1), (14, .aload_n 0, 1), (15, .dup, 1), (16, .getfield 490, 3), (19, .iconst 1, 1), (20, .iadd, 1), (21, .putfield 490, 3), (24, .aload_n 0, 1), (25, .iconst 0, 1), (26, .aload_n 0, 1), (27, .getfield 490, 3), (30, .invokevirtual 493, 3), (33, .aload_n 0, 1), (34, .aload_n 0, 1), (35, .getfield 490, 3), (38, .invokevirtual 91, 3), (41, .ireturn, 1)]
theorem dc_X12_mark : DEC prog_14_method_164_code pc_X12_mark dl_X12_mark := DEC_of (by decide +kernel)
abbrev rm_X12_mark : Room := { frames := 1, cells := 0, slots := 0, locals := 23 }
set_option maxRecDepth 20000 in
theorem sa_X12_mark (l : Launch) : SNDALL l prog_14_method_164_code "GivenUpModel" 1 (some .int) rm_X12_mark P_X12_mark pc_X12_mark := fun p e s m args below meth c cells slots Q D dA ad A RR hC hR => by
  have hM := RTX_room (R := rm_X12_mark) hR
  exact ⟨st_aload_n hC (n := 0) (k := 0) (dc_X12_mark 0 (0, .aload_n 0, 1) rfl rfl) rfl rfl,
    st_getI hC (n := 1) (k := 12) (j := 40) (dc_X12_mark 1 (1, .getfield 490, 3) rfl rfl) rfl clf_12 (by decide) rfl wd_1592,
    st_iconst hC (n := 2) (x := 3) (dc_X12_mark 2 (4, .iconst 3, 1) rfl rfl) rfl (by decide),
    st_icne hC (n := 3) (dc_X12_mark 3 (5, .if_icmp .ne 9, 3) rfl rfl) rfl (by decide),
    st_aload_n hC (n := 4) (k := 0) (dc_X12_mark 4 (8, .aload_n 0, 1) rfl rfl) rfl rfl,
    st_iconst hC (n := 5) (x := 4) (dc_X12_mark 5 (9, .iconst 4, 1) rfl rfl) rfl (by decide),
    st_callV hC (n := 6) (k := 12) (na := 1) (con_X12_refuse l) (dc_X12_mark 6 (10, .invokevirtual 87, 3) rfl rfl) rfl wd_1758 wd_160 (by decide) ⟨rfl, rfl, by decide, by decide⟩ hM wd_1755 wd_1757 wd_57 clf_12,
    st_iret hC (n := 7) hR (dc_X12_mark 7 (13, .ireturn, 1) rfl rfl),
    st_aload_n hC (n := 8) (k := 0) (dc_X12_mark 8 (14, .aload_n 0, 1) rfl rfl) rfl rfl,
    st_dup hC (n := 9) (dc_X12_mark 9 (15, .dup, 1) rfl rfl) rfl,
    st_getI hC (n := 10) (k := 12) (j := 40) (dc_X12_mark 10 (16, .getfield 490, 3) rfl rfl) rfl clf_12 (by decide) rfl wd_1592,
    st_iconst hC (n := 11) (x := 1) (dc_X12_mark 11 (19, .iconst 1, 1) rfl rfl) rfl (by decide),
    st_iadd hC (n := 12) (dc_X12_mark 12 (20, .iadd, 1) rfl rfl) rfl,
    st_putI hC (n := 13) (k := 12) (j := 40) (dc_X12_mark 13 (21, .putfield 490, 3) rfl rfl) rfl clf_12 (by decide) rfl rfl rfl wd_1592,
    st_aload_n hC (n := 14) (k := 0) (dc_X12_mark 14 (24, .aload_n 0, 1) rfl rfl) rfl rfl,
    st_iconst hC (n := 15) (x := 0) (dc_X12_mark 15 (25, .iconst 0, 1) rfl rfl) rfl (by decide),
    st_aload_n hC (n := 16) (k := 0) (dc_X12_mark 16 (26, .aload_n 0, 1) rfl rfl) rfl rfl,
    st_getI hC (n := 17) (k := 12) (j := 40) (dc_X12_mark 17 (27, .getfield 490, 3) rfl rfl) rfl clf_12 (by decide) rfl wd_1592,
    st_callV hC (n := 18) (k := 12) (na := 2) (con_X12_copies l) (dc_X12_mark 18 (30, .invokevirtual 493, 3) rfl rfl) rfl wd_2326 wd_160 (by decide) ⟨rfl, rfl, by decide, by decide⟩ hM wd_2323 wd_2325 wd_141 clf_12,
    st_aload_n hC (n := 19) (k := 0) (dc_X12_mark 19 (33, .aload_n 0, 1) rfl rfl) rfl rfl,
    st_aload_n hC (n := 20) (k := 0) (dc_X12_mark 20 (34, .aload_n 0, 1) rfl rfl) rfl rfl,
    st_getI hC (n := 21) (k := 12) (j := 40) (dc_X12_mark 21 (35, .getfield 490, 3) rfl rfl) rfl clf_12 (by decide) rfl wd_1592,
    st_callV hC (n := 22) (k := 12) (na := 1) (con_X12_gives l) (dc_X12_mark 22 (38, .invokevirtual 91, 3) rfl rfl) rfl wd_1849 wd_160 (by decide) ⟨rfl, rfl, by decide, by decide⟩ hM wd_1846 wd_1848 wd_79 clf_12,
    st_iret hC (n := 23) hR (dc_X12_mark 23 (41, .ireturn, 1) rfl rfl), trivial⟩
set_option maxRecDepth 8000 in
theorem vc_X12_mark : VC P_X12_mark 1 Pre_X12_mark Fn_X12_mark := by
  rintro mm as hom hoa ⟨⟨q, hq, eq⟩, rfl⟩
  refine ⟨Nat.le_of_ble_eq_true rfl, fun X h => ?_⟩
  have hF : Fn_X12_mark mm [vR 12 0] = if mm.1 12 0 40 = 3 then rfM mm 4 else mkR mm := rfl
  rw [hF] at h
  have go : ¬ mm.1 12 0 40 = 3 → X 8 [some (vR 12 0)] [] mm := by
    intro hc
    rw [if_neg hc] at h
    have hq3 : q < 3 := by
      rcases Nat.eq_or_lt_of_le hq with z | z
      · exact absurd (by rw [eq, z]; rfl) hc
      · exact z
    unfold mkR at h
    rw [eq, nI_1, nI_clamp (show q + 1 < 2 ^ 31 by omega)] at h
    have e1 : (nI (q + 1)).toNatClampNeg = q + 1 := nI_clamp (by omega)
    show X 8 [some (vR 12 0)] [] mm
    refine h (fun _ => false) 3000 8 _ _ _ ?_
    refine And.intro (show Pre_X12_copies (mI mm 12 0 40 ((mm.1 12 0 40) + 1)) [vR 12 0, vI 0, vI ((mm.1 12 0 40) + 1)] from ⟨0, q + 1, by omega, by omega, by omega, by rw [eq, nI_1]; rfl⟩) ?_
    refine And.intro (show Pre_X12_gives (cpS (mI mm 12 0 40 ((mm.1 12 0 40) + 1)) 0 ((mm.1 12 0 40) + 1).toNatClampNeg) [vR 12 0, vI ((cpS (mI mm 12 0 40 ((mm.1 12 0 40) + 1)) 0 ((mm.1 12 0 40) + 1).toNatClampNeg).1 12 0 40)] from ⟨_, rfl⟩) ?_
    show ((some (vI ((cpS (mI mm 12 0 40 ((mm.1 12 0 40) + 1)) 0 ((mm.1 12 0 40) + 1).toNatClampNeg).1 12 0 40)) : Option MV), stM (cpS (mI mm 12 0 40 ((mm.1 12 0 40) + 1)) 0 ((mm.1 12 0 40) + 1).toNatClampNeg) 0) = _
    show gvM (cpS (mI mm 12 0 40 (mm.1 12 0 40 + 1)) 0 (mm.1 12 0 40 + 1).toNatClampNeg) ((cpS (mI mm 12 0 40 (mm.1 12 0 40 + 1)) 0 (mm.1 12 0 40 + 1).toNatClampNeg).1 12 0 40) = _
    rw [eq, nI_1, e1] 
    exact rfl
  show X 0 [some (vR 12 0)] [] mm
  refine h (fun i => Nat.beq i 8) 3000 0 _ _ _ ?_
  refine brn_c (fun b3 => ?_) (fun b3 => ?_)
  · -- 3: mm.1 12 0 40 = 3 taken
    replace b3 : ¬ (mm.1 12 0 40 = 3) := b3
    show X 8 [some (vR 12 0)] [] mm
    exact go b3
  · -- 3: mm.1 12 0 40 = 3 on
    replace b3 : mm.1 12 0 40 = 3 := b3
    refine And.intro (show Pre_X12_refuse mm [vR 12 0, vI 4] from ⟨_, rfl⟩) ?_
    show ((some (vI (-1)) : Option MV), stM mm 4) = _
    rw [if_pos b3]
    exact rfl
theorem con_X12_mark (l : Launch) : CON l y_X12_mark prog_14_method_164_code 1 (some .int) rm_X12_mark Pre_X12_mark Fn_X12_mark := CON_of (by decide) rfl rfl (sa_X12_mark l) vc_X12_mark
--tpl rfl
def Pre_X12_undo : PreT := fun m as => MKo m ∧ as = [vR 12 0]
def Fn_X12_undo : FnT := fun m _ => if m.1 12 0 40 = 0 then rfM m 6 else unR m
abbrev y_X12_undo : MethodName := ⟨"GivenUpModel", "undo", "()I"⟩
def P_X12_undo : List StpT := [s_aload 0, s_getI 12 40, s_ifne 7, s_aload 0, s_ic (6), s_callV 12 1 Pre_X12_refuse Fn_X12_refuse, s_iret, s_aload 0, s_aload 0, s_getI 12 40, s_ic (0), s_callV 12 2 Pre_X12_copies Fn_X12_copies, s_aload 0, s_dup, s_getI 12 40, s_ic (1), s_isub, s_putI 12 40, s_aload 0, s_aload 0, s_getI 12 40, s_callV 12 1 Pre_X12_gives Fn_X12_gives, s_iret]
def pc_X12_undo : Nat → Nat := fun i => [0, 1, 4, 7, 8, 10, 13, 14, 15, 16, 19, 20, 23, 24, 25, 28, 29, 30, 33, 34, 35, 38, 41].getD i 0
def dl_X12_undo : List (Nat × Instr × Nat) := [(0, .aload_n 0, 1), (1, .getfield 490, 3), (4, .ifCond .ne 10, 3), (7, .aload_n 0, 1), (8, .bipush 6, 2), (10, .invokevirtual 87, 3), (13, .ireturn, 1), (14, .aload_n 0, 1), (15, .aload_n 0, 1), (16, .getfield 490, 3), (19, .iconst 0, 1), (20, .invokevirtual 493, 3), (23, .aload_n 0, 1), (24, .dup, 1), (25, .getfield 490, 3), (28, .iconst 1, 1), (29, .isub, 1), (30, .putfield 490, 3), (33, .aload_n 0, 1), (34, .aload_n 0, 1), (35, .getfield 490, 3), (38, .invokevirtual 91, 3), (41, .ireturn, 1)]
theorem dc_X12_undo : DEC prog_14_method_165_code pc_X12_undo dl_X12_undo := DEC_of (by decide +kernel)
abbrev rm_X12_undo : Room := { frames := 1, cells := 0, slots := 0, locals := 23 }
set_option maxRecDepth 20000 in
theorem sa_X12_undo (l : Launch) : SNDALL l prog_14_method_165_code "GivenUpModel" 1 (some .int) rm_X12_undo P_X12_undo pc_X12_undo := fun p e s m args below meth c cells slots Q D dA ad A RR hC hR => by
  have hM := RTX_room (R := rm_X12_undo) hR
  exact ⟨st_aload_n hC (n := 0) (k := 0) (dc_X12_undo 0 (0, .aload_n 0, 1) rfl rfl) rfl rfl,
    st_getI hC (n := 1) (k := 12) (j := 40) (dc_X12_undo 1 (1, .getfield 490, 3) rfl rfl) rfl clf_12 (by decide) rfl wd_1592,
    st_ifne hC (n := 2) (dc_X12_undo 2 (4, .ifCond .ne 10, 3) rfl rfl) rfl (by decide),
    st_aload_n hC (n := 3) (k := 0) (dc_X12_undo 3 (7, .aload_n 0, 1) rfl rfl) rfl rfl,
    st_bipush hC (n := 4) (x := 6) (dc_X12_undo 4 (8, .bipush 6, 2) rfl rfl) rfl (by decide),
    st_callV hC (n := 5) (k := 12) (na := 1) (con_X12_refuse l) (dc_X12_undo 5 (10, .invokevirtual 87, 3) rfl rfl) rfl wd_1758 wd_160 (by decide) ⟨rfl, rfl, by decide, by decide⟩ hM wd_1755 wd_1757 wd_57 clf_12,
    st_iret hC (n := 6) hR (dc_X12_undo 6 (13, .ireturn, 1) rfl rfl),
    st_aload_n hC (n := 7) (k := 0) (dc_X12_undo 7 (14, .aload_n 0, 1) rfl rfl) rfl rfl,
    st_aload_n hC (n := 8) (k := 0) (dc_X12_undo 8 (15, .aload_n 0, 1) rfl rfl) rfl rfl,
    st_getI hC (n := 9) (k := 12) (j := 40) (dc_X12_undo 9 (16, .getfield 490, 3) rfl rfl) rfl clf_12 (by decide) rfl wd_1592,
    st_iconst hC (n := 10) (x := 0) (dc_X12_undo 10 (19, .iconst 0, 1) rfl rfl) rfl (by decide),
    st_callV hC (n := 11) (k := 12) (na := 2) (con_X12_copies l) (dc_X12_undo 11 (20, .invokevirtual 493, 3) rfl rfl) rfl wd_2326 wd_160 (by decide) ⟨rfl, rfl, by decide, by decide⟩ hM wd_2323 wd_2325 wd_141 clf_12,
    st_aload_n hC (n := 12) (k := 0) (dc_X12_undo 12 (23, .aload_n 0, 1) rfl rfl) rfl rfl,
    st_dup hC (n := 13) (dc_X12_undo 13 (24, .dup, 1) rfl rfl) rfl,
    st_getI hC (n := 14) (k := 12) (j := 40) (dc_X12_undo 14 (25, .getfield 490, 3) rfl rfl) rfl clf_12 (by decide) rfl wd_1592,
    st_iconst hC (n := 15) (x := 1) (dc_X12_undo 15 (28, .iconst 1, 1) rfl rfl) rfl (by decide),
    st_isub hC (n := 16) (dc_X12_undo 16 (29, .isub, 1) rfl rfl) rfl,
    st_putI hC (n := 17) (k := 12) (j := 40) (dc_X12_undo 17 (30, .putfield 490, 3) rfl rfl) rfl clf_12 (by decide) rfl rfl rfl wd_1592,
    st_aload_n hC (n := 18) (k := 0) (dc_X12_undo 18 (33, .aload_n 0, 1) rfl rfl) rfl rfl,
    st_aload_n hC (n := 19) (k := 0) (dc_X12_undo 19 (34, .aload_n 0, 1) rfl rfl) rfl rfl,
    st_getI hC (n := 20) (k := 12) (j := 40) (dc_X12_undo 20 (35, .getfield 490, 3) rfl rfl) rfl clf_12 (by decide) rfl wd_1592,
    st_callV hC (n := 21) (k := 12) (na := 1) (con_X12_gives l) (dc_X12_undo 21 (38, .invokevirtual 91, 3) rfl rfl) rfl wd_1849 wd_160 (by decide) ⟨rfl, rfl, by decide, by decide⟩ hM wd_1846 wd_1848 wd_79 clf_12,
    st_iret hC (n := 22) hR (dc_X12_undo 22 (41, .ireturn, 1) rfl rfl), trivial⟩
set_option maxRecDepth 8000 in
theorem vc_X12_undo : VC P_X12_undo 1 Pre_X12_undo Fn_X12_undo := by
  rintro mm as hom hoa ⟨⟨q, hq, eq⟩, rfl⟩
  refine ⟨Nat.le_of_ble_eq_true rfl, fun X h => ?_⟩
  have hF : Fn_X12_undo mm [vR 12 0] = if mm.1 12 0 40 = 0 then rfM mm 6 else unR mm := rfl
  rw [hF] at h
  have go : ¬ mm.1 12 0 40 = 0 → X 7 [some (vR 12 0)] [] mm := by
    intro hc
    rw [if_neg hc] at h
    have hq3 : 1 ≤ q := by
      rcases Nat.eq_zero_or_pos q with z | z
      · exact absurd (by rw [eq, z]; rfl) hc
      · exact z
    unfold unR at h
    rw [eq, nI_clamp (show q < 2 ^ 31 by omega)] at h
    have e1 : (nI q).toNatClampNeg = q := nI_clamp (by omega)
    show X 7 [some (vR 12 0)] [] mm
    refine h (fun _ => false) 3000 7 _ _ _ ?_
    refine And.intro (show Pre_X12_copies mm [vR 12 0, vI (mm.1 12 0 40), vI 0] from ⟨q, 0, by omega, by omega, by omega, by rw [eq]; rfl⟩) ?_
    refine And.intro (show Pre_X12_gives (mI (cpS mm (mm.1 12 0 40).toNatClampNeg 0) 12 0 40 (((cpS mm (mm.1 12 0 40).toNatClampNeg 0).1 12 0 40) - 1)) [vR 12 0, vI (((cpS mm (mm.1 12 0 40).toNatClampNeg 0).1 12 0 40) - 1)] from ⟨_, rfl⟩) ?_
    show ((some (vI (((cpS mm (mm.1 12 0 40).toNatClampNeg 0).1 12 0 40) - 1)) : Option MV), stM (mI (cpS mm (mm.1 12 0 40).toNatClampNeg 0) 12 0 40 (((cpS mm (mm.1 12 0 40).toNatClampNeg 0).1 12 0 40) - 1)) 0) = _
    show gvM (mI (cpS mm (mm.1 12 0 40).toNatClampNeg 0) 12 0 40 (mm.1 12 0 40 - 1)) (mm.1 12 0 40 - 1) = _
    rw [eq, e1] 
    all_goals exact rfl
  show X 0 [some (vR 12 0)] [] mm
  refine h (fun i => Nat.beq i 7) 3000 0 _ _ _ ?_
  refine brn_c (fun b2 => ?_) (fun b2 => ?_)
  · -- 2: mm.1 12 0 40 = 0 taken
    replace b2 : ¬ (mm.1 12 0 40 = 0) := b2
    show X 7 [some (vR 12 0)] [] mm
    exact go b2
  · -- 2: mm.1 12 0 40 = 0 on
    replace b2 : mm.1 12 0 40 = 0 := b2
    refine And.intro (show Pre_X12_refuse mm [vR 12 0, vI 6] from ⟨_, rfl⟩) ?_
    show ((some (vI (-1)) : Option MV), stM mm 6) = _
    rw [if_pos b2]
    exact rfl
theorem con_X12_undo (l : Launch) : CON l y_X12_undo prog_14_method_165_code 1 (some .int) rm_X12_undo Pre_X12_undo Fn_X12_undo := CON_of (by decide) rfl rfl (sa_X12_undo l) vc_X12_undo
