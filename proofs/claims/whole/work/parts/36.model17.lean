/-! PART 36: the model: answers when all have asked; orders, ways -/

theorem mRowL2 (m : MM) (k g : Nat) (f f' : Nat → Int64) : mRowL (mRowL m k g f) k g f' = mRowL m k g f' := by
  refine Prod.ext rfl (Prod.ext ?_ rfl)
  funext q r
  show (if q = k ∧ r = g then f' else if q = k ∧ r = g then f else m.2.1 q r) = (if q = k ∧ r = g then f' else m.2.1 q r)
  by_cases h : q = k ∧ r = g
  · rw [if_pos h, if_pos h]
  · rw [if_neg h, if_neg h, if_neg h]
theorem mRowL_self (m : MM) (k g : Nat) : mRowL m k g (m.2.1 k g) = m := by
  refine Prod.ext rfl (Prod.ext ?_ rfl)
  funext q r
  show (if q = k ∧ r = g then m.2.1 k g else m.2.1 q r) = m.2.1 q r
  split
  · rename_i h; rw [h.1, h.2]
  · rfl

def Pre_X12_asked : PreT := fun m as => VM m ∧ ∃ x : Int32, as = [vR 12 0, vI x]
def Fn_X12_asked : FnT := fun m as => match as with
  | [_, Sum.inl x] => if suP (m.1 54 0) x then onM (asM m (asF m)) (kfF (asF m).1 (m.1 54 0 1).toNatClampNeg x) else rfM m 1
  | _ => (none, m)
abbrev y_X12_asked : MethodName := ⟨"GivenUpModel", "asked", "(I)I"⟩
def P_X12_asked : List StpT := [s_aload 0, s_iload 1, s_callV 12 1 Pre_X12_isSuitor Fn_X12_isSuitor, s_ifne 8, s_aload 0, s_ic (1), s_callV 12 1 Pre_X12_refuse Fn_X12_refuse, s_iret, s_aload 0, s_callV 12 0 Pre_X12_allAsk Fn_X12_allAsk, s_aload 0, s_aload 0, s_iload 1, s_callV 12 1 Pre_X12_keeperOf Fn_X12_keeperOf, s_callV 12 1 Pre_X12_orNone Fn_X12_orNone, s_iret]
def pc_X12_asked : Nat → Nat := fun i => [0, 1, 2, 5, 8, 9, 10, 13, 14, 15, 18, 19, 20, 21, 24, 27].getD i 0
def dl_X12_asked : List (Nat × Instr × Nat) := [(0, .aload_n 0, 1), (1, .iload_n 1, 1), (2, .invokevirtual 265, 3), (5, .ifCond .ne 9, 3), (8, .aload_n 0, 1), (9, .iconst 1, 1), (10, .invokevirtual 87, 3), (13, .ireturn, 1), (14, .aload_n 0, 1), (15, .invokevirtual 431, 3), (18, .aload_n 0, 1), (19, .aload_n 0, 1), (20, .iload_n 1, 1), (21, .invokevirtual 434, 3), (24, .invokevirtual 310, 3), (27, .ireturn, 1)]
theorem dc_X12_asked : DEC prog_14_method_138_code pc_X12_asked dl_X12_asked := DEC_of (by decide +kernel)
abbrev rm_X12_asked : Room := { frames := 6, cells := 0, slots := 0, locals := 135 }
set_option maxRecDepth 20000 in
theorem sa_X12_asked (l : Launch) : SNDALL l prog_14_method_138_code "GivenUpModel" 2 (some .int) rm_X12_asked P_X12_asked pc_X12_asked := fun p e s m args below meth c cells slots Q D dA ad A RR hC hR => by
  have hM := RTX_room (R := rm_X12_asked) hR
  exact ⟨st_aload_n hC (n := 0) (k := 0) (dc_X12_asked 0 (0, .aload_n 0, 1) rfl rfl) rfl rfl,
    st_iload_n hC (n := 1) (k := 1) (dc_X12_asked 1 (1, .iload_n 1, 1) rfl rfl) rfl rfl,
    st_callV hC (n := 2) (k := 12) (na := 1) (con_X12_isSuitor l) (dc_X12_asked 2 (2, .invokevirtual 265, 3) rfl rfl) rfl wd_1885 wd_160 (by decide) ⟨rfl, rfl, by decide, by decide⟩ hM wd_1882 wd_1884 wd_85 clf_12,
    st_ifne hC (n := 3) (dc_X12_asked 3 (5, .ifCond .ne 9, 3) rfl rfl) rfl (by decide),
    st_aload_n hC (n := 4) (k := 0) (dc_X12_asked 4 (8, .aload_n 0, 1) rfl rfl) rfl rfl,
    st_iconst hC (n := 5) (x := 1) (dc_X12_asked 5 (9, .iconst 1, 1) rfl rfl) rfl (by decide),
    st_callV hC (n := 6) (k := 12) (na := 1) (con_X12_refuse l) (dc_X12_asked 6 (10, .invokevirtual 87, 3) rfl rfl) rfl wd_1758 wd_160 (by decide) ⟨rfl, rfl, by decide, by decide⟩ hM wd_1755 wd_1757 wd_57 clf_12,
    st_iret hC (n := 7) hR (dc_X12_asked 7 (13, .ireturn, 1) rfl rfl),
    st_aload_n hC (n := 8) (k := 0) (dc_X12_asked 8 (14, .aload_n 0, 1) rfl rfl) rfl rfl,
    st_callV hC (n := 9) (k := 12) (na := 0) (con_X12_allAsk l) (dc_X12_asked 9 (15, .invokevirtual 431, 3) rfl rfl) rfl wd_2215 wd_160 (by decide) ⟨rfl, rfl, by decide, by decide⟩ hM wd_2212 wd_2214 wd_127 clf_12,
    st_aload_n hC (n := 10) (k := 0) (dc_X12_asked 10 (18, .aload_n 0, 1) rfl rfl) rfl rfl,
    st_aload_n hC (n := 11) (k := 0) (dc_X12_asked 11 (19, .aload_n 0, 1) rfl rfl) rfl rfl,
    st_iload_n hC (n := 12) (k := 1) (dc_X12_asked 12 (20, .iload_n 1, 1) rfl rfl) rfl rfl,
    st_callV hC (n := 13) (k := 12) (na := 1) (con_X12_keeperOf l) (dc_X12_asked 13 (21, .invokevirtual 434, 3) rfl rfl) rfl wd_2227 wd_160 (by decide) ⟨rfl, rfl, by decide, by decide⟩ hM wd_2224 wd_2226 wd_130 clf_12,
    st_callV hC (n := 14) (k := 12) (na := 1) (con_X12_orNone l) (dc_X12_asked 14 (24, .invokevirtual 310, 3) rfl rfl) rfl wd_1915 wd_160 (by decide) ⟨rfl, rfl, by decide, by decide⟩ hM wd_1912 wd_1914 wd_91 clf_12,
    st_iret hC (n := 15) hR (dc_X12_asked 15 (27, .ireturn, 1) rfl rfl), trivial⟩
set_option maxRecDepth 8000 in
theorem vc_X12_asked : VC P_X12_asked 2 Pre_X12_asked Fn_X12_asked := by
  rintro mm as hom hoa ⟨hM, x, rfl⟩
  refine ⟨Nat.le_of_ble_eq_true rfl, fun X h => ?_⟩
  show X 0 [some (vR 12 0), some (vI x)] [] mm
  refine h (fun _ => false) 3000 0 _ _ _ ?_
  refine And.intro ⟨_, rfl⟩ ?_
  refine brn_c (fun b3 => ?_) (fun b3 => ?_)
  · -- 3: bI (suP (mm.1 54 0) x) = 0 taken
    replace b3 : suP (mm.1 54 0) x := bI_n0.mp b3
    replace h : RUN P_X12_asked (fun r m' => (r, m') = onM (asM mm (asF mm)) (kfF (asF mm).1 (mm.1 54 0 1).toNatClampNeg x)) X := by have e : Fn_X12_asked mm [vR 12 0, vI x] = onM (asM mm (asF mm)) (kfF (asF mm).1 (mm.1 54 0 1).toNatClampNeg x) := if_pos b3; rw [e] at h; exact h
    refine And.intro ⟨hM, rfl⟩ ?_
    refine And.intro ⟨(show VM (asM mm (asF mm)) from hM), _, rfl⟩ ?_
    refine And.intro ⟨_, rfl⟩ ?_
    show ((some (vI (kfF ((asM mm (asF mm)).1 66 0) ((asM mm (asF mm)).1 54 0 1).toNatClampNeg x)) : Option MV), stM (asM mm (asF mm)) (if (kfF ((asM mm (asF mm)).1 66 0) ((asM mm (asF mm)).1 54 0 1).toNatClampNeg x) = -1 then 6 else 0)) = _
    exact (if_pos b3).symm
  · -- 3: bI (suP (mm.1 54 0) x) = 0 on
    replace b3 : ¬ (suP (mm.1 54 0) x) := bI_0.mp b3
    refine And.intro ⟨_, rfl⟩ ?_
    show ((some (vI (-1)) : Option MV), stM mm 1) = _
    exact (if_neg b3).symm
theorem con_X12_asked (l : Launch) : CON l y_X12_asked prog_14_method_138_code 2 (some .int) rm_X12_asked Pre_X12_asked Fn_X12_asked := CON_of (by decide) rfl rfl (sa_X12_asked l) vc_X12_asked
def Pre_X12_refusals : PreT := fun m as => VM m ∧ as = [vR 12 0]
def Fn_X12_refusals : FnT := fun m _ => gvM (asM m (asF m)) (asF m).2.2
abbrev y_X12_refusals : MethodName := ⟨"GivenUpModel", "refusals", "()I"⟩
def P_X12_refusals : List StpT := [s_aload 0, s_callV 12 0 Pre_X12_allAsk Fn_X12_allAsk, s_aload 0, s_aload 0, s_getI 12 32, s_callV 12 1 Pre_X12_gives Fn_X12_gives, s_iret]
def pc_X12_refusals : Nat → Nat := fun i => [0, 1, 4, 5, 6, 9, 12].getD i 0
def dl_X12_refusals : List (Nat × Instr × Nat) := [(0, .aload_n 0, 1), (1, .invokevirtual 431, 3), (4, .aload_n 0, 1), (5, .aload_n 0, 1), (6, .getfield 422, 3), (9, .invokevirtual 91, 3), (12, .ireturn, 1)]
theorem dc_X12_refusals : DEC prog_14_method_139_code pc_X12_refusals dl_X12_refusals := DEC_of (by decide +kernel)
abbrev rm_X12_refusals : Room := { frames := 6, cells := 0, slots := 0, locals := 135 }
set_option maxRecDepth 20000 in
theorem sa_X12_refusals (l : Launch) : SNDALL l prog_14_method_139_code "GivenUpModel" 1 (some .int) rm_X12_refusals P_X12_refusals pc_X12_refusals := fun p e s m args below meth c cells slots Q D dA ad A RR hC hR => by
  have hM := RTX_room (R := rm_X12_refusals) hR
  exact ⟨st_aload_n hC (n := 0) (k := 0) (dc_X12_refusals 0 (0, .aload_n 0, 1) rfl rfl) rfl rfl,
    st_callV hC (n := 1) (k := 12) (na := 0) (con_X12_allAsk l) (dc_X12_refusals 1 (1, .invokevirtual 431, 3) rfl rfl) rfl wd_2215 wd_160 (by decide) ⟨rfl, rfl, by decide, by decide⟩ hM wd_2212 wd_2214 wd_127 clf_12,
    st_aload_n hC (n := 2) (k := 0) (dc_X12_refusals 2 (4, .aload_n 0, 1) rfl rfl) rfl rfl,
    st_aload_n hC (n := 3) (k := 0) (dc_X12_refusals 3 (5, .aload_n 0, 1) rfl rfl) rfl rfl,
    st_getI hC (n := 4) (k := 12) (j := 32) (dc_X12_refusals 4 (6, .getfield 422, 3) rfl rfl) rfl clf_12 (by decide) rfl wd_1584,
    st_callV hC (n := 5) (k := 12) (na := 1) (con_X12_gives l) (dc_X12_refusals 5 (9, .invokevirtual 91, 3) rfl rfl) rfl wd_1849 wd_160 (by decide) ⟨rfl, rfl, by decide, by decide⟩ hM wd_1846 wd_1848 wd_79 clf_12,
    st_iret hC (n := 6) hR (dc_X12_refusals 6 (12, .ireturn, 1) rfl rfl), trivial⟩
set_option maxRecDepth 8000 in
theorem vc_X12_refusals : VC P_X12_refusals 1 Pre_X12_refusals Fn_X12_refusals := by
  rintro mm as hom hoa ⟨hM, rfl⟩
  refine ⟨Nat.le_of_ble_eq_true rfl, fun X h => ?_⟩
  show X 0 [some (vR 12 0)] [] mm
  refine h (fun _ => false) 3000 0 _ _ _ ?_
  refine And.intro ⟨hM, rfl⟩ ?_
  refine And.intro ⟨_, rfl⟩ ?_
  show ((some (vI ((asM mm (asF mm)).1 12 0 32)) : Option MV), stM (asM mm (asF mm)) 0) = _
  exact rfl
theorem con_X12_refusals (l : Launch) : CON l y_X12_refusals prog_14_method_139_code 1 (some .int) rm_X12_refusals Pre_X12_refusals Fn_X12_refusals := CON_of (by decide) rfl rfl (sa_X12_refusals l) vc_X12_refusals
def kpR (o : Nat → Int64) (K : Nat → Int32) (nm t : Nat) : Nat → (Nat → Int64)
  | 0 => o
  | s + 1 => vp_updL (kpR o K nm t s) (60 * t + s) (kfF K nm (nI s)).toInt64
def ctF (K : Nat → Int32) (nm : Nat) : Nat → Int32
  | 0 => 0
  | s + 1 => ctF K nm s + (if kpP K nm (nI s) then 1 else 0)
def keR (m : MM) (t : Nat) : Option MV × MM := gvM (mRowL (asM m (asF m)) 58 0 (kpR (m.2.1 58 0) (asF m).1 (m.1 54 0 1).toNatClampNeg t (m.1 54 0 0).toNatClampNeg)) (ctF (asF m).1 (m.1 54 0 1).toNatClampNeg (m.1 54 0 0).toNatClampNeg)

def Pre_X12_keep : PreT := fun m as => VM m ∧ ∃ x : Int32, as = [vR 12 0, vI x]
def Fn_X12_keep : FnT := fun m as => match as with
  | [_, Sum.inl x] => if ¬ x < 0 ∧ ¬ 4 ≤ x then (if m.1 57 0 x.toNatClampNeg = -1 then rfM m 2 else if m.1 57 0 x.toNatClampNeg < m.1 54 0 0 then rfM m 3 else keR m x.toNatClampNeg) else rfM m 1
  | _ => (none, m)
abbrev y_X12_keep : MethodName := ⟨"GivenUpModel", "keep", "(I)I"⟩
def P_X12_keep : List StpT := [s_iload 1, s_callS 1 Pre_X12_isTray Fn_X12_isTray, s_ifne 7, s_aload 0, s_ic (1), s_callV 12 1 Pre_X12_refuse Fn_X12_refuse, s_iret, s_aload 0, s_getR 12 6 57, s_iload 1, s_iald, s_ic (-1), s_icne 17, s_aload 0, s_ic (2), s_callV 12 1 Pre_X12_refuse Fn_X12_refuse, s_iret, s_aload 0, s_getR 12 6 57, s_iload 1, s_iald, s_aload 0, s_getR 12 0 54, s_ic (0), s_iald, s_icge 30, s_aload 0, s_ic (3), s_callV 12 1 Pre_X12_refuse Fn_X12_refuse, s_iret, s_aload 0, s_callV 12 0 Pre_X12_allAsk Fn_X12_allAsk, s_ic (0), s_istore 2, s_ic (0), s_istore 3, s_iload 3, s_aload 0, s_getR 12 0 54, s_ic (0), s_iald, s_icge 66, s_aload 0, s_getR 12 7 58, s_ic (60), s_iload 1, s_imul, s_iload 3, s_iadd, s_aload 0, s_iload 3, s_callV 12 1 Pre_X12_keeperOf Fn_X12_keeperOf, s_i2l, s_last, s_iload 2, s_aload 0, s_iload 3, s_callV 12 1 Pre_X12_isKept Fn_X12_isKept, s_ifeq 61, s_ic (1), s_goto 62, s_ic (0), s_iadd, s_istore 2, s_iinc 3 (1), s_goto 36, s_aload 0, s_iload 2, s_callV 12 1 Pre_X12_gives Fn_X12_gives, s_iret]
def pc_X12_keep : Nat → Nat := fun i => [0, 1, 4, 7, 8, 9, 12, 13, 14, 17, 18, 19, 20, 23, 24, 25, 28, 29, 30, 33, 34, 35, 36, 39, 40, 41, 44, 45, 46, 49, 50, 51, 54, 55, 56, 57, 58, 59, 60, 63, 64, 65, 68, 69, 72, 74, 75, 76, 77, 78, 79, 80, 83, 84, 85, 86, 87, 88, 91, 94, 95, 98, 99, 100, 101, 104, 107, 108, 109, 112].getD i 0
def dl_X12_keep : List (Nat × Instr × Nat) := [(0, .iload_n 1, 1), (1, .invokestatic 98, 3), (4, .ifCond .ne 9, 3), (7, .aload_n 0, 1), (8, .iconst 1, 1), (9, .invokevirtual 87, 3), (12, .ireturn, 1), (13, .aload_n 0, 1), (14, .getfield 24, 3), (17, .iload_n 1, 1), (18, .iaload, 1), (19, .iconst (-1), 1), (20, .if_icmp .ne 9, 3), (23, .aload_n 0, 1), (24, .iconst 2, 1), (25, .invokevirtual 87, 3), (28, .ireturn, 1), (29, .aload_n 0, 1), (30, .getfield 24, 3), (33, .iload_n 1, 1), (34, .iaload, 1), (35, .aload_n 0, 1), (36, .getfield 7, 3), (39, .iconst 0, 1), (40, .iaload, 1), (41, .if_icmp .ge 9, 3), (44, .aload_n 0, 1), (45, .iconst 3, 1), (46, .invokevirtual 87, 3), (49, .ireturn, 1), (50, .aload_n 0, 1), (51, .invokevirtual 431, 3), (54, .iconst 0, 1), (55, .istore_n 2, 1), (56, .iconst 0, 1), (57, .istore_n 3, 1), (58, .iload_n 3, 1), (59, .aload_n 0, 1), (60, .getfield 7, 3), (63, .iconst 0, 1), (64, .iaload, 1), (65, .if_icmp .ge 42, 3), (68, .aload_n 0, 1), (69, .getfield 27, 3), (72, .bipush 60, 2), (74, .iload_n 1, 1), (75, .imul, 1), (76, .iload_n 3, 1), (77, .iadd, 1), (78, .aload_n 0, 1), (79, .iload_n 3, 1), (80, .invokevirtual 434, 3), (83, .i2l, 1), (84, .lastore, 1), (85, .iload_n 2, 1), (86, .aload_n 0, 1), (87, .iload_n 3, 1), (88, .invokevirtual 425, 3), (91, .ifCond .eq 7, 3), (94, .iconst 1, 1), (95, .goto 4, 3), (98, .iconst 0, 1), (99, .iadd, 1), (100, .istore_n 2, 1), (101, .iinc 3 1, 3), (104, .goto (-46), 3), (107, .aload_n 0, 1), (108, .iload_n 2, 1), (109, .invokevirtual 91, 3), (112, .ireturn, 1)]
theorem dc_X12_keep : DEC prog_14_method_140_code pc_X12_keep dl_X12_keep := DEC_of (by decide +kernel)
abbrev rm_X12_keep : Room := { frames := 6, cells := 0, slots := 0, locals := 135 }
set_option maxRecDepth 20000 in
theorem sa_X12_keep (l : Launch) : SNDALL l prog_14_method_140_code "GivenUpModel" 4 (some .int) rm_X12_keep P_X12_keep pc_X12_keep := fun p e s m args below meth c cells slots Q D dA ad A RR hC hR => by
  have hM := RTX_room (R := rm_X12_keep) hR
  exact ⟨st_iload_n hC (n := 0) (k := 1) (dc_X12_keep 0 (0, .iload_n 1, 1) rfl rfl) rfl rfl,
    st_callS hC (n := 1) (na := 1) (con_X12_isTray l) (dc_X12_keep 1 (1, .invokestatic 98, 3) rfl rfl) rfl wd_1694 wd_160 (by decide) ⟨rfl, rfl, by decide, by decide⟩ hM wd_1692 wd_1693,
    st_ifne hC (n := 2) (dc_X12_keep 2 (4, .ifCond .ne 9, 3) rfl rfl) rfl (by decide),
    st_aload_n hC (n := 3) (k := 0) (dc_X12_keep 3 (7, .aload_n 0, 1) rfl rfl) rfl rfl,
    st_iconst hC (n := 4) (x := 1) (dc_X12_keep 4 (8, .iconst 1, 1) rfl rfl) rfl (by decide),
    st_callV hC (n := 5) (k := 12) (na := 1) (con_X12_refuse l) (dc_X12_keep 5 (9, .invokevirtual 87, 3) rfl rfl) rfl wd_1758 wd_160 (by decide) ⟨rfl, rfl, by decide, by decide⟩ hM wd_1755 wd_1757 wd_57 clf_12,
    st_iret hC (n := 6) hR (dc_X12_keep 6 (12, .ireturn, 1) rfl rfl),
    st_aload_n hC (n := 7) (k := 0) (dc_X12_keep 7 (13, .aload_n 0, 1) rfl rfl) rfl rfl,
    st_getR hC (n := 8) (k := 12) (j := 6) (dc_X12_keep 8 (14, .getfield 24, 3) rfl rfl) rfl clf_12 (by decide) rfl (by decide) wd_1558,
    st_iload_n hC (n := 9) (k := 1) (dc_X12_keep 9 (17, .iload_n 1, 1) rfl rfl) rfl rfl,
    st_iald hC (n := 10) (dc_X12_keep 10 (18, .iaload, 1) rfl rfl) rfl,
    st_iconst hC (n := 11) (x := (-1)) (dc_X12_keep 11 (19, .iconst (-1), 1) rfl rfl) rfl (by decide),
    st_icne hC (n := 12) (dc_X12_keep 12 (20, .if_icmp .ne 9, 3) rfl rfl) rfl (by decide),
    st_aload_n hC (n := 13) (k := 0) (dc_X12_keep 13 (23, .aload_n 0, 1) rfl rfl) rfl rfl,
    st_iconst hC (n := 14) (x := 2) (dc_X12_keep 14 (24, .iconst 2, 1) rfl rfl) rfl (by decide),
    st_callV hC (n := 15) (k := 12) (na := 1) (con_X12_refuse l) (dc_X12_keep 15 (25, .invokevirtual 87, 3) rfl rfl) rfl wd_1758 wd_160 (by decide) ⟨rfl, rfl, by decide, by decide⟩ hM wd_1755 wd_1757 wd_57 clf_12,
    st_iret hC (n := 16) hR (dc_X12_keep 16 (28, .ireturn, 1) rfl rfl),
    st_aload_n hC (n := 17) (k := 0) (dc_X12_keep 17 (29, .aload_n 0, 1) rfl rfl) rfl rfl,
    st_getR hC (n := 18) (k := 12) (j := 6) (dc_X12_keep 18 (30, .getfield 24, 3) rfl rfl) rfl clf_12 (by decide) rfl (by decide) wd_1558,
    st_iload_n hC (n := 19) (k := 1) (dc_X12_keep 19 (33, .iload_n 1, 1) rfl rfl) rfl rfl,
    st_iald hC (n := 20) (dc_X12_keep 20 (34, .iaload, 1) rfl rfl) rfl,
    st_aload_n hC (n := 21) (k := 0) (dc_X12_keep 21 (35, .aload_n 0, 1) rfl rfl) rfl rfl,
    st_getR hC (n := 22) (k := 12) (j := 0) (dc_X12_keep 22 (36, .getfield 7, 3) rfl rfl) rfl clf_12 (by decide) rfl (by decide) wd_1552,
    st_iconst hC (n := 23) (x := 0) (dc_X12_keep 23 (39, .iconst 0, 1) rfl rfl) rfl (by decide),
    st_iald hC (n := 24) (dc_X12_keep 24 (40, .iaload, 1) rfl rfl) rfl,
    st_icge hC (n := 25) (dc_X12_keep 25 (41, .if_icmp .ge 9, 3) rfl rfl) rfl (by decide),
    st_aload_n hC (n := 26) (k := 0) (dc_X12_keep 26 (44, .aload_n 0, 1) rfl rfl) rfl rfl,
    st_iconst hC (n := 27) (x := 3) (dc_X12_keep 27 (45, .iconst 3, 1) rfl rfl) rfl (by decide),
    st_callV hC (n := 28) (k := 12) (na := 1) (con_X12_refuse l) (dc_X12_keep 28 (46, .invokevirtual 87, 3) rfl rfl) rfl wd_1758 wd_160 (by decide) ⟨rfl, rfl, by decide, by decide⟩ hM wd_1755 wd_1757 wd_57 clf_12,
    st_iret hC (n := 29) hR (dc_X12_keep 29 (49, .ireturn, 1) rfl rfl),
    st_aload_n hC (n := 30) (k := 0) (dc_X12_keep 30 (50, .aload_n 0, 1) rfl rfl) rfl rfl,
    st_callV hC (n := 31) (k := 12) (na := 0) (con_X12_allAsk l) (dc_X12_keep 31 (51, .invokevirtual 431, 3) rfl rfl) rfl wd_2215 wd_160 (by decide) ⟨rfl, rfl, by decide, by decide⟩ hM wd_2212 wd_2214 wd_127 clf_12,
    st_iconst hC (n := 32) (x := 0) (dc_X12_keep 32 (54, .iconst 0, 1) rfl rfl) rfl (by decide),
    st_istore_n hC (n := 33) (k := 2) (dc_X12_keep 33 (55, .istore_n 2, 1) rfl rfl) rfl rfl (by decide),
    st_iconst hC (n := 34) (x := 0) (dc_X12_keep 34 (56, .iconst 0, 1) rfl rfl) rfl (by decide),
    st_istore_n hC (n := 35) (k := 3) (dc_X12_keep 35 (57, .istore_n 3, 1) rfl rfl) rfl rfl (by decide),
    st_iload_n hC (n := 36) (k := 3) (dc_X12_keep 36 (58, .iload_n 3, 1) rfl rfl) rfl rfl,
    st_aload_n hC (n := 37) (k := 0) (dc_X12_keep 37 (59, .aload_n 0, 1) rfl rfl) rfl rfl,
    st_getR hC (n := 38) (k := 12) (j := 0) (dc_X12_keep 38 (60, .getfield 7, 3) rfl rfl) rfl clf_12 (by decide) rfl (by decide) wd_1552,
    st_iconst hC (n := 39) (x := 0) (dc_X12_keep 39 (63, .iconst 0, 1) rfl rfl) rfl (by decide),
    st_iald hC (n := 40) (dc_X12_keep 40 (64, .iaload, 1) rfl rfl) rfl,
    st_icge hC (n := 41) (dc_X12_keep 41 (65, .if_icmp .ge 42, 3) rfl rfl) rfl (by decide),
    st_aload_n hC (n := 42) (k := 0) (dc_X12_keep 42 (68, .aload_n 0, 1) rfl rfl) rfl rfl,
    st_getR hC (n := 43) (k := 12) (j := 7) (dc_X12_keep 43 (69, .getfield 27, 3) rfl rfl) rfl clf_12 (by decide) rfl (by decide) wd_1559,
    st_bipush hC (n := 44) (x := 60) (dc_X12_keep 44 (72, .bipush 60, 2) rfl rfl) rfl (by decide),
    st_iload_n hC (n := 45) (k := 1) (dc_X12_keep 45 (74, .iload_n 1, 1) rfl rfl) rfl rfl,
    st_imul hC (n := 46) (dc_X12_keep 46 (75, .imul, 1) rfl rfl) rfl,
    st_iload_n hC (n := 47) (k := 3) (dc_X12_keep 47 (76, .iload_n 3, 1) rfl rfl) rfl rfl,
    st_iadd hC (n := 48) (dc_X12_keep 48 (77, .iadd, 1) rfl rfl) rfl,
    st_aload_n hC (n := 49) (k := 0) (dc_X12_keep 49 (78, .aload_n 0, 1) rfl rfl) rfl rfl,
    st_iload_n hC (n := 50) (k := 3) (dc_X12_keep 50 (79, .iload_n 3, 1) rfl rfl) rfl rfl,
    st_callV hC (n := 51) (k := 12) (na := 1) (con_X12_keeperOf l) (dc_X12_keep 51 (80, .invokevirtual 434, 3) rfl rfl) rfl wd_2227 wd_160 (by decide) ⟨rfl, rfl, by decide, by decide⟩ hM wd_2224 wd_2226 wd_130 clf_12,
    st_i2l hC (n := 52) (dc_X12_keep 52 (83, .i2l, 1) rfl rfl) rfl,
    st_last hC (n := 53) (dc_X12_keep 53 (84, .lastore, 1) rfl rfl) rfl,
    st_iload_n hC (n := 54) (k := 2) (dc_X12_keep 54 (85, .iload_n 2, 1) rfl rfl) rfl rfl,
    st_aload_n hC (n := 55) (k := 0) (dc_X12_keep 55 (86, .aload_n 0, 1) rfl rfl) rfl rfl,
    st_iload_n hC (n := 56) (k := 3) (dc_X12_keep 56 (87, .iload_n 3, 1) rfl rfl) rfl rfl,
    st_callV hC (n := 57) (k := 12) (na := 1) (con_X12_isKept l) (dc_X12_keep 57 (88, .invokevirtual 425, 3) rfl rfl) rfl wd_2219 wd_160 (by decide) ⟨rfl, rfl, by decide, by decide⟩ hM wd_2216 wd_2218 wd_128 clf_12,
    st_ifeq hC (n := 58) (dc_X12_keep 58 (91, .ifCond .eq 7, 3) rfl rfl) rfl (by decide),
    st_iconst hC (n := 59) (x := 1) (dc_X12_keep 59 (94, .iconst 1, 1) rfl rfl) rfl (by decide),
    st_goto hC (n := 60) (dc_X12_keep 60 (95, .goto 4, 3) rfl rfl) (by decide),
    st_iconst hC (n := 61) (x := 0) (dc_X12_keep 61 (98, .iconst 0, 1) rfl rfl) rfl (by decide),
    st_iadd hC (n := 62) (dc_X12_keep 62 (99, .iadd, 1) rfl rfl) rfl,
    st_istore_n hC (n := 63) (k := 2) (dc_X12_keep 63 (100, .istore_n 2, 1) rfl rfl) rfl rfl (by decide),
    st_iinc hC (n := 64) (x := 1) (dc_X12_keep 64 (101, .iinc 3 1, 3) rfl rfl) rfl (by decide) (by decide),
    st_goto hC (n := 65) (dc_X12_keep 65 (104, .goto (-46), 3) rfl rfl) (by decide),
    st_aload_n hC (n := 66) (k := 0) (dc_X12_keep 66 (107, .aload_n 0, 1) rfl rfl) rfl rfl,
    st_iload_n hC (n := 67) (k := 2) (dc_X12_keep 67 (108, .iload_n 2, 1) rfl rfl) rfl rfl,
    st_callV hC (n := 68) (k := 12) (na := 1) (con_X12_gives l) (dc_X12_keep 68 (109, .invokevirtual 91, 3) rfl rfl) rfl wd_1849 wd_160 (by decide) ⟨rfl, rfl, by decide, by decide⟩ hM wd_1846 wd_1848 wd_79 clf_12,
    st_iret hC (n := 69) hR (dc_X12_keep 69 (112, .ireturn, 1) rfl rfl), trivial⟩
set_option maxRecDepth 8000 in
theorem vc_X12_keep : VC P_X12_keep 4 Pre_X12_keep Fn_X12_keep := by
  rintro mm as hom hoa ⟨⟨ns, nm, n, hV⟩, x, rfl⟩
  refine ⟨Nat.le_of_ble_eq_true rfl, fun X h => ?_⟩
  have hM : VM mm := ⟨ns, nm, n, hV⟩
  have hns : mm.1 54 0 0 = nI ns := hV.1.1
  have hns4 : ns ≤ 4 := hV.1.2
  have hnm : mm.1 54 0 1 = nI nm := hV.2.1.1
  have hnm4 : nm ≤ 4 := hV.2.1.2
  have enm : (nI nm).toNatClampNeg = nm := nI_clamp (by omega)
  have two : (¬ x < 0 ∧ ¬ 4 ≤ x) → X 7 [some (vR 12 0), some (vI (x)), none, none] [] mm := by
    intro hc
    obtain ⟨t, ht, rfl⟩ := arg_in (n := 4) hc.1 hc.2 (by decide)
    have et : (nI t).toNatClampNeg = t := nI_clamp (by omega)
    have eF : Fn_X12_keep mm [vR 12 0, vI (nI t)] = (if mm.1 57 0 t = -1 then rfM mm 2 else if mm.1 57 0 t < mm.1 54 0 0 then rfM mm 3 else keR mm t) := by
      refine Eq.trans (if_pos hc) ?_
      rw [et]
    rw [eF] at h
    suffices z : ¬ mm.1 57 0 t = -1 → ¬ mm.1 57 0 t < mm.1 54 0 0 → X 30 [some (vR 12 0), some (vI (nI t)), none, none] [] mm by
      show X 7 [some (vR 12 0), some (vI (nI t)), none, none] [] mm
      refine h (fun i => Nat.beq i 30) 3000 7 _ _ _ ?_
      refine And.intro (inb_o 4 rfl rfl rfl (by omega)) ?_
      refine brn_c (fun b12 => ?_) (fun b12 => ?_)
      · -- 12: mm.1 57 0 (nI t).toNatClampNeg = (-1) taken
        replace b12 : ¬ (mm.1 57 0 (nI t).toNatClampNeg = (-1)) := b12
        rw [et] at b12
        refine And.intro (inb_o 4 rfl rfl rfl (by omega)) ?_
        refine And.intro rfl ?_
        refine br_c (fun b25 => ?_) (fun b25 => ?_)
        · -- 25: mm.1 54 0 0 ≤ mm.1 57 0 (nI t).toNatClampNeg taken
          replace b25 : mm.1 54 0 0 ≤ mm.1 57 0 (nI t).toNatClampNeg := b25
          rw [et] at b25
          show X 30 [some (vR 12 0), some (vI (nI t)), none, none] [] mm
          exact z b12 (Int32.not_lt.mpr b25)
        · -- 25: mm.1 54 0 0 ≤ mm.1 57 0 (nI t).toNatClampNeg on
          replace b25 : ¬ (mm.1 54 0 0 ≤ mm.1 57 0 (nI t).toNatClampNeg) := b25
          rw [et] at b25
          refine And.intro ⟨_, rfl⟩ ?_
          show ((some (vI (-1)) : Option MV), stM mm 3) = _
          refine leaf ?_
          rw [if_neg b12, if_pos (Int32.not_le.mp b25)] 
          exact rfl
      · -- 12: mm.1 57 0 (nI t).toNatClampNeg = (-1) on
        replace b12 : mm.1 57 0 (nI t).toNatClampNeg = (-1) := b12
        rw [et] at b12
        refine And.intro ⟨_, rfl⟩ ?_
        show ((some (vI (-1)) : Option MV), stM mm 2) = _
        exact (if_pos b12).symm
    intro h2 h3
    rw [if_neg h2, if_neg h3] at h
    unfold keR at h
    rw [hns, hnm, enm, nI_clamp (show ns < 2 ^ 31 by omega)] at h
    suffices z : X 32 [some (vR 12 0), some (vI (nI t)), none, none] [] (asM mm (asF mm)) by
      show X 30 [some (vR 12 0), some (vI (nI t)), none, none] [] mm
      refine h (fun i => Nat.beq i 32) 3000 30 _ _ _ ?_
      refine And.intro ⟨hM, rfl⟩ ?_
      show X 32 [some (vR 12 0), some (vI (nI t)), none, none] [] (asM mm (asF mm))
      exact z
    obtain ⟨K, eK⟩ : ∃ K, K = (asF mm).1 := ⟨_, rfl⟩
    have eK2 : (asM mm (asF mm)).1 66 0 = K := by rw [eK]; rfl
    have e54 : (asM mm (asF mm)).1 54 0 = mm.1 54 0 := rfl
    have eT : (asM mm (asF mm)).2.1 58 0 = mm.2.1 58 0 := rfl
    rw [← eK, ← eT] at h
    have hVM : VM (asM mm (asF mm)) := hM
    clear eF eK
    generalize asM mm (asF mm) = M at *
    have loop : ∀ s, s ≤ ns → X 36 [some (vR 12 0), some (vI (nI t)), some (vI (ctF K nm s)), some (vI (nI s))] [] (mRowL M 58 0 (kpR (M.2.1 58 0) K nm t s)) := by
      refine up_ind ns ?_ (fun s hs ih => ?_)
      ·
        show X 36 [some (vR 12 0), some (vI (nI t)), some (vI (ctF K nm ns)), some (vI (nI ns))] [] (mRowL M 58 0 (kpR (M.2.1 58 0) K nm t ns))
        refine h (fun _ => false) 3000 36 _ _ _ ?_
        refine And.intro rfl ?_
        refine br_t (by show M.1 54 0 0 ≤ _; rw [e54]; ((try simp (disch := omega) only [hns, li, pk_mul, nI_add, nI_clamp, nI_leI, nI_ltI, nI_eq, bI_0, bI_n0, Decidable.not_not, gu_m1]); first | done | omega | assumption)) ?_
        refine And.intro ⟨_, rfl⟩ ?_
        show ((some (vI (ctF K nm ns)) : Option MV), stM (mRowL M 58 0 (kpR (M.2.1 58 0) K nm t ns)) 0) = _
        exact rfl
      · have x1 : (60 * nI t + nI s).toNatClampNeg = 60 * t + s := by simp (disch := omega) only [li, pk_mul, nI_add, nI_clamp]
        have hVN : ∀ f, VM (mRowL M 58 0 f) := fun f => hVM
        have st : ∀ v, ctF K nm s + v = ctF K nm (s + 1) → X 62 [some (vR 12 0), some (vI (nI t)), some (vI (ctF K nm s)), some (vI (nI s))] [vI (v), vI (ctF K nm s)] (mRowL M 58 0 (kpR (M.2.1 58 0) K nm t (s + 1))) := by
          intro v ev
          show X 62 [some (vR 12 0), some (vI (nI t)), some (vI (ctF K nm s)), some (vI (nI s))] [vI v, vI (ctF K nm s)] (mRowL M 58 0 (kpR (M.2.1 58 0) K nm t (s + 1)))
          refine h (fun i => Nat.beq i 36) 3000 62 _ _ _ ?_
          show X 36 [some (vR 12 0), some (vI (nI t)), some (vI ((ctF K nm s) + v)), some (vI ((nI s) + 1))] [] (mRowL M 58 0 (kpR (M.2.1 58 0) K nm t (s + 1)))
          rw [nI_1, ev]
          exact ih
        have next : X 54 [some (vR 12 0), some (vI (nI t)), some (vI (ctF K nm s)), some (vI (nI s))] [] (mRowL M 58 0 (kpR (M.2.1 58 0) K nm t (s + 1))) := by
          show X 54 [some (vR 12 0), some (vI (nI t)), some (vI (ctF K nm s)), some (vI (nI s))] [] (mRowL M 58 0 (kpR (M.2.1 58 0) K nm t (s + 1)))
          refine h (fun i => Nat.beq i 62) 3000 54 _ _ _ ?_
          refine And.intro ⟨hVN _, _, rfl⟩ ?_
          refine br_c (fun b58 => ?_) (fun b58 => ?_)
          · -- 58: bI (kpP ((mRowL M 58 0 (kpR (M.2.1 58 0) K nm t (s + 1))).1 66 0) ((mRowL M 58 0 (kpR (M.2.1 58 0) K nm t (s + 1))).1 54 0 1).toNatClampNeg (nI s)) = 0 taken
            replace b58 : ¬ (kpP ((mRowL M 58 0 (kpR (M.2.1 58 0) K nm t (s + 1))).1 66 0) ((mRowL M 58 0 (kpR (M.2.1 58 0) K nm t (s + 1))).1 54 0 1).toNatClampNeg (nI s)) := bI_0.mp b58
            replace b58 : ¬ kpP (M.1 66 0) (M.1 54 0 1).toNatClampNeg (nI s) := b58
            rw [eK2, e54, hnm, enm] at b58
            show X 62 [some (vR 12 0), some (vI (nI t)), some (vI (ctF K nm s)), some (vI (nI s))] [vI 0, vI (ctF K nm s)] (mRowL M 58 0 (kpR (M.2.1 58 0) K nm t (s + 1)))
            refine st _ ?_
            rw [ctF, if_neg b58]
          · -- 58: bI (kpP ((mRowL M 58 0 (kpR (M.2.1 58 0) K nm t (s + 1))).1 66 0) ((mRowL M 58 0 (kpR (M.2.1 58 0) K nm t (s + 1))).1 54 0 1).toNatClampNeg (nI s)) = 0 on
            replace b58 : kpP ((mRowL M 58 0 (kpR (M.2.1 58 0) K nm t (s + 1))).1 66 0) ((mRowL M 58 0 (kpR (M.2.1 58 0) K nm t (s + 1))).1 54 0 1).toNatClampNeg (nI s) := bI_n0.mp b58
            replace b58 : kpP (M.1 66 0) (M.1 54 0 1).toNatClampNeg (nI s) := b58
            rw [eK2, e54, hnm, enm] at b58
            show X 62 [some (vR 12 0), some (vI (nI t)), some (vI (ctF K nm s)), some (vI (nI s))] [vI 1, vI (ctF K nm s)] (mRowL M 58 0 (kpR (M.2.1 58 0) K nm t (s + 1)))
            refine st _ ?_
            rw [ctF, if_pos b58]
        show X 36 [some (vR 12 0), some (vI (nI t)), some (vI (ctF K nm s)), some (vI (nI s))] [] (mRowL M 58 0 (kpR (M.2.1 58 0) K nm t s))
        refine h (fun i => Nat.beq i 54) 3000 36 _ _ _ ?_
        refine And.intro rfl ?_
        refine br_f (by show ¬ M.1 54 0 0 ≤ _; rw [e54]; ((try simp (disch := omega) only [hns, li, pk_mul, nI_add, nI_clamp, nI_leI, nI_ltI, nI_eq, bI_0, bI_n0, Decidable.not_not, gu_m1]); first | done | omega | assumption)) ?_
        refine And.intro ⟨hVN _, _, rfl⟩ ?_
        refine And.intro (inb_o 240 rfl rfl (show (60 * (nI t)) + (nI s) = nI ((60 * ( t)) + ( s)) by simp (disch := omega) only [li, pk_mul, nI_add, nI_clamp]) (by omega)) ?_
        show X 54 [some (vR 12 0), some (vI (nI t)), some (vI (ctF K nm s)), some (vI (nI s))] [] (mRowL (mRowL M 58 0 (kpR (M.2.1 58 0) K nm t s)) 58 0 (vp_updL ((mRowL M 58 0 (kpR (M.2.1 58 0) K nm t s)).2.1 58 0) ((60 * (nI t)) + (nI s)).toNatClampNeg ((kfF ((mRowL M 58 0 (kpR (M.2.1 58 0) K nm t s)).1 66 0) ((mRowL M 58 0 (kpR (M.2.1 58 0) K nm t s)).1 54 0 1).toNatClampNeg (nI s)).toInt64)))
        rw [x1]
        show X 54 _ _ (mRowL (mRowL M 58 0 (kpR (M.2.1 58 0) K nm t s)) 58 0 (vp_updL (kpR (M.2.1 58 0) K nm t s) (60 * t + s) (kfF (M.1 66 0) (M.1 54 0 1).toNatClampNeg (nI s)).toInt64)) 
        rw [mRowL2, eK2, e54, hnm, enm] 
        exact next
    have l0 := loop 0 (by omega)
    have e0 : mRowL M 58 0 (kpR (M.2.1 58 0) K nm t 0) = M := mRowL_self _ _ _
    rw [e0] at l0
    show X 32 [some (vR 12 0), some (vI (nI t)), none, none] [] M
    refine h (fun i => Nat.beq i 36) 3000 32 _ _ _ ?_
    show X 36 [some (vR 12 0), some (vI (nI t)), some (vI 0), some (vI 0)] [] M
    exact l0
  show X 0 [some (vR 12 0), some (vI x), none, none] [] mm
  refine h (fun i => Nat.beq i 7) 3000 0 _ _ _ ?_
  refine And.intro ⟨_, rfl⟩ ?_
  refine brn_c (fun b2 => ?_) (fun b2 => ?_)
  · -- 2: bI (¬ x < 0 ∧ ¬ 4 ≤ x) = 0 taken
    replace b2 : ¬ x < 0 ∧ ¬ 4 ≤ x := bI_n0.mp b2
    show X 7 [some (vR 12 0), some (vI x), none, none] [] mm
    exact two b2
  · -- 2: bI (¬ x < 0 ∧ ¬ 4 ≤ x) = 0 on
    replace b2 : ¬ (¬ x < 0 ∧ ¬ 4 ≤ x) := bI_0.mp b2
    refine And.intro ⟨_, rfl⟩ ?_
    show ((some (vI (-1)) : Option MV), stM mm 1) = _
    exact (if_neg b2).symm
theorem con_X12_keep (l : Launch) : CON l y_X12_keep prog_14_method_140_code 4 (some .int) rm_X12_keep Pre_X12_keep Fn_X12_keep := CON_of (by decide) rfl rfl (sa_X12_keep l) vc_X12_keep
abbrev woO (a : Nat → Int32) (t X : Nat) : Prop := a (46 + 3 * t) &&& (nI X ^^^ (-1)) = 0
/-- the orders of a set, by its last -/
def smF (v : Int64) (g : Nat → Int64) (a : Nat → Int32) (X : Nat) : Nat → Int64
  | 0 => v
  | t + 1 => if X.testBit t = true ∧ woO a t (X ^^^ 2 ^ t) then smF v g a X t + g (X ^^^ 2 ^ t) else smF v g a X t
theorem smF_y {v : Int64} {g : Nat → Int64} {a : Nat → Int32} {X t : Nat} (h : X.testBit t = true ∧ woO a t (X ^^^ 2 ^ t)) : smF v g a X (t + 1) = smF v g a X t + g (X ^^^ 2 ^ t) := if_pos h
theorem smF_n {v : Int64} {g : Nat → Int64} {a : Nat → Int32} {X t : Nat} (h : ¬ (X.testBit t = true ∧ woO a t (X ^^^ 2 ^ t))) : smF v g a X (t + 1) = smF v g a X t := if_neg h
theorem smF_eq {v : Int64} {g g' : Nat → Int64} {a : Nat → Int32} {X : Nat} (h : ∀ Y, Y < X → g Y = g' Y) : ∀ t, smF v g a X t = smF v g' a X t
  | 0 => rfl
  | t + 1 => by
    rw [smF, smF, smF_eq h t]
    by_cases hc : X.testBit t = true ∧ woO a t (X ^^^ 2 ^ t)
    · rw [if_pos hc, if_pos hc, h _ (xor_lt hc.1)]
    · rw [if_neg hc, if_neg hc]
def woF (a : Nat → Int32) (nt : Nat) : Nat → Nat → Int64
  | 0, X => if X = 0 then 1 else 0
  | f + 1, X => smF (if X = 0 then 1 else 0) (woF a nt f) a X nt
theorem smF_0 (v : Int64) (g : Nat → Int64) (a : Nat → Int32) : ∀ t, smF v g a 0 t = v
  | 0 => rfl
  | t + 1 => by
    rw [smF, if_neg (fun z => by rw [Nat.zero_testBit] at z; exact Bool.noConfusion z.1)]
    exact smF_0 v g a t
theorem woF_eq (a : Nat → Int32) (nt : Nat) : ∀ f g X, X ≤ f → X ≤ g → woF a nt f X = woF a nt g X
  | 0, 0, _, _, _ => rfl
  | 0, g + 1, X, h, _ => by
    have : X = 0 := by omega
    subst this
    rw [woF, woF, smF_0]
  | f + 1, 0, X, _, h => by
    have : X = 0 := by omega
    subst this
    rw [woF, woF, smF_0]
  | f + 1, g + 1, X, h1, h2 => by
    rw [woF, woF]
    exact smF_eq (fun Y hY => woF_eq a nt f g Y (by omega) (by omega)) nt
def wo (a : Nat → Int32) (nt X : Nat) : Int64 := woF a nt X X
theorem wo_eq (a : Nat → Int32) (nt X : Nat) : wo a nt X = smF (if X = 0 then 1 else 0) (wo a nt) a X nt := by
  refine (woF_eq a nt X (X + 1) X (by omega) (by omega)).trans ?_
  rw [woF]
  exact smF_eq (fun Y hY => woF_eq a nt _ _ Y (by omega) (by omega)) nt
def woR (o : Nat → Int64) (a : Nat → Int32) (nt W k : Nat) : Nat → Int64 := fun X => if X < k then (if ndn X W = 0 then wo a nt X else 0) else o X
theorem woR_0 (o : Nat → Int64) (a : Nat → Int32) (nt W : Nat) : woR o a nt W 0 = o := by
  funext X
  exact if_neg (by omega)
theorem woR_up {o : Nat → Int64} {a : Nat → Int32} {nt W k : Nat} {v : Int64} (hv : v = if ndn k W = 0 then wo a nt k else 0) : vp_updL (woR o a nt W k) k v = woR o a nt W (k + 1) := by
  funext X
  by_cases h : X = k
  · subst h
    rw [pk_uLs, hv]
    exact (if_pos (by omega)).symm
  · rw [pk_uLn h]
    unfold woR
    by_cases h2 : X < k
    · rw [if_pos h2, if_pos (show X < k + 1 by omega)]
    · rw [if_neg h2, if_neg (show ¬ X < k + 1 by omega)]
theorem uLu (f : Nat → Int64) (k : Nat) (x y : Int64) : vp_updL (vp_updL f k x) k y = vp_updL f k y := by
  funext j
  unfold vp_updL
  by_cases h : j = k
  · simp [h]
  · simp [h]
def woM (m : MM) (W : Nat) : MM := mRowL m 68 0 (woR (m.2.1 68 0) (m.1 54 0) (m.1 54 0 2).toNatClampNeg W (W + 1))

--tpl ⟨hM, {1N}, by omega, rfl⟩ || L wo {A} ({a} 2).toNatClampNeg {1n} || woM {m} {1n}
def Pre_X12_ordersOf : PreT := fun m as => VM m ∧ ∃ W : Nat, W < 4096 ∧ as = [vR 12 0, vI (nI W)]
def Fn_X12_ordersOf : FnT := fun m as => match as with
  | [_, Sum.inl x] => (some (vL (wo (m.1 54 0) (m.1 54 0 2).toNatClampNeg x.toNatClampNeg)), woM m x.toNatClampNeg)
  | _ => (none, m)
abbrev y_X12_ordersOf : MethodName := ⟨"GivenUpModel", "ordersOf", "(I)J"⟩
def P_X12_ordersOf : List StpT := [s_ic (0), s_istore 2, s_iload 2, s_iload 1, s_icgt 69, s_aload 0, s_getR 12 33 68, s_iload 2, s_iload 2, s_ifne 12, s_lc 1, s_goto 13, s_lc 0, s_last, s_iload 2, s_iload 1, s_ic (-1), s_ixor, s_iand, s_ifeq 21, s_goto 67, s_ic (0), s_istore 3, s_iload 3, s_aload 0, s_getR 12 0 54, s_ic (2), s_iald, s_icge 67, s_aload 0, s_iload 2, s_iload 3, s_callV 12 2 Pre_X12_isIn Fn_X12_isIn, s_ifeq 65, s_aload 0, s_iload 3, s_callV 12 1 Pre_X12_aheadOf Fn_X12_aheadOf, s_iload 2, s_ic (1), s_iload 3, s_ishl, s_ic (-1), s_ixor, s_iand, s_ic (-1), s_ixor, s_iand, s_ifne 65, s_aload 0, s_getR 12 33 68, s_iload 2, s_dup2, s_lald, s_aload 0, s_getR 12 33 68, s_iload 2, s_ic (1), s_iload 3, s_ishl, s_ic (-1), s_ixor, s_iand, s_lald, s_ladd, s_last, s_iinc 3 (1), s_goto 23, s_iinc 2 (1), s_goto 2, s_aload 0, s_getR 12 33 68, s_iload 1, s_lald, s_lret]
def pc_X12_ordersOf : Nat → Nat := fun i => [0, 1, 2, 3, 4, 7, 8, 11, 12, 13, 16, 17, 20, 21, 22, 23, 24, 25, 26, 27, 30, 33, 34, 35, 36, 37, 40, 41, 42, 45, 46, 47, 48, 51, 54, 55, 56, 59, 60, 61, 62, 63, 64, 65, 66, 67, 68, 69, 72, 73, 76, 77, 78, 79, 80, 83, 84, 85, 86, 87, 88, 89, 90, 91, 92, 93, 96, 99, 102, 105, 106, 109, 110, 111].getD i 0
def dl_X12_ordersOf : List (Nat × Instr × Nat) := [(0, .iconst 0, 1), (1, .istore_n 2, 1), (2, .iload_n 2, 1), (3, .iload_n 1, 1), (4, .if_icmp .gt 101, 3), (7, .aload_n 0, 1), (8, .getfield 65, 3), (11, .iload_n 2, 1), (12, .iload_n 2, 1), (13, .ifCond .ne 7, 3), (16, .lconst 1, 1), (17, .goto 4, 3), (20, .lconst 0, 1), (21, .lastore, 1), (22, .iload_n 2, 1), (23, .iload_n 1, 1), (24, .iconst (-1), 1), (25, .ixor, 1), (26, .iand, 1), (27, .ifCond .eq 6, 3), (30, .goto 69, 3), (33, .iconst 0, 1), (34, .istore_n 3, 1), (35, .iload_n 3, 1), (36, .aload_n 0, 1), (37, .getfield 7, 3), (40, .iconst 2, 1), (41, .iaload, 1), (42, .if_icmp .ge 57, 3), (45, .aload_n 0, 1), (46, .iload_n 2, 1), (47, .iload_n 3, 1), (48, .invokevirtual 277, 3), (51, .ifCond .eq 42, 3), (54, .aload_n 0, 1), (55, .iload_n 3, 1), (56, .invokevirtual 316, 3), (59, .iload_n 2, 1), (60, .iconst 1, 1), (61, .iload_n 3, 1), (62, .ishl, 1), (63, .iconst (-1), 1), (64, .ixor, 1), (65, .iand, 1), (66, .iconst (-1), 1), (67, .ixor, 1), (68, .iand, 1), (69, .ifCond .ne 24, 3), (72, .aload_n 0, 1), (73, .getfield 65, 3), (76, .iload_n 2, 1), (77, .dup2, 1), (78, .laload, 1), (79, .aload_n 0, 1), (80, .getfield 65, 3), (83, .iload_n 2, 1), (84, .iconst 1, 1), (85, .iload_n 3, 1), (86, .ishl, 1), (87, .iconst (-1), 1), (88, .ixor, 1), (89, .iand, 1), (90, .laload, 1), (91, .ladd, 1), (92, .lastore, 1), (93, .iinc 3 1, 3), (96, .goto (-61), 3), (99, .iinc 2 1, 3), (102, .goto (-100), 3), (105, .aload_n 0, 1), (106, .getfield 65, 3), (109, .iload_n 1, 1), (110, .laload, 1), (111, .lreturn, 1)]
theorem dc_X12_ordersOf : DEC prog_14_method_141_code pc_X12_ordersOf dl_X12_ordersOf := DEC_of (by decide +kernel)
abbrev rm_X12_ordersOf : Room := { frames := 2, cells := 0, slots := 0, locals := 41 }
set_option maxRecDepth 20000 in
theorem sa_X12_ordersOf (l : Launch) : SNDALL l prog_14_method_141_code "GivenUpModel" 4 (some .long) rm_X12_ordersOf P_X12_ordersOf pc_X12_ordersOf := fun p e s m args below meth c cells slots Q D dA ad A RR hC hR => by
  have hM := RTX_room (R := rm_X12_ordersOf) hR
  exact ⟨st_iconst hC (n := 0) (x := 0) (dc_X12_ordersOf 0 (0, .iconst 0, 1) rfl rfl) rfl (by decide),
    st_istore_n hC (n := 1) (k := 2) (dc_X12_ordersOf 1 (1, .istore_n 2, 1) rfl rfl) rfl rfl (by decide),
    st_iload_n hC (n := 2) (k := 2) (dc_X12_ordersOf 2 (2, .iload_n 2, 1) rfl rfl) rfl rfl,
    st_iload_n hC (n := 3) (k := 1) (dc_X12_ordersOf 3 (3, .iload_n 1, 1) rfl rfl) rfl rfl,
    st_icgt hC (n := 4) (dc_X12_ordersOf 4 (4, .if_icmp .gt 101, 3) rfl rfl) rfl (by decide),
    st_aload_n hC (n := 5) (k := 0) (dc_X12_ordersOf 5 (7, .aload_n 0, 1) rfl rfl) rfl rfl,
    st_getR hC (n := 6) (k := 12) (j := 33) (dc_X12_ordersOf 6 (8, .getfield 65, 3) rfl rfl) rfl clf_12 (by decide) rfl (by decide) wd_1585,
    st_iload_n hC (n := 7) (k := 2) (dc_X12_ordersOf 7 (11, .iload_n 2, 1) rfl rfl) rfl rfl,
    st_iload_n hC (n := 8) (k := 2) (dc_X12_ordersOf 8 (12, .iload_n 2, 1) rfl rfl) rfl rfl,
    st_ifne hC (n := 9) (dc_X12_ordersOf 9 (13, .ifCond .ne 7, 3) rfl rfl) rfl (by decide),
    st_lconst hC (n := 10) (x := 1) (dc_X12_ordersOf 10 (16, .lconst 1, 1) rfl rfl) rfl (by decide),
    st_goto hC (n := 11) (dc_X12_ordersOf 11 (17, .goto 4, 3) rfl rfl) (by decide),
    st_lconst hC (n := 12) (x := 0) (dc_X12_ordersOf 12 (20, .lconst 0, 1) rfl rfl) rfl (by decide),
    st_last hC (n := 13) (dc_X12_ordersOf 13 (21, .lastore, 1) rfl rfl) rfl,
    st_iload_n hC (n := 14) (k := 2) (dc_X12_ordersOf 14 (22, .iload_n 2, 1) rfl rfl) rfl rfl,
    st_iload_n hC (n := 15) (k := 1) (dc_X12_ordersOf 15 (23, .iload_n 1, 1) rfl rfl) rfl rfl,
    st_iconst hC (n := 16) (x := (-1)) (dc_X12_ordersOf 16 (24, .iconst (-1), 1) rfl rfl) rfl (by decide),
    st_ixor hC (n := 17) (dc_X12_ordersOf 17 (25, .ixor, 1) rfl rfl) rfl,
    st_iand hC (n := 18) (dc_X12_ordersOf 18 (26, .iand, 1) rfl rfl) rfl,
    st_ifeq hC (n := 19) (dc_X12_ordersOf 19 (27, .ifCond .eq 6, 3) rfl rfl) rfl (by decide),
    st_goto hC (n := 20) (dc_X12_ordersOf 20 (30, .goto 69, 3) rfl rfl) (by decide),
    st_iconst hC (n := 21) (x := 0) (dc_X12_ordersOf 21 (33, .iconst 0, 1) rfl rfl) rfl (by decide),
    st_istore_n hC (n := 22) (k := 3) (dc_X12_ordersOf 22 (34, .istore_n 3, 1) rfl rfl) rfl rfl (by decide),
    st_iload_n hC (n := 23) (k := 3) (dc_X12_ordersOf 23 (35, .iload_n 3, 1) rfl rfl) rfl rfl,
    st_aload_n hC (n := 24) (k := 0) (dc_X12_ordersOf 24 (36, .aload_n 0, 1) rfl rfl) rfl rfl,
    st_getR hC (n := 25) (k := 12) (j := 0) (dc_X12_ordersOf 25 (37, .getfield 7, 3) rfl rfl) rfl clf_12 (by decide) rfl (by decide) wd_1552,
    st_iconst hC (n := 26) (x := 2) (dc_X12_ordersOf 26 (40, .iconst 2, 1) rfl rfl) rfl (by decide),
    st_iald hC (n := 27) (dc_X12_ordersOf 27 (41, .iaload, 1) rfl rfl) rfl,
    st_icge hC (n := 28) (dc_X12_ordersOf 28 (42, .if_icmp .ge 57, 3) rfl rfl) rfl (by decide),
    st_aload_n hC (n := 29) (k := 0) (dc_X12_ordersOf 29 (45, .aload_n 0, 1) rfl rfl) rfl rfl,
    st_iload_n hC (n := 30) (k := 2) (dc_X12_ordersOf 30 (46, .iload_n 2, 1) rfl rfl) rfl rfl,
    st_iload_n hC (n := 31) (k := 3) (dc_X12_ordersOf 31 (47, .iload_n 3, 1) rfl rfl) rfl rfl,
    st_callV hC (n := 32) (k := 12) (na := 2) (con_X12_isIn l) (dc_X12_ordersOf 32 (48, .invokevirtual 277, 3) rfl rfl) rfl wd_1907 wd_160 (by decide) ⟨rfl, rfl, by decide, by decide⟩ hM wd_1904 wd_1906 wd_89 clf_12,
    st_ifeq hC (n := 33) (dc_X12_ordersOf 33 (51, .ifCond .eq 42, 3) rfl rfl) rfl (by decide),
    st_aload_n hC (n := 34) (k := 0) (dc_X12_ordersOf 34 (54, .aload_n 0, 1) rfl rfl) rfl rfl,
    st_iload_n hC (n := 35) (k := 3) (dc_X12_ordersOf 35 (55, .iload_n 3, 1) rfl rfl) rfl rfl,
    st_callV hC (n := 36) (k := 12) (na := 1) (con_X12_aheadOf l) (dc_X12_ordersOf 36 (56, .invokevirtual 316, 3) rfl rfl) rfl wd_1942 wd_160 (by decide) ⟨rfl, rfl, by decide, by decide⟩ hM wd_1939 wd_1941 wd_95 clf_12,
    st_iload_n hC (n := 37) (k := 2) (dc_X12_ordersOf 37 (59, .iload_n 2, 1) rfl rfl) rfl rfl,
    st_iconst hC (n := 38) (x := 1) (dc_X12_ordersOf 38 (60, .iconst 1, 1) rfl rfl) rfl (by decide),
    st_iload_n hC (n := 39) (k := 3) (dc_X12_ordersOf 39 (61, .iload_n 3, 1) rfl rfl) rfl rfl,
    st_ishl hC (n := 40) (dc_X12_ordersOf 40 (62, .ishl, 1) rfl rfl) rfl,
    st_iconst hC (n := 41) (x := (-1)) (dc_X12_ordersOf 41 (63, .iconst (-1), 1) rfl rfl) rfl (by decide),
    st_ixor hC (n := 42) (dc_X12_ordersOf 42 (64, .ixor, 1) rfl rfl) rfl,
    st_iand hC (n := 43) (dc_X12_ordersOf 43 (65, .iand, 1) rfl rfl) rfl,
    st_iconst hC (n := 44) (x := (-1)) (dc_X12_ordersOf 44 (66, .iconst (-1), 1) rfl rfl) rfl (by decide),
    st_ixor hC (n := 45) (dc_X12_ordersOf 45 (67, .ixor, 1) rfl rfl) rfl,
    st_iand hC (n := 46) (dc_X12_ordersOf 46 (68, .iand, 1) rfl rfl) rfl,
    st_ifne hC (n := 47) (dc_X12_ordersOf 47 (69, .ifCond .ne 24, 3) rfl rfl) rfl (by decide),
    st_aload_n hC (n := 48) (k := 0) (dc_X12_ordersOf 48 (72, .aload_n 0, 1) rfl rfl) rfl rfl,
    st_getR hC (n := 49) (k := 12) (j := 33) (dc_X12_ordersOf 49 (73, .getfield 65, 3) rfl rfl) rfl clf_12 (by decide) rfl (by decide) wd_1585,
    st_iload_n hC (n := 50) (k := 2) (dc_X12_ordersOf 50 (76, .iload_n 2, 1) rfl rfl) rfl rfl,
    st_dup2 hC (n := 51) (dc_X12_ordersOf 51 (77, .dup2, 1) rfl rfl) rfl,
    st_lald hC (n := 52) (dc_X12_ordersOf 52 (78, .laload, 1) rfl rfl) rfl,
    st_aload_n hC (n := 53) (k := 0) (dc_X12_ordersOf 53 (79, .aload_n 0, 1) rfl rfl) rfl rfl,
    st_getR hC (n := 54) (k := 12) (j := 33) (dc_X12_ordersOf 54 (80, .getfield 65, 3) rfl rfl) rfl clf_12 (by decide) rfl (by decide) wd_1585,
    st_iload_n hC (n := 55) (k := 2) (dc_X12_ordersOf 55 (83, .iload_n 2, 1) rfl rfl) rfl rfl,
    st_iconst hC (n := 56) (x := 1) (dc_X12_ordersOf 56 (84, .iconst 1, 1) rfl rfl) rfl (by decide),
    st_iload_n hC (n := 57) (k := 3) (dc_X12_ordersOf 57 (85, .iload_n 3, 1) rfl rfl) rfl rfl,
    st_ishl hC (n := 58) (dc_X12_ordersOf 58 (86, .ishl, 1) rfl rfl) rfl,
    st_iconst hC (n := 59) (x := (-1)) (dc_X12_ordersOf 59 (87, .iconst (-1), 1) rfl rfl) rfl (by decide),
    st_ixor hC (n := 60) (dc_X12_ordersOf 60 (88, .ixor, 1) rfl rfl) rfl,
    st_iand hC (n := 61) (dc_X12_ordersOf 61 (89, .iand, 1) rfl rfl) rfl,
    st_lald hC (n := 62) (dc_X12_ordersOf 62 (90, .laload, 1) rfl rfl) rfl,
    st_ladd hC (n := 63) (dc_X12_ordersOf 63 (91, .ladd, 1) rfl rfl) rfl,
    st_last hC (n := 64) (dc_X12_ordersOf 64 (92, .lastore, 1) rfl rfl) rfl,
    st_iinc hC (n := 65) (x := 1) (dc_X12_ordersOf 65 (93, .iinc 3 1, 3) rfl rfl) rfl (by decide) (by decide),
    st_goto hC (n := 66) (dc_X12_ordersOf 66 (96, .goto (-61), 3) rfl rfl) (by decide),
    st_iinc hC (n := 67) (x := 1) (dc_X12_ordersOf 67 (99, .iinc 2 1, 3) rfl rfl) rfl (by decide) (by decide),
    st_goto hC (n := 68) (dc_X12_ordersOf 68 (102, .goto (-100), 3) rfl rfl) (by decide),
    st_aload_n hC (n := 69) (k := 0) (dc_X12_ordersOf 69 (105, .aload_n 0, 1) rfl rfl) rfl rfl,
    st_getR hC (n := 70) (k := 12) (j := 33) (dc_X12_ordersOf 70 (106, .getfield 65, 3) rfl rfl) rfl clf_12 (by decide) rfl (by decide) wd_1585,
    st_iload_n hC (n := 71) (k := 1) (dc_X12_ordersOf 71 (109, .iload_n 1, 1) rfl rfl) rfl rfl,
    st_lald hC (n := 72) (dc_X12_ordersOf 72 (110, .laload, 1) rfl rfl) rfl,
    st_lret hC (n := 73) hR (dc_X12_ordersOf 73 (111, .lreturn, 1) rfl rfl), trivial⟩
set_option maxRecDepth 8000 in
theorem vc_X12_ordersOf : VC P_X12_ordersOf 4 Pre_X12_ordersOf Fn_X12_ordersOf := by
  rintro mm as hom hoa ⟨⟨ns, nm, n, hV⟩, W, hW, rfl⟩
  refine ⟨Nat.le_of_ble_eq_true rfl, fun X h => ?_⟩
  have hn : mm.1 54 0 2 = nI n := hV.2.2.1.1
  have hn12 : n ≤ 12 := hV.2.2.1.2
  have eW : (nI W).toNatClampNeg = W := nI_clamp (by omega)
  have eF : Fn_X12_ordersOf mm [vR 12 0, vI (nI W)] = (some (vL (wo (mm.1 54 0) n W)), mRowL mm 68 0 (woR (mm.2.1 68 0) (mm.1 54 0) n W (W + 1))) := by
    show (some (vL (wo (mm.1 54 0) (mm.1 54 0 2).toNatClampNeg (nI W).toNatClampNeg)), woM mm (nI W).toNatClampNeg) = _
    unfold woM
    rw [eW, hn, nI_clamp (show n < 2 ^ 31 by omega)]
  rw [eF] at h
  have hWW : ndn W W = 0 := (ndn_0 (by omega)).mpr (fun j hj => hj)
  have loop : ∀ k, k ≤ W + 1 → ∀ L3, X 2 [some (vR 12 0), some (vI (nI W)), some (vI (nI k)), L3] [] (mRowL mm 68 0 (woR (mm.2.1 68 0) (mm.1 54 0) n W k)) := by
    refine up_ind (W + 1) ?_ (fun k hk ih => ?_)
    · intro L3
      have eR : woR (mm.2.1 68 0) (mm.1 54 0) n W (W + 1) W = wo (mm.1 54 0) n W := by
        unfold woR
        rw [if_pos (by omega), if_pos hWW]
      refine h (fun _ => false) 3000 2 _ _ _ ?_
      refine br_t ((nI_ltI (by omega) (by omega)).mpr (by omega)) ?_
      refine And.intro (inb_o 4096 rfl rfl rfl (by omega)) ?_
      show ((some (vL (woR (mm.2.1 68 0) (mm.1 54 0) n W (W + 1) (nI W).toNatClampNeg)) : Option MV), mRowL mm 68 0 (woR (mm.2.1 68 0) (mm.1 54 0) n W (W + 1))) = _
      rw [eW, eR]
    · intro L3
      have ek : (nI k).toNatClampNeg = k := nI_clamp (by omega)
      have fin : ∀ v, v = (if ndn k W = 0 then wo (mm.1 54 0) n k else 0) → ∀ L3, X 67 [some (vR 12 0), some (vI (nI W)), some (vI (nI k)), L3] [] (mRowL mm 68 0 (vp_updL (woR (mm.2.1 68 0) (mm.1 54 0) n W k) k v)) := by
        intro v hv L3
        rw [woR_up hv]
        have := ih L3
        show X 67 [some (vR 12 0), some (vI (nI W)), some (vI (nI k)), L3] [] (mRowL mm 68 0 (woR (mm.2.1 68 0) (mm.1 54 0) n W (k + 1)))
        refine h (fun i => Nat.beq i 2) 3000 67 _ _ _ ?_
        show X 2 [some (vR 12 0), some (vI (nI W)), some (vI ((nI k) + 1)), L3] [] (mRowL mm 68 0 (woR (mm.2.1 68 0) (mm.1 54 0) n W (k + 1)))
        rw [nI_1]
        exact this
      have inner : ndn k W = 0 → ∀ t, t ≤ n → X 23 [some (vR 12 0), some (vI (nI W)), some (vI (nI k)), some (vI (nI t))] [] (mRowL mm 68 0 (vp_updL (woR (mm.2.1 68 0) (mm.1 54 0) n W k) k (smF (if k = 0 then 1 else 0) (wo (mm.1 54 0) n) (mm.1 54 0) k t))) := by
        intro hs
        refine up_ind n ?_ (fun t ht iht => ?_)
        · have fi := fin (smF (if k = 0 then 1 else 0) (wo (mm.1 54 0) n) (mm.1 54 0) k n) (by rw [if_pos hs, ← wo_eq]) (some (vI (nI n)))
          show X 23 [some (vR 12 0), some (vI (nI W)), some (vI (nI k)), some (vI (nI n))] [] (mRowL mm 68 0 (vp_updL (woR (mm.2.1 68 0) (mm.1 54 0) n W k) k (smF (if k = 0 then 1 else 0) (wo (mm.1 54 0) n) (mm.1 54 0) k n)))
          refine h (fun i => Nat.beq i 67) 3000 23 _ _ _ ?_
          refine And.intro rfl ?_
          refine br_t (by show mm.1 54 0 2 ≤ _; ((try simp (disch := omega) only [hn, li, pk_mul, nI_add, nI_clamp, nI_leI, nI_ltI, nI_eq, bI_0, bI_n0, Decidable.not_not, gu_m1]); first | done | omega | assumption)) ?_
          show X 67 [some (vR 12 0), some (vI (nI W)), some (vI (nI k)), some (vI (nI n))] [] (mRowL mm 68 0 (vp_updL (woR (mm.2.1 68 0) (mm.1 54 0) n W k) k (smF (if k = 0 then 1 else 0) (wo (mm.1 54 0) n) (mm.1 54 0) k n)))
          exact fi
        · have et : (nI t).toNatClampNeg = t := nI_clamp (by omega)
          have st : ∀ v, v = smF (if k = 0 then 1 else 0) (wo (mm.1 54 0) n) (mm.1 54 0) k (t + 1) → X 65 [some (vR 12 0), some (vI (nI W)), some (vI (nI k)), some (vI (nI t))] [] (mRowL mm 68 0 (vp_updL (woR (mm.2.1 68 0) (mm.1 54 0) n W k) k v)) := by
            intro v ev
            subst ev
            show X 65 [some (vR 12 0), some (vI (nI W)), some (vI (nI k)), some (vI (nI t))] [] (mRowL mm 68 0 (vp_updL (woR (mm.2.1 68 0) (mm.1 54 0) n W k) k (smF (if k = 0 then 1 else 0) (wo (mm.1 54 0) n) (mm.1 54 0) k (t + 1))))
            refine h (fun i => Nat.beq i 23) 3000 65 _ _ _ ?_
            show X 23 [some (vR 12 0), some (vI (nI W)), some (vI (nI k)), some (vI ((nI t) + 1))] [] (mRowL mm 68 0 (vp_updL (woR (mm.2.1 68 0) (mm.1 54 0) n W k) k (smF (if k = 0 then 1 else 0) (wo (mm.1 54 0) n) (mm.1 54 0) k (t + 1))))
            rw [nI_1]
            exact iht
          have mid : k.testBit t = true → X 34 [some (vR 12 0), some (vI (nI W)), some (vI (nI k)), some (vI (nI t))] [] (mRowL mm 68 0 (vp_updL (woR (mm.2.1 68 0) (mm.1 54 0) n W k) k (smF (if k = 0 then 1 else 0) (wo (mm.1 54 0) n) (mm.1 54 0) k t))) := by
            intro hb
            have hlt : k ^^^ 2 ^ t < k := xor_lt hb
            have eX : nI k &&& (1 <<< (nI t &&& 31) ^^^ (-1)) = nI (k ^^^ 2 ^ t) := by rw [nIbit (by omega), nI_ndn, ndn_p2 (by omega) hb]
            have hss : ndn (k ^^^ 2 ^ t) W = 0 := by
              refine (ndn_0 (by omega)).mpr (fun j hj => (ndn_0 (by omega)).mp hs j ?_)
              rw [Nat.testBit_xor, Nat.testBit_two_pow] at hj
              by_cases hjt : t = j
              · subst hjt; exact hb
              · simpa [hjt] using hj
            have eY : vp_updL (woR (mm.2.1 68 0) (mm.1 54 0) n W k) k (smF (if k = 0 then 1 else 0) (wo (mm.1 54 0) n) (mm.1 54 0) k t) (k ^^^ 2 ^ t) = wo (mm.1 54 0) n (k ^^^ 2 ^ t) := by
              rw [pk_uLn (by omega)]
              unfold woR
              rw [if_pos (by omega), if_pos hss]
            have eZ : ∀ v, mRowL (mRowL mm 68 0 (vp_updL (woR (mm.2.1 68 0) (mm.1 54 0) n W k) k (smF (if k = 0 then 1 else 0) (wo (mm.1 54 0) n) (mm.1 54 0) k t))) 68 0 (vp_updL (vp_updL (woR (mm.2.1 68 0) (mm.1 54 0) n W k) k (smF (if k = 0 then 1 else 0) (wo (mm.1 54 0) n) (mm.1 54 0) k t)) k v) = mRowL mm 68 0 (vp_updL (woR (mm.2.1 68 0) (mm.1 54 0) n W k) k v) := fun v => by rw [mRowL2, uLu]
            have eS : vp_updL (woR (mm.2.1 68 0) (mm.1 54 0) n W k) k (smF (if k = 0 then 1 else 0) (wo (mm.1 54 0) n) (mm.1 54 0) k t) k = smF (if k = 0 then 1 else 0) (wo (mm.1 54 0) n) (mm.1 54 0) k t := pk_uLs
            show X 34 [some (vR 12 0), some (vI (nI W)), some (vI (nI k)), some (vI (nI t))] [] (mRowL mm 68 0 (vp_updL (woR (mm.2.1 68 0) (mm.1 54 0) n W k) k (smF (if k = 0 then 1 else 0) (wo (mm.1 54 0) n) (mm.1 54 0) k t)))
            refine h (fun i => Nat.beq i 65) 3000 34 _ _ _ ?_
            refine And.intro ⟨t, by omega, rfl⟩ ?_
            refine brn_c (fun b47 => ?_) (fun b47 => ?_)
            · -- 47: ((mRowL mm 68 0 (vp_updL (woR (mm.2.1 68 0) (mm.1 54 0) n W k) k (smF (if k = 0 then 1 else 0) (wo (mm.1 54 0) n) (mm.1 54 0) k t))).1 54 0 (46 + 3 * (nI t).toNatClampNeg)) &&& (((nI k) &&& ((1 <<< ((nI t) &&& 31)) ^^^ (-1))) ^^^ (-1)) = 0 taken
              replace b47 : ¬ (((mRowL mm 68 0 (vp_updL (woR (mm.2.1 68 0) (mm.1 54 0) n W k) k (smF (if k = 0 then 1 else 0) (wo (mm.1 54 0) n) (mm.1 54 0) k t))).1 54 0 (46 + 3 * (nI t).toNatClampNeg)) &&& (((nI k) &&& ((1 <<< ((nI t) &&& 31)) ^^^ (-1))) ^^^ (-1)) = 0) := b47
              replace b47 : ¬ mm.1 54 0 (46 + 3 * (nI t).toNatClampNeg) &&& ((nI k &&& (1 <<< (nI t &&& 31) ^^^ (-1))) ^^^ (-1)) = 0 := b47
              rw [et, eX] at b47
              show X 65 [some (vR 12 0), some (vI (nI W)), some (vI (nI k)), some (vI (nI t))] [] (mRowL mm 68 0 (vp_updL (woR (mm.2.1 68 0) (mm.1 54 0) n W k) k (smF (if k = 0 then 1 else 0) (wo (mm.1 54 0) n) (mm.1 54 0) k t)))
              refine st _ ?_
              exact (smF_n (fun z => b47 z.2)).symm
            · -- 47: ((mRowL mm 68 0 (vp_updL (woR (mm.2.1 68 0) (mm.1 54 0) n W k) k (smF (if k = 0 then 1 else 0) (wo (mm.1 54 0) n) (mm.1 54 0) k t))).1 54 0 (46 + 3 * (nI t).toNatClampNeg)) &&& (((nI k) &&& ((1 <<< ((nI t) &&& 31)) ^^^ (-1))) ^^^ (-1)) = 0 on
              replace b47 : ((mRowL mm 68 0 (vp_updL (woR (mm.2.1 68 0) (mm.1 54 0) n W k) k (smF (if k = 0 then 1 else 0) (wo (mm.1 54 0) n) (mm.1 54 0) k t))).1 54 0 (46 + 3 * (nI t).toNatClampNeg)) &&& (((nI k) &&& ((1 <<< ((nI t) &&& 31)) ^^^ (-1))) ^^^ (-1)) = 0 := b47
              replace b47 : mm.1 54 0 (46 + 3 * (nI t).toNatClampNeg) &&& ((nI k &&& (1 <<< (nI t &&& 31) ^^^ (-1))) ^^^ (-1)) = 0 := b47
              rw [et, eX] at b47
              refine And.intro (inb_o 4096 rfl rfl rfl (by omega)) ?_
              refine And.intro (inb_o 4096 rfl rfl eX (by omega)) ?_
              refine And.intro (inb_o 4096 rfl rfl rfl (by omega)) ?_
              show X 65 [some (vR 12 0), some (vI (nI W)), some (vI (nI k)), some (vI (nI t))] [] (mRowL (mRowL mm 68 0 (vp_updL (woR (mm.2.1 68 0) (mm.1 54 0) n W k) k (smF (if k = 0 then 1 else 0) (wo (mm.1 54 0) n) (mm.1 54 0) k t))) 68 0 (vp_updL ((mRowL mm 68 0 (vp_updL (woR (mm.2.1 68 0) (mm.1 54 0) n W k) k (smF (if k = 0 then 1 else 0) (wo (mm.1 54 0) n) (mm.1 54 0) k t))).2.1 68 0) (nI k).toNatClampNeg (((mRowL mm 68 0 (vp_updL (woR (mm.2.1 68 0) (mm.1 54 0) n W k) k (smF (if k = 0 then 1 else 0) (wo (mm.1 54 0) n) (mm.1 54 0) k t))).2.1 68 0 (nI k).toNatClampNeg) + ((mRowL mm 68 0 (vp_updL (woR (mm.2.1 68 0) (mm.1 54 0) n W k) k (smF (if k = 0 then 1 else 0) (wo (mm.1 54 0) n) (mm.1 54 0) k t))).2.1 68 0 ((nI k) &&& ((1 <<< ((nI t) &&& 31)) ^^^ (-1))).toNatClampNeg))))
              show X 65 _ _ (mRowL (mRowL mm 68 0 (vp_updL (woR (mm.2.1 68 0) (mm.1 54 0) n W k) k (smF (if k = 0 then 1 else 0) (wo (mm.1 54 0) n) (mm.1 54 0) k t))) 68 0 (vp_updL (vp_updL (woR (mm.2.1 68 0) (mm.1 54 0) n W k) k (smF (if k = 0 then 1 else 0) (wo (mm.1 54 0) n) (mm.1 54 0) k t)) (nI k).toNatClampNeg (vp_updL (woR (mm.2.1 68 0) (mm.1 54 0) n W k) k (smF (if k = 0 then 1 else 0) (wo (mm.1 54 0) n) (mm.1 54 0) k t) (nI k).toNatClampNeg + vp_updL (woR (mm.2.1 68 0) (mm.1 54 0) n W k) k (smF (if k = 0 then 1 else 0) (wo (mm.1 54 0) n) (mm.1 54 0) k t) (nI k &&& (1 <<< (nI t &&& 31) ^^^ (-1))).toNatClampNeg)))
              rw [ek, eZ, eX, nI_clamp (show k ^^^ 2 ^ t < 2 ^ 31 by omega), eY, eS] 
              refine st _ ?_ 
              exact (smF_y ⟨hb, b47⟩).symm
          show X 23 [some (vR 12 0), some (vI (nI W)), some (vI (nI k)), some (vI (nI t))] [] (mRowL mm 68 0 (vp_updL (woR (mm.2.1 68 0) (mm.1 54 0) n W k) k (smF (if k = 0 then 1 else 0) (wo (mm.1 54 0) n) (mm.1 54 0) k t)))
          refine h (fun i => Nat.beq i 34 || Nat.beq i 65) 3000 23 _ _ _ ?_
          refine And.intro rfl ?_
          refine br_f (by show ¬ mm.1 54 0 2 ≤ _; ((try simp (disch := omega) only [hn, li, pk_mul, nI_add, nI_clamp, nI_leI, nI_ltI, nI_eq, bI_0, bI_n0, Decidable.not_not, gu_m1]); first | done | omega | assumption)) ?_
          refine And.intro ⟨_, _, rfl⟩ ?_
          refine br_c (fun b33 => ?_) (fun b33 => ?_)
          · -- 33: bI (inS (nI k) (nI t)) = 0 taken
            replace b33 : ¬ (inS (nI k) (nI t)) := bI_0.mp b33
            replace b33 := fun z => b33 ((inS_nI (s := k) (j := t) (by omega) (by omega)).mpr z)
            show X 65 [some (vR 12 0), some (vI (nI W)), some (vI (nI k)), some (vI (nI t))] [] (mRowL mm 68 0 (vp_updL (woR (mm.2.1 68 0) (mm.1 54 0) n W k) k (smF (if k = 0 then 1 else 0) (wo (mm.1 54 0) n) (mm.1 54 0) k t)))
            refine st _ ?_
            exact (smF_n (fun z => b33 z.1)).symm
          · -- 33: bI (inS (nI k) (nI t)) = 0 on
            replace b33 : inS (nI k) (nI t) := bI_n0.mp b33
            replace b33 := (inS_nI (s := k) (j := t) (by omega) (by omega)).mp b33
            show X 34 [some (vR 12 0), some (vI (nI W)), some (vI (nI k)), some (vI (nI t))] [] (mRowL mm 68 0 (vp_updL (woR (mm.2.1 68 0) (mm.1 54 0) n W k) k (smF (if k = 0 then 1 else 0) (wo (mm.1 54 0) n) (mm.1 54 0) k t)))
            exact mid b33
      have at14 : ∀ v, v = (if k = 0 then 1 else 0) → ∀ L3, X 13 [some (vR 12 0), some (vI (nI W)), some (vI (nI k)), L3] [vL (v), vI (nI k), vR 68 0] (mRowL mm 68 0 (woR (mm.2.1 68 0) (mm.1 54 0) n W k)) := by
        intro v hv L3
        have eN : nI k &&& (nI W ^^^ (-1)) = nI (ndn k W) := nI_ndn k W
        have eZ : nI k &&& (nI W ^^^ (-1)) = 0 ↔ ndn k W = 0 := by rw [eN]; exact nI_z (Nat.lt_of_le_of_lt (ndn_le _ _) (by omega))
        suffices z : X 14 [some (vR 12 0), some (vI (nI W)), some (vI (nI k)), L3] [] (mRowL mm 68 0 (vp_updL (woR (mm.2.1 68 0) (mm.1 54 0) n W k) k v)) by
          show X 13 [some (vR 12 0), some (vI (nI W)), some (vI (nI k)), L3] [vL v, vI (nI k), vR 68 0] (mRowL mm 68 0 (woR (mm.2.1 68 0) (mm.1 54 0) n W k))
          refine h (fun i => Nat.beq i 14) 3000 13 _ _ _ ?_
          refine And.intro (inb_o 4096 rfl rfl rfl (by omega)) ?_
          show X 14 [some (vR 12 0), some (vI (nI W)), some (vI (nI k)), L3] [] (mRowL (mRowL mm 68 0 (woR (mm.2.1 68 0) (mm.1 54 0) n W k)) 68 0 (vp_updL ((mRowL mm 68 0 (woR (mm.2.1 68 0) (mm.1 54 0) n W k)).2.1 68 0) (nI k).toNatClampNeg v))
          rw [ek]
          show X 14 _ _ (mRowL (mRowL mm 68 0 (woR (mm.2.1 68 0) (mm.1 54 0) n W k)) 68 0 (vp_updL (woR (mm.2.1 68 0) (mm.1 54 0) n W k) k v)) 
          rw [mRowL2] 
          exact z
        show X 14 [some (vR 12 0), some (vI (nI W)), some (vI (nI k)), L3] [] (mRowL mm 68 0 (vp_updL (woR (mm.2.1 68 0) (mm.1 54 0) n W k) k v))
        refine h (fun i => Nat.beq i 23 || Nat.beq i 67) 3000 14 _ _ _ ?_
        refine br_c (fun b19 => ?_) (fun b19 => ?_)
        · -- 19: (nI k) &&& ((nI W) ^^^ (-1)) = 0 taken
          replace b19 : (nI k) &&& ((nI W) ^^^ (-1)) = 0 := b19
          rw [eZ] at b19
          show X 23 [some (vR 12 0), some (vI (nI W)), some (vI (nI k)), some (vI 0)] [] (mRowL mm 68 0 (vp_updL (woR (mm.2.1 68 0) (mm.1 54 0) n W k) k v))
          rw [hv]
          exact inner b19 0 (by omega)
        · -- 19: (nI k) &&& ((nI W) ^^^ (-1)) = 0 on
          replace b19 : ¬ ((nI k) &&& ((nI W) ^^^ (-1)) = 0) := b19
          rw [eZ] at b19
          show X 67 [some (vR 12 0), some (vI (nI W)), some (vI (nI k)), L3] [] (mRowL mm 68 0 (vp_updL (woR (mm.2.1 68 0) (mm.1 54 0) n W k) k v))
          refine fin _ ?_ _
          rw [hv, if_neg b19, if_neg (fun z => b19 (by rw [z]; exact Nat.zero_and _))]
      show X 2 [some (vR 12 0), some (vI (nI W)), some (vI (nI k)), L3] [] (mRowL mm 68 0 (woR (mm.2.1 68 0) (mm.1 54 0) n W k))
      refine h (fun i => Nat.beq i 13) 3000 2 _ _ _ ?_
      refine br_f (fun z => by rw [nI_ltI (by omega) (by omega)] at z; omega) ?_
      refine brn_c (fun b9 => ?_) (fun b9 => ?_)
      · -- 9: nI k = 0 taken
        replace b9 : ¬ (nI k = 0) := b9
        show X 13 [some (vR 12 0), some (vI (nI W)), some (vI (nI k)), L3] [vL 0, vI (nI k), vR 68 0] (mRowL mm 68 0 (woR (mm.2.1 68 0) (mm.1 54 0) n W k))
        exact at14 _ (if_neg (fun z => b9 (by rw [z]; rfl))).symm _
      · -- 9: nI k = 0 on
        replace b9 : nI k = 0 := b9
        show X 13 [some (vR 12 0), some (vI (nI W)), some (vI (nI k)), L3] [vL 1, vI (nI k), vR 68 0] (mRowL mm 68 0 (woR (mm.2.1 68 0) (mm.1 54 0) n W k))
        exact at14 _ (if_pos ((nI_z (by omega)).mp b9)).symm _
  have l0 := loop 0 (by omega) none
  rw [woR_0, mRowL_self] at l0
  show X 0 [some (vR 12 0), some (vI (nI W)), none, none] [] mm
  refine h (fun i => Nat.beq i 2) 3000 0 _ _ _ ?_
  show X 2 [some (vR 12 0), some (vI (nI W)), some (vI 0), none] [] mm
  exact l0
theorem con_X12_ordersOf (l : Launch) : CON l y_X12_ordersOf prog_14_method_141_code 4 (some .long) rm_X12_ordersOf Pre_X12_ordersOf Fn_X12_ordersOf := CON_of (by decide) rfl rfl (sa_X12_ordersOf l) vc_X12_ordersOf
def lvM (m : MM) (W : Nat) : Option MV × MM := (some (vL (wo (m.1 54 0) (m.1 54 0 2).toNatClampNeg W)), stM (woM m W) 0)
def lrM (m : MM) : Option MV × MM := (some (vL (-1 : Int32).toInt64), stM m 1)

def Pre_X12_orders : PreT := fun m as => VM m ∧ (∀ s : Int32, ∃ W, W < 4096 ∧ thA (m.1 54 0) s &&& m.1 54 0 8 = nI W) ∧ ∃ x : Int32, as = [vR 12 0, vI x]
def Fn_X12_orders : FnT := fun m as => match as with
  | [_, Sum.inl x] => if suP (m.1 54 0) x then lvM m (thA (m.1 54 0) x &&& m.1 54 0 8).toNatClampNeg else lrM m
  | _ => (none, m)
abbrev y_X12_orders : MethodName := ⟨"GivenUpModel", "orders", "(I)J"⟩
def P_X12_orders : List StpT := [s_aload 0, s_iload 1, s_callV 12 1 Pre_X12_isSuitor Fn_X12_isSuitor, s_ifeq 17, s_aload 0, s_aload 0, s_aload 0, s_iload 1, s_callV 12 1 Pre_X12_thingsOf Fn_X12_thingsOf, s_aload 0, s_getR 12 0 54, s_ic (8), s_iald, s_iand, s_callV 12 1 Pre_X12_ordersOf Fn_X12_ordersOf, s_callV 12 1 Pre_X12_givesLong Fn_X12_givesLong, s_goto 21, s_aload 0, s_ic (1), s_callV 12 1 Pre_X12_refuse Fn_X12_refuse, s_i2l, s_lret]
def pc_X12_orders : Nat → Nat := fun i => [0, 1, 2, 5, 8, 9, 10, 11, 12, 15, 16, 19, 21, 22, 23, 26, 29, 32, 33, 34, 37, 38].getD i 0
def dl_X12_orders : List (Nat × Instr × Nat) := [(0, .aload_n 0, 1), (1, .iload_n 1, 1), (2, .invokevirtual 265, 3), (5, .ifCond .eq 27, 3), (8, .aload_n 0, 1), (9, .aload_n 0, 1), (10, .aload_n 0, 1), (11, .iload_n 1, 1), (12, .invokevirtual 280, 3), (15, .aload_n 0, 1), (16, .getfield 7, 3), (19, .bipush 8, 2), (21, .iaload, 1), (22, .iand, 1), (23, .invokevirtual 437, 3), (26, .invokevirtual 441, 3), (29, .goto 9, 3), (32, .aload_n 0, 1), (33, .iconst 1, 1), (34, .invokevirtual 87, 3), (37, .i2l, 1), (38, .lreturn, 1)]
theorem dc_X12_orders : DEC prog_14_method_142_code pc_X12_orders dl_X12_orders := DEC_of (by decide +kernel)
abbrev rm_X12_orders : Room := { frames := 3, cells := 0, slots := 0, locals := 64 }
set_option maxRecDepth 20000 in
theorem sa_X12_orders (l : Launch) : SNDALL l prog_14_method_142_code "GivenUpModel" 2 (some .long) rm_X12_orders P_X12_orders pc_X12_orders := fun p e s m args below meth c cells slots Q D dA ad A RR hC hR => by
  have hM := RTX_room (R := rm_X12_orders) hR
  exact ⟨st_aload_n hC (n := 0) (k := 0) (dc_X12_orders 0 (0, .aload_n 0, 1) rfl rfl) rfl rfl,
    st_iload_n hC (n := 1) (k := 1) (dc_X12_orders 1 (1, .iload_n 1, 1) rfl rfl) rfl rfl,
    st_callV hC (n := 2) (k := 12) (na := 1) (con_X12_isSuitor l) (dc_X12_orders 2 (2, .invokevirtual 265, 3) rfl rfl) rfl wd_1885 wd_160 (by decide) ⟨rfl, rfl, by decide, by decide⟩ hM wd_1882 wd_1884 wd_85 clf_12,
    st_ifeq hC (n := 3) (dc_X12_orders 3 (5, .ifCond .eq 27, 3) rfl rfl) rfl (by decide),
    st_aload_n hC (n := 4) (k := 0) (dc_X12_orders 4 (8, .aload_n 0, 1) rfl rfl) rfl rfl,
    st_aload_n hC (n := 5) (k := 0) (dc_X12_orders 5 (9, .aload_n 0, 1) rfl rfl) rfl rfl,
    st_aload_n hC (n := 6) (k := 0) (dc_X12_orders 6 (10, .aload_n 0, 1) rfl rfl) rfl rfl,
    st_iload_n hC (n := 7) (k := 1) (dc_X12_orders 7 (11, .iload_n 1, 1) rfl rfl) rfl rfl,
    st_callV hC (n := 8) (k := 12) (na := 1) (con_X12_thingsOf l) (dc_X12_orders 8 (12, .invokevirtual 280, 3) rfl rfl) rfl wd_1892 wd_160 (by decide) ⟨rfl, rfl, by decide, by decide⟩ hM wd_1889 wd_1891 wd_86 clf_12,
    st_aload_n hC (n := 9) (k := 0) (dc_X12_orders 9 (15, .aload_n 0, 1) rfl rfl) rfl rfl,
    st_getR hC (n := 10) (k := 12) (j := 0) (dc_X12_orders 10 (16, .getfield 7, 3) rfl rfl) rfl clf_12 (by decide) rfl (by decide) wd_1552,
    st_bipush hC (n := 11) (x := 8) (dc_X12_orders 11 (19, .bipush 8, 2) rfl rfl) rfl (by decide),
    st_iald hC (n := 12) (dc_X12_orders 12 (21, .iaload, 1) rfl rfl) rfl,
    st_iand hC (n := 13) (dc_X12_orders 13 (22, .iand, 1) rfl rfl) rfl,
    st_callV hC (n := 14) (k := 12) (na := 1) (con_X12_ordersOf l) (dc_X12_orders 14 (23, .invokevirtual 437, 3) rfl rfl) rfl wd_2243 wd_160 (by decide) ⟨rfl, rfl, by decide, by decide⟩ hM wd_2240 wd_2242 wd_131 clf_12,
    st_callV hC (n := 15) (k := 12) (na := 1) (con_X12_givesLong l) (dc_X12_orders 15 (26, .invokevirtual 441, 3) rfl rfl) rfl wd_2247 wd_160 (by decide) ⟨rfl, rfl, by decide, by decide⟩ hM wd_2244 wd_2246 wd_132 clf_12,
    st_goto hC (n := 16) (dc_X12_orders 16 (29, .goto 9, 3) rfl rfl) (by decide),
    st_aload_n hC (n := 17) (k := 0) (dc_X12_orders 17 (32, .aload_n 0, 1) rfl rfl) rfl rfl,
    st_iconst hC (n := 18) (x := 1) (dc_X12_orders 18 (33, .iconst 1, 1) rfl rfl) rfl (by decide),
    st_callV hC (n := 19) (k := 12) (na := 1) (con_X12_refuse l) (dc_X12_orders 19 (34, .invokevirtual 87, 3) rfl rfl) rfl wd_1758 wd_160 (by decide) ⟨rfl, rfl, by decide, by decide⟩ hM wd_1755 wd_1757 wd_57 clf_12,
    st_i2l hC (n := 20) (dc_X12_orders 20 (37, .i2l, 1) rfl rfl) rfl,
    st_lret hC (n := 21) hR (dc_X12_orders 21 (38, .lreturn, 1) rfl rfl), trivial⟩
set_option maxRecDepth 8000 in
theorem vc_X12_orders : VC P_X12_orders 2 Pre_X12_orders Fn_X12_orders := by
  rintro mm as hom hoa ⟨hM, hB, x, rfl⟩
  refine ⟨Nat.le_of_ble_eq_true rfl, fun X h => ?_⟩
  obtain ⟨W, hW, eW⟩ := hB x
  show X 0 [some (vR 12 0), some (vI x)] [] mm
  refine h (fun _ => false) 3000 0 _ _ _ ?_
  refine And.intro ⟨_, rfl⟩ ?_
  refine br_c (fun b3 => ?_) (fun b3 => ?_)
  · -- 3: bI (suP (mm.1 54 0) x) = 0 taken
    replace b3 : ¬ (suP (mm.1 54 0) x) := bI_0.mp b3
    refine And.intro ⟨_, rfl⟩ ?_
    show ((some (vL ((-1).toInt64)) : Option MV), stM mm 1) = _
    exact (if_neg b3).symm
  · -- 3: bI (suP (mm.1 54 0) x) = 0 on
    replace b3 : suP (mm.1 54 0) x := bI_n0.mp b3
    refine And.intro ⟨hM, _, rfl⟩ ?_
    refine And.intro rfl ?_
    refine And.intro ⟨hM, W, hW, congrArg (fun z => [vR 12 0, vI z]) eW⟩ ?_
    refine And.intro ⟨_, rfl⟩ ?_
    show ((some (vL (wo (mm.1 54 0) (mm.1 54 0 2).toNatClampNeg ((thA (mm.1 54 0) x) &&& (mm.1 54 0 8)).toNatClampNeg)) : Option MV), stM (woM mm ((thA (mm.1 54 0) x) &&& (mm.1 54 0 8)).toNatClampNeg) 0) = _
    exact (if_pos b3).symm
theorem con_X12_orders (l : Launch) : CON l y_X12_orders prog_14_method_142_code 2 (some .long) rm_X12_orders Pre_X12_orders Fn_X12_orders := CON_of (by decide) rfl rfl (sa_X12_orders l) vc_X12_orders
def Pre_X12_ways : PreT := fun m as => VM m ∧ (∃ ns nm nt, VMx m ns nm nt ∧ AFo (m.1 54 0) nt) ∧ (∀ s : Int32, ∃ W, W < 4096 ∧ thA (m.1 54 0) s &&& (nvS (m.1 54 0) (m.1 54 0 2).toNatClampNeg s (m.1 54 0 2).toNatClampNeg ^^^ (-1)) = nI W) ∧ ∃ x : Int32, as = [vR 12 0, vI x]
def Fn_X12_ways : FnT := fun m as => match as with
  | [_, Sum.inl x] => if suP (m.1 54 0) x then lvM m (thA (m.1 54 0) x &&& (nvS (m.1 54 0) (m.1 54 0 2).toNatClampNeg x (m.1 54 0 2).toNatClampNeg ^^^ (-1))).toNatClampNeg else lrM m
  | _ => (none, m)
abbrev y_X12_ways : MethodName := ⟨"GivenUpModel", "ways", "(I)J"⟩
def P_X12_ways : List StpT := [s_aload 0, s_iload 1, s_callV 12 1 Pre_X12_isSuitor Fn_X12_isSuitor, s_ifeq 18, s_aload 0, s_aload 0, s_aload 0, s_iload 1, s_callV 12 1 Pre_X12_thingsOf Fn_X12_thingsOf, s_aload 0, s_iload 1, s_callV 12 1 Pre_X12_neverOf Fn_X12_neverOf, s_ic (-1), s_ixor, s_iand, s_callV 12 1 Pre_X12_ordersOf Fn_X12_ordersOf, s_callV 12 1 Pre_X12_givesLong Fn_X12_givesLong, s_goto 22, s_aload 0, s_ic (1), s_callV 12 1 Pre_X12_refuse Fn_X12_refuse, s_i2l, s_lret]
def pc_X12_ways : Nat → Nat := fun i => [0, 1, 2, 5, 8, 9, 10, 11, 12, 15, 16, 17, 20, 21, 22, 23, 26, 29, 32, 33, 34, 37, 38].getD i 0
def dl_X12_ways : List (Nat × Instr × Nat) := [(0, .aload_n 0, 1), (1, .iload_n 1, 1), (2, .invokevirtual 265, 3), (5, .ifCond .eq 27, 3), (8, .aload_n 0, 1), (9, .aload_n 0, 1), (10, .aload_n 0, 1), (11, .iload_n 1, 1), (12, .invokevirtual 280, 3), (15, .aload_n 0, 1), (16, .iload_n 1, 1), (17, .invokevirtual 451, 3), (20, .iconst (-1), 1), (21, .ixor, 1), (22, .iand, 1), (23, .invokevirtual 437, 3), (26, .invokevirtual 441, 3), (29, .goto 9, 3), (32, .aload_n 0, 1), (33, .iconst 1, 1), (34, .invokevirtual 87, 3), (37, .i2l, 1), (38, .lreturn, 1)]
theorem dc_X12_ways : DEC prog_14_method_150_code pc_X12_ways dl_X12_ways := DEC_of (by decide +kernel)
abbrev rm_X12_ways : Room := { frames := 5, cells := 0, slots := 0, locals := 111 }
set_option maxRecDepth 20000 in
theorem sa_X12_ways (l : Launch) : SNDALL l prog_14_method_150_code "GivenUpModel" 2 (some .long) rm_X12_ways P_X12_ways pc_X12_ways := fun p e s m args below meth c cells slots Q D dA ad A RR hC hR => by
  have hM := RTX_room (R := rm_X12_ways) hR
  exact ⟨st_aload_n hC (n := 0) (k := 0) (dc_X12_ways 0 (0, .aload_n 0, 1) rfl rfl) rfl rfl,
    st_iload_n hC (n := 1) (k := 1) (dc_X12_ways 1 (1, .iload_n 1, 1) rfl rfl) rfl rfl,
    st_callV hC (n := 2) (k := 12) (na := 1) (con_X12_isSuitor l) (dc_X12_ways 2 (2, .invokevirtual 265, 3) rfl rfl) rfl wd_1885 wd_160 (by decide) ⟨rfl, rfl, by decide, by decide⟩ hM wd_1882 wd_1884 wd_85 clf_12,
    st_ifeq hC (n := 3) (dc_X12_ways 3 (5, .ifCond .eq 27, 3) rfl rfl) rfl (by decide),
    st_aload_n hC (n := 4) (k := 0) (dc_X12_ways 4 (8, .aload_n 0, 1) rfl rfl) rfl rfl,
    st_aload_n hC (n := 5) (k := 0) (dc_X12_ways 5 (9, .aload_n 0, 1) rfl rfl) rfl rfl,
    st_aload_n hC (n := 6) (k := 0) (dc_X12_ways 6 (10, .aload_n 0, 1) rfl rfl) rfl rfl,
    st_iload_n hC (n := 7) (k := 1) (dc_X12_ways 7 (11, .iload_n 1, 1) rfl rfl) rfl rfl,
    st_callV hC (n := 8) (k := 12) (na := 1) (con_X12_thingsOf l) (dc_X12_ways 8 (12, .invokevirtual 280, 3) rfl rfl) rfl wd_1892 wd_160 (by decide) ⟨rfl, rfl, by decide, by decide⟩ hM wd_1889 wd_1891 wd_86 clf_12,
    st_aload_n hC (n := 9) (k := 0) (dc_X12_ways 9 (15, .aload_n 0, 1) rfl rfl) rfl rfl,
    st_iload_n hC (n := 10) (k := 1) (dc_X12_ways 10 (16, .iload_n 1, 1) rfl rfl) rfl rfl,
    st_callV hC (n := 11) (k := 12) (na := 1) (con_X12_neverOf l) (dc_X12_ways 11 (17, .invokevirtual 451, 3) rfl rfl) rfl wd_2263 wd_160 (by decide) ⟨rfl, rfl, by decide, by decide⟩ hM wd_2260 wd_2262 wd_133 clf_12,
    st_iconst hC (n := 12) (x := (-1)) (dc_X12_ways 12 (20, .iconst (-1), 1) rfl rfl) rfl (by decide),
    st_ixor hC (n := 13) (dc_X12_ways 13 (21, .ixor, 1) rfl rfl) rfl,
    st_iand hC (n := 14) (dc_X12_ways 14 (22, .iand, 1) rfl rfl) rfl,
    st_callV hC (n := 15) (k := 12) (na := 1) (con_X12_ordersOf l) (dc_X12_ways 15 (23, .invokevirtual 437, 3) rfl rfl) rfl wd_2243 wd_160 (by decide) ⟨rfl, rfl, by decide, by decide⟩ hM wd_2240 wd_2242 wd_131 clf_12,
    st_callV hC (n := 16) (k := 12) (na := 1) (con_X12_givesLong l) (dc_X12_ways 16 (26, .invokevirtual 441, 3) rfl rfl) rfl wd_2247 wd_160 (by decide) ⟨rfl, rfl, by decide, by decide⟩ hM wd_2244 wd_2246 wd_132 clf_12,
    st_goto hC (n := 17) (dc_X12_ways 17 (29, .goto 9, 3) rfl rfl) (by decide),
    st_aload_n hC (n := 18) (k := 0) (dc_X12_ways 18 (32, .aload_n 0, 1) rfl rfl) rfl rfl,
    st_iconst hC (n := 19) (x := 1) (dc_X12_ways 19 (33, .iconst 1, 1) rfl rfl) rfl (by decide),
    st_callV hC (n := 20) (k := 12) (na := 1) (con_X12_refuse l) (dc_X12_ways 20 (34, .invokevirtual 87, 3) rfl rfl) rfl wd_1758 wd_160 (by decide) ⟨rfl, rfl, by decide, by decide⟩ hM wd_1755 wd_1757 wd_57 clf_12,
    st_i2l hC (n := 21) (dc_X12_ways 21 (37, .i2l, 1) rfl rfl) rfl,
    st_lret hC (n := 22) hR (dc_X12_ways 22 (38, .lreturn, 1) rfl rfl), trivial⟩
set_option maxRecDepth 8000 in
theorem vc_X12_ways : VC P_X12_ways 2 Pre_X12_ways Fn_X12_ways := by
  rintro mm as hom hoa ⟨hM, ⟨ns, nm, nt, hV, hA⟩, hB, x, rfl⟩
  refine ⟨Nat.le_of_ble_eq_true rfl, fun X h => ?_⟩
  obtain ⟨W, hW, eW⟩ := hB x
  show X 0 [some (vR 12 0), some (vI x)] [] mm
  refine h (fun _ => false) 3000 0 _ _ _ ?_
  refine And.intro ⟨_, rfl⟩ ?_
  refine br_c (fun b3 => ?_) (fun b3 => ?_)
  · -- 3: bI (suP (mm.1 54 0) x) = 0 taken
    replace b3 : ¬ (suP (mm.1 54 0) x) := bI_0.mp b3
    refine And.intro ⟨_, rfl⟩ ?_
    show ((some (vL ((-1).toInt64)) : Option MV), stM mm 1) = _
    exact (if_neg b3).symm
  · -- 3: bI (suP (mm.1 54 0) x) = 0 on
    replace b3 : suP (mm.1 54 0) x := bI_n0.mp b3
    refine And.intro ⟨hM, _, rfl⟩ ?_
    refine And.intro ⟨ns, nm, nt, hV, hA, _, rfl⟩ ?_
    refine And.intro ⟨hM, W, hW, congrArg (fun z => [vR 12 0, vI z]) eW⟩ ?_
    refine And.intro ⟨_, rfl⟩ ?_
    show ((some (vL (wo (mm.1 54 0) (mm.1 54 0 2).toNatClampNeg ((thA (mm.1 54 0) x) &&& ((nvS (mm.1 54 0) (mm.1 54 0 2).toNatClampNeg x (mm.1 54 0 2).toNatClampNeg) ^^^ (-1))).toNatClampNeg)) : Option MV), stM (woM mm ((thA (mm.1 54 0) x) &&& ((nvS (mm.1 54 0) (mm.1 54 0 2).toNatClampNeg x (mm.1 54 0 2).toNatClampNeg) ^^^ (-1))).toNatClampNeg) 0) = _
    exact (if_pos b3).symm
theorem con_X12_ways (l : Launch) : CON l y_X12_ways prog_14_method_150_code 2 (some .long) rm_X12_ways Pre_X12_ways Fn_X12_ways := CON_of (by decide) rfl rfl (sa_X12_ways l) vc_X12_ways
