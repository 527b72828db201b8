/-! PART 64: the class: the dearest, deep, firsts, lasts, what is copied -/

abbrev drP (a : Nat → Int32) (d t o : Nat) : Prop := ¬ a (80 + 4 * t + d) * (a (45 + 3 * o) + 1) ≤ a (80 + 4 * o + d) * (a (45 + 3 * t) + 1)

--tpl ⟨_, {1N}, {2N}, {3N}, by omega, by omega, by omega, rfl⟩ || bI (drP (abV {m} {g0}) {3n} {1n} {2n})
def Pre_X6_isDearer : PreT := fun _ as => ∃ g t o d, t < 12 ∧ o < 12 ∧ d < 4 ∧ as = [vR 6 g, vI (nI t), vI (nI o), vI (nI d)]
def Fn_X6_isDearer : FnT := fun m as => match as with
  | [Sum.inr (Sum.inr q), Sum.inl t, Sum.inl o, Sum.inl d] => (some (vI (bI (drP (abV m q.2) d.toNatClampNeg t.toNatClampNeg o.toNatClampNeg))), m)
  | _ => (none, m)
abbrev y_X6_isDearer : MethodName := ⟨"GivenUp$Valley", "isDearer", "(III)Z"⟩
def P_X6_isDearer : List StpT := [s_aload 0, s_iload 1, s_iload 3, s_callV 6 2 Pre_X6_word Fn_X6_word, s_aload 0, s_getR 6 7 36, s_iload 2, s_iald, s_ic (1), s_iadd, s_imul, s_aload 0, s_iload 2, s_iload 3, s_callV 6 2 Pre_X6_word Fn_X6_word, s_aload 0, s_getR 6 7 36, s_iload 1, s_iald, s_ic (1), s_iadd, s_imul, s_icle 25, s_ic (1), s_goto 26, s_ic (0), s_zret]
def pc_X6_isDearer : Nat → Nat := fun i => [0, 1, 2, 3, 6, 7, 10, 11, 12, 13, 14, 15, 16, 17, 18, 21, 22, 25, 26, 27, 28, 29, 30, 33, 34, 37, 38].getD i 0
def dl_X6_isDearer : List (Nat × Instr × Nat) := [(0, .aload_n 0, 1), (1, .iload_n 1, 1), (2, .iload_n 3, 1), (3, .invokevirtual 191, 3), (6, .aload_n 0, 1), (7, .getfield 34, 3), (10, .iload_n 2, 1), (11, .iaload, 1), (12, .iconst 1, 1), (13, .iadd, 1), (14, .imul, 1), (15, .aload_n 0, 1), (16, .iload_n 2, 1), (17, .iload_n 3, 1), (18, .invokevirtual 191, 3), (21, .aload_n 0, 1), (22, .getfield 34, 3), (25, .iload_n 1, 1), (26, .iaload, 1), (27, .iconst 1, 1), (28, .iadd, 1), (29, .imul, 1), (30, .if_icmp .le 7, 3), (33, .iconst 1, 1), (34, .goto 4, 3), (37, .iconst 0, 1), (38, .ireturn, 1)]
theorem dc_X6_isDearer : DEC prog_8_method_39_code pc_X6_isDearer dl_X6_isDearer := DEC_of (by decide +kernel)
abbrev rm_X6_isDearer : Room := { frames := 1, cells := 0, slots := 0, locals := 22 }
set_option maxRecDepth 20000 in
theorem sa_X6_isDearer (l : Launch) : SNDALL l prog_8_method_39_code "GivenUp$Valley" 4 (some .boolean) rm_X6_isDearer P_X6_isDearer pc_X6_isDearer := fun p e s m args below meth c cells slots Q D dA ad A RR hC hR => by
  have hM := RTX_room (R := rm_X6_isDearer) hR
  exact ⟨st_aload_n hC (n := 0) (k := 0) (dc_X6_isDearer 0 (0, .aload_n 0, 1) rfl rfl) rfl rfl,
    st_iload_n hC (n := 1) (k := 1) (dc_X6_isDearer 1 (1, .iload_n 1, 1) rfl rfl) rfl rfl,
    st_iload_n hC (n := 2) (k := 3) (dc_X6_isDearer 2 (2, .iload_n 3, 1) rfl rfl) rfl rfl,
    st_callV hC (n := 3) (k := 6) (na := 2) (con_X6_word l) (dc_X6_isDearer 3 (3, .invokevirtual 191, 3) rfl rfl) rfl wd_1082 wd_155 (by decide) ⟨rfl, rfl, by decide, by decide⟩ hM wd_1227 wd_1080 wd_1081 clf_6,
    st_aload_n hC (n := 4) (k := 0) (dc_X6_isDearer 4 (6, .aload_n 0, 1) rfl rfl) rfl rfl,
    st_getR hC (n := 5) (k := 6) (j := 7) (dc_X6_isDearer 5 (7, .getfield 34, 3) rfl rfl) rfl clf_6 (by decide) rfl (by decide) wd_598,
    st_iload_n hC (n := 6) (k := 2) (dc_X6_isDearer 6 (10, .iload_n 2, 1) rfl rfl) rfl rfl,
    st_iald hC (n := 7) (dc_X6_isDearer 7 (11, .iaload, 1) rfl rfl) rfl,
    st_iconst hC (n := 8) (x := 1) (dc_X6_isDearer 8 (12, .iconst 1, 1) rfl rfl) rfl (by decide),
    st_iadd hC (n := 9) (dc_X6_isDearer 9 (13, .iadd, 1) rfl rfl) rfl,
    st_imul hC (n := 10) (dc_X6_isDearer 10 (14, .imul, 1) rfl rfl) rfl,
    st_aload_n hC (n := 11) (k := 0) (dc_X6_isDearer 11 (15, .aload_n 0, 1) rfl rfl) rfl rfl,
    st_iload_n hC (n := 12) (k := 2) (dc_X6_isDearer 12 (16, .iload_n 2, 1) rfl rfl) rfl rfl,
    st_iload_n hC (n := 13) (k := 3) (dc_X6_isDearer 13 (17, .iload_n 3, 1) rfl rfl) rfl rfl,
    st_callV hC (n := 14) (k := 6) (na := 2) (con_X6_word l) (dc_X6_isDearer 14 (18, .invokevirtual 191, 3) rfl rfl) rfl wd_1082 wd_155 (by decide) ⟨rfl, rfl, by decide, by decide⟩ hM wd_1227 wd_1080 wd_1081 clf_6,
    st_aload_n hC (n := 15) (k := 0) (dc_X6_isDearer 15 (21, .aload_n 0, 1) rfl rfl) rfl rfl,
    st_getR hC (n := 16) (k := 6) (j := 7) (dc_X6_isDearer 16 (22, .getfield 34, 3) rfl rfl) rfl clf_6 (by decide) rfl (by decide) wd_598,
    st_iload_n hC (n := 17) (k := 1) (dc_X6_isDearer 17 (25, .iload_n 1, 1) rfl rfl) rfl rfl,
    st_iald hC (n := 18) (dc_X6_isDearer 18 (26, .iaload, 1) rfl rfl) rfl,
    st_iconst hC (n := 19) (x := 1) (dc_X6_isDearer 19 (27, .iconst 1, 1) rfl rfl) rfl (by decide),
    st_iadd hC (n := 20) (dc_X6_isDearer 20 (28, .iadd, 1) rfl rfl) rfl,
    st_imul hC (n := 21) (dc_X6_isDearer 21 (29, .imul, 1) rfl rfl) rfl,
    st_icle hC (n := 22) (dc_X6_isDearer 22 (30, .if_icmp .le 7, 3) rfl rfl) rfl (by decide),
    st_iconst hC (n := 23) (x := 1) (dc_X6_isDearer 23 (33, .iconst 1, 1) rfl rfl) rfl (by decide),
    st_goto hC (n := 24) (dc_X6_isDearer 24 (34, .goto 4, 3) rfl rfl) (by decide),
    st_iconst hC (n := 25) (x := 0) (dc_X6_isDearer 25 (37, .iconst 0, 1) rfl rfl) rfl (by decide),
    st_zret hC (n := 26) hR (dc_X6_isDearer 26 (38, .ireturn, 1) rfl rfl), trivial⟩
set_option maxRecDepth 8000 in
theorem vc_X6_isDearer : VC P_X6_isDearer 4 Pre_X6_isDearer Fn_X6_isDearer := by
  rintro mm as hom hoa ⟨g, t, o, d, ht, ho, hd, rfl⟩
  refine ⟨Nat.le_of_ble_eq_true rfl, fun X h => ?_⟩
  have et : (nI t).toNatClampNeg = t := nI_clamp (by omega)
  have eo : (nI o).toNatClampNeg = o := nI_clamp (by omega)
  have ed : (nI d).toNatClampNeg = d := nI_clamp (by omega)
  have a1 := ab_wor (m := mm) (g := g) ht
  have a2 := ab_wor (m := mm) (g := g) ho
  have hF : Fn_X6_isDearer mm [vR 6 g, vI (nI t), vI (nI o), vI (nI d)] = (some (vI (bI (drP (abV mm g) d t o))), mm) := by
    show (some (vI (bI (drP (abV mm g) (nI d).toNatClampNeg (nI t).toNatClampNeg (nI o).toNatClampNeg))), mm) = _
    simp only [et, eo, ed]
  rw [hF] at h
  show X 0 [some (vR 6 g), some (vI (nI t)), some (vI (nI o)), some (vI (nI d))] [] mm
  refine h (fun _ => false) 3000 0 _ _ _ ?_
  refine And.intro (show Pre_X6_word mm [vR 6 g, vI (nI t), vI (nI d)] from ⟨g, t, d, ht, hd, rfl⟩) ?_
  refine And.intro (show inb (nI o) (alen 36) = true from (inb_o 12 rfl rfl rfl (by omega))) ?_
  refine And.intro (show Pre_X6_word mm [vR 6 g, vI (nI o), vI (nI d)] from ⟨g, o, d, ho, hd, rfl⟩) ?_
  refine And.intro (show inb (nI t) (alen 36) = true from (inb_o 12 rfl rfl rfl (by omega))) ?_
  refine br_c (fun b22 => ?_) (fun b22 => ?_)
  · -- 22: (abV mm g (80 + 4 * (nI t).toNatClampNeg + (nI d).toNatClampNeg)) * ((mm.1 36 g ((nI o).toNatClampNeg)) + 1) ≤ (abV mm g (80 + 4 * (nI o).toNatClampNeg + (nI d).toNatClampNeg)) * ((mm.1 36 g ((nI t).toNatClampNeg)) + 1) taken
    replace b22 : (abV mm g (80 + 4 * (nI t).toNatClampNeg + (nI d).toNatClampNeg)) * ((mm.1 36 g ((nI o).toNatClampNeg)) + 1) ≤ (abV mm g (80 + 4 * (nI o).toNatClampNeg + (nI d).toNatClampNeg)) * ((mm.1 36 g ((nI t).toNatClampNeg)) + 1) := b22
    (try simp only [et, eo, ed] at b22)
    refine And.intro (Or.inl rfl) ?_
    show ((some (vI 0) : Option MV), mm) = _
    (try simp only [et, eo, ed])
    refine ret_f (fun z => z ?_)
    rw [a1, a2] 
    exact b22
  · -- 22: (abV mm g (80 + 4 * (nI t).toNatClampNeg + (nI d).toNatClampNeg)) * ((mm.1 36 g ((nI o).toNatClampNeg)) + 1) ≤ (abV mm g (80 + 4 * (nI o).toNatClampNeg + (nI d).toNatClampNeg)) * ((mm.1 36 g ((nI t).toNatClampNeg)) + 1) on
    replace b22 : ¬ ((abV mm g (80 + 4 * (nI t).toNatClampNeg + (nI d).toNatClampNeg)) * ((mm.1 36 g ((nI o).toNatClampNeg)) + 1) ≤ (abV mm g (80 + 4 * (nI o).toNatClampNeg + (nI d).toNatClampNeg)) * ((mm.1 36 g ((nI t).toNatClampNeg)) + 1)) := b22
    (try simp only [et, eo, ed] at b22)
    refine And.intro (Or.inr rfl) ?_
    show ((some (vI 1) : Option MV), mm) = _
    (try simp only [et, eo, ed])
    refine ret_t (fun z => b22 ?_)
    rw [a1, a2] at z 
    exact z
theorem con_X6_isDearer (l : Launch) : CON l y_X6_isDearer prog_8_method_39_code 4 (some .boolean) rm_X6_isDearer Pre_X6_isDearer Fn_X6_isDearer := CON_of (by decide) rfl rfl (sa_X6_isDearer l) vc_X6_isDearer
def dsG (a : Nat → Int32) (P : Nat → Prop) [DecidablePred P] (d : Nat) : Nat → Int32
  | 0 => -1
  | t + 1 => if P t ∧ (dsG a P d t = -1 ∨ drP a d t (dsG a P d t).toNatClampNeg) then nI t else dsG a P d t
theorem dsG_in (a : Nat → Int32) (P : Nat → Prop) [DecidablePred P] (d : Nat) : ∀ t, t ≤ 12 → dsG a P d t = -1 ∨ ∃ o, o < 12 ∧ dsG a P d t = nI o
  | 0, _ => Or.inl rfl
  | t + 1, h => by
    rw [dsG]
    split
    · exact Or.inr ⟨t, by omega, rfl⟩
    · exact dsG_in a P d t (by omega)
abbrev bfP (a : Nat → Int32) (s : Int32) (t : Nat) : Prop := a (44 + 3 * t) = s ∧ tsA a t = 0
def bfA (a : Nat → Int32) (s : Int32) (d n : Nat) : Int32 := dsG a (bfP a s) d n

--tpl ⟨_, _, _, _, {2N}, by assumption, by omega, _, rfl⟩ || bfA (abV {m} {g0}) {1} {2n} ({r 1 6 {g0} 15}).toNatClampNeg
def Pre_X6_bestFor : PreT := fun m as => ∃ g ns nm nt d, VC2 m g ns nm nt ∧ d < 4 ∧ ∃ s : Int32, as = [vR 6 g, vI s, vI (nI d)]
def Fn_X6_bestFor : FnT := fun m as => match as with
  | [Sum.inr (Sum.inr q), Sum.inl s, Sum.inl d] => (some (vI (bfA (abV m q.2) s d.toNatClampNeg (m.1 6 q.2 15).toNatClampNeg)), m)
  | _ => (none, m)
abbrev y_X6_bestFor : MethodName := ⟨"GivenUp$Valley", "bestFor", "(II)I"⟩
def P_X6_bestFor : List StpT := [s_ic (-1), s_istore 3, s_ic (0), s_istore 4, s_iload 4, s_aload 0, s_getI 6 15, s_icge 30, s_aload 0, s_getR 6 6 35, s_iload 4, s_iald, s_iload 1, s_icne 28, s_aload 0, s_iload 4, s_callV 6 1 Pre_X6_stateOf Fn_X6_stateOf, s_ifne 28, s_iload 3, s_iflt 26, s_aload 0, s_iload 4, s_iload 3, s_iload 2, s_callV 6 3 Pre_X6_isDearer Fn_X6_isDearer, s_ifeq 28, s_iload 4, s_istore 3, s_iinc 4 (1), s_goto 4, s_iload 3, s_iret]
def pc_X6_bestFor : Nat → Nat := fun i => [0, 1, 2, 3, 5, 7, 8, 11, 14, 15, 18, 20, 21, 22, 25, 26, 28, 31, 34, 35, 38, 39, 41, 42, 43, 46, 49, 51, 52, 55, 58, 59].getD i 0
def dl_X6_bestFor : List (Nat × Instr × Nat) := [(0, .iconst (-1), 1), (1, .istore_n 3, 1), (2, .iconst 0, 1), (3, .istore 4, 2), (5, .iload 4, 2), (7, .aload_n 0, 1), (8, .getfield 67, 3), (11, .if_icmp .ge 47, 3), (14, .aload_n 0, 1), (15, .getfield 31, 3), (18, .iload 4, 2), (20, .iaload, 1), (21, .iload_n 1, 1), (22, .if_icmp .ne 30, 3), (25, .aload_n 0, 1), (26, .iload 4, 2), (28, .invokevirtual 194, 3), (31, .ifCond .ne 21, 3), (34, .iload_n 3, 1), (35, .ifCond .lt 14, 3), (38, .aload_n 0, 1), (39, .iload 4, 2), (41, .iload_n 3, 1), (42, .iload_n 2, 1), (43, .invokevirtual 197, 3), (46, .ifCond .eq 6, 3), (49, .iload 4, 2), (51, .istore_n 3, 1), (52, .iinc 4 1, 3), (55, .goto (-50), 3), (58, .iload_n 3, 1), (59, .ireturn, 1)]
theorem dc_X6_bestFor : DEC prog_8_method_38_code pc_X6_bestFor dl_X6_bestFor := DEC_of (by decide +kernel)
abbrev rm_X6_bestFor : Room := { frames := 2, cells := 0, slots := 0, locals := 45 }
set_option maxRecDepth 20000 in
theorem sa_X6_bestFor (l : Launch) : SNDALL l prog_8_method_38_code "GivenUp$Valley" 5 (some .int) rm_X6_bestFor P_X6_bestFor pc_X6_bestFor := fun p e s m args below meth c cells slots Q D dA ad A RR hC hR => by
  have hM := RTX_room (R := rm_X6_bestFor) hR
  exact ⟨st_iconst hC (n := 0) (x := (-1)) (dc_X6_bestFor 0 (0, .iconst (-1), 1) rfl rfl) rfl (by decide),
    st_istore_n hC (n := 1) (k := 3) (dc_X6_bestFor 1 (1, .istore_n 3, 1) rfl rfl) rfl rfl (by decide),
    st_iconst hC (n := 2) (x := 0) (dc_X6_bestFor 2 (2, .iconst 0, 1) rfl rfl) rfl (by decide),
    st_istore hC (n := 3) (dc_X6_bestFor 3 (3, .istore 4, 2) rfl rfl) rfl (by decide),
    st_iload hC (n := 4) (dc_X6_bestFor 4 (5, .iload 4, 2) rfl rfl) rfl,
    st_aload_n hC (n := 5) (k := 0) (dc_X6_bestFor 5 (7, .aload_n 0, 1) rfl rfl) rfl rfl,
    st_getI hC (n := 6) (k := 6) (j := 15) (dc_X6_bestFor 6 (8, .getfield 67, 3) rfl rfl) rfl clf_6 (by decide) rfl wd_629,
    st_icge hC (n := 7) (dc_X6_bestFor 7 (11, .if_icmp .ge 47, 3) rfl rfl) rfl (by decide),
    st_aload_n hC (n := 8) (k := 0) (dc_X6_bestFor 8 (14, .aload_n 0, 1) rfl rfl) rfl rfl,
    st_getR hC (n := 9) (k := 6) (j := 6) (dc_X6_bestFor 9 (15, .getfield 31, 3) rfl rfl) rfl clf_6 (by decide) rfl (by decide) wd_595,
    st_iload hC (n := 10) (dc_X6_bestFor 10 (18, .iload 4, 2) rfl rfl) rfl,
    st_iald hC (n := 11) (dc_X6_bestFor 11 (20, .iaload, 1) rfl rfl) rfl,
    st_iload_n hC (n := 12) (k := 1) (dc_X6_bestFor 12 (21, .iload_n 1, 1) rfl rfl) rfl rfl,
    st_icne hC (n := 13) (dc_X6_bestFor 13 (22, .if_icmp .ne 30, 3) rfl rfl) rfl (by decide),
    st_aload_n hC (n := 14) (k := 0) (dc_X6_bestFor 14 (25, .aload_n 0, 1) rfl rfl) rfl rfl,
    st_iload hC (n := 15) (dc_X6_bestFor 15 (26, .iload 4, 2) rfl rfl) rfl,
    st_callV hC (n := 16) (k := 6) (na := 1) (con_X6_stateOf l) (dc_X6_bestFor 16 (28, .invokevirtual 194, 3) rfl rfl) rfl wd_1064 wd_155 (by decide) ⟨rfl, rfl, by decide, by decide⟩ hM wd_1236 wd_1062 wd_1063 clf_6,
    st_ifne hC (n := 17) (dc_X6_bestFor 17 (31, .ifCond .ne 21, 3) rfl rfl) rfl (by decide),
    st_iload_n hC (n := 18) (k := 3) (dc_X6_bestFor 18 (34, .iload_n 3, 1) rfl rfl) rfl rfl,
    st_iflt hC (n := 19) (dc_X6_bestFor 19 (35, .ifCond .lt 14, 3) rfl rfl) rfl (by decide),
    st_aload_n hC (n := 20) (k := 0) (dc_X6_bestFor 20 (38, .aload_n 0, 1) rfl rfl) rfl rfl,
    st_iload hC (n := 21) (dc_X6_bestFor 21 (39, .iload 4, 2) rfl rfl) rfl,
    st_iload_n hC (n := 22) (k := 3) (dc_X6_bestFor 22 (41, .iload_n 3, 1) rfl rfl) rfl rfl,
    st_iload_n hC (n := 23) (k := 2) (dc_X6_bestFor 23 (42, .iload_n 2, 1) rfl rfl) rfl rfl,
    st_callV hC (n := 24) (k := 6) (na := 3) (con_X6_isDearer l) (dc_X6_bestFor 24 (43, .invokevirtual 197, 3) rfl rfl) rfl wd_1240 wd_155 (by decide) ⟨rfl, rfl, by decide, by decide⟩ hM wd_1237 wd_1239 wd_27 clf_6,
    st_ifeq hC (n := 25) (dc_X6_bestFor 25 (46, .ifCond .eq 6, 3) rfl rfl) rfl (by decide),
    st_iload hC (n := 26) (dc_X6_bestFor 26 (49, .iload 4, 2) rfl rfl) rfl,
    st_istore_n hC (n := 27) (k := 3) (dc_X6_bestFor 27 (51, .istore_n 3, 1) rfl rfl) rfl rfl (by decide),
    st_iinc hC (n := 28) (x := 1) (dc_X6_bestFor 28 (52, .iinc 4 1, 3) rfl rfl) rfl (by decide) (by decide),
    st_goto hC (n := 29) (dc_X6_bestFor 29 (55, .goto (-50), 3) rfl rfl) (by decide),
    st_iload_n hC (n := 30) (k := 3) (dc_X6_bestFor 30 (58, .iload_n 3, 1) rfl rfl) rfl rfl,
    st_iret hC (n := 31) hR (dc_X6_bestFor 31 (59, .ireturn, 1) rfl rfl), trivial⟩
set_option maxRecDepth 8000 in
theorem vc_X6_bestFor : VC P_X6_bestFor 5 Pre_X6_bestFor Fn_X6_bestFor := by
  rintro mm as hom hoa ⟨g, ns, nm, n, d, hV, hd, s, rfl⟩
  refine ⟨Nat.le_of_ble_eq_true rfl, fun X h => ?_⟩
  have hn : mm.1 6 g 15 = nI n := hV.1.2.2.1.1
  have hn12 : n ≤ 12 := hV.1.2.2.1.2
  have ed : (nI d).toNatClampNeg = d := nI_clamp (by omega)
  have hF : Fn_X6_bestFor mm [vR 6 g, vI s, vI (nI d)] = (some (vI (dsG (abV mm g) (bfP (abV mm g) s) d n)), mm) := by
    show (some (vI (bfA (abV mm g) s (nI d).toNatClampNeg (mm.1 6 g 15).toNatClampNeg)), mm) = _
    rw [hn, ed, nI_clamp (by omega)]
    rfl
  rw [hF] at h
  have loop : ∀ t, t ≤ n → X 4 [some (vR 6 g), some (vI (s)), some (vI (nI d)), some (vI (dsG (abV mm g) (bfP (abV mm g) s) d t)), some (vI (nI t))] [] mm := by
    refine up_ind n ?_ (fun t ht ih => ?_)
    ·
      show X 4 [some (vR 6 g), some (vI s), some (vI (nI d)), some (vI (dsG (abV mm g) (bfP (abV mm g) s) d n)), some (vI (nI n))] [] mm
      refine h (fun _ => false) 3000 4 _ _ _ ?_
      refine br_t (show mm.1 6 g 15 ≤ nI n from by rw [hn]; exact Int32.le_refl _) ?_
      show ((some (vI (dsG (abV mm g) (bfP (abV mm g) s) d n)) : Option MV), mm) = _
      exact rfl
    · have et : (nI t).toNatClampNeg = t := nI_clamp (by omega)
      have ea := ab_of (m := mm) (g := g) (show t < 12 by omega)
      rw [dsG] at ih
      obtain ⟨B, hB⟩ : ∃ B, B = dsG (abV mm g) (bfP (abV mm g) s) d t := ⟨_, rfl⟩
      have hin := dsG_in (abV mm g) (bfP (abV mm g) s) d t (by omega)
      rw [← hB] at ih hin ⊢
      have k2 : B < 0 ↔ B = -1 := neg_m1 hin
      have no : ¬ (bfP (abV mm g) s t ∧ (B = -1 ∨ drP (abV mm g) d t B.toNatClampNeg)) → X 28 [some (vR 6 g), some (vI (s)), some (vI (nI d)), some (vI (B)), some (vI (nI t))] [] mm := by
        intro hc
        rw [if_neg hc] at ih
        show X 28 [some (vR 6 g), some (vI s), some (vI (nI d)), some (vI B), some (vI (nI t))] [] mm
        refine h (fun i => Nat.beq i 4) 3000 28 _ _ _ ?_
        show X 4 [some (vR 6 g), some (vI s), some (vI (nI d)), some (vI B), some (vI ((nI t) + 1))] [] mm
        rw [nI_1]
        exact ih
      have yes : (bfP (abV mm g) s t ∧ (B = -1 ∨ drP (abV mm g) d t B.toNatClampNeg)) → X 26 [some (vR 6 g), some (vI (s)), some (vI (nI d)), some (vI (B)), some (vI (nI t))] [] mm := by
        intro hc
        rw [if_pos hc] at ih
        show X 26 [some (vR 6 g), some (vI s), some (vI (nI d)), some (vI B), some (vI (nI t))] [] mm
        refine h (fun i => Nat.beq i 4) 3000 26 _ _ _ ?_
        show X 4 [some (vR 6 g), some (vI s), some (vI (nI d)), some (vI (nI t)), some (vI ((nI t) + 1))] [] mm
        rw [nI_1]
        exact ih
      have inB : ¬ B < 0 → ∃ o, o < 12 ∧ B = nI o := fun z => hin.resolve_left (fun y => z (k2.mpr y))
      show X 4 [some (vR 6 g), some (vI s), some (vI (nI d)), some (vI B), some (vI (nI t))] [] mm
      refine h (fun i => Nat.beq i 26 || Nat.beq i 28) 3000 4 _ _ _ ?_
      refine br_f (show ¬ (mm.1 6 g 15 ≤ nI t) from by rw [hn]; exact nI_ge ht (by omega)) ?_
      refine And.intro (show inb (nI t) (alen 35) = true from (inb_o 12 rfl rfl rfl (by omega))) ?_
      refine brn_c (fun b13 => ?_) (fun b13 => ?_)
      · -- 13: mm.1 35 g ((nI t).toNatClampNeg) = s taken
        replace b13 : ¬ (mm.1 35 g ((nI t).toNatClampNeg) = s) := b13
        (try simp only [et, ed] at b13)
        show X 28 [some (vR 6 g), some (vI s), some (vI (nI d)), some (vI B), some (vI (nI t))] [] mm
        (try simp only [et, ed])
        exact no (fun z => b13 (by rw [← ea]; exact z.1.1))
      · -- 13: mm.1 35 g ((nI t).toNatClampNeg) = s on
        replace b13 : mm.1 35 g ((nI t).toNatClampNeg) = s := b13
        (try simp only [et, ed] at b13)
        refine And.intro (show Pre_X6_stateOf mm [vR 6 g, vI (nI t)] from ⟨g, t, by omega, rfl⟩) ?_
        refine brn_c (fun b17 => ?_) (fun b17 => ?_)
        · -- 17: tsA (abV mm g) (nI t).toNatClampNeg = 0 taken
          replace b17 : ¬ (tsA (abV mm g) (nI t).toNatClampNeg = 0) := b17
          (try simp only [et, ed] at b17)
          show X 28 [some (vR 6 g), some (vI s), some (vI (nI d)), some (vI B), some (vI (nI t))] [] mm
          (try simp only [et, ed])
          exact no (fun z => b17 z.1.2)
        · -- 17: tsA (abV mm g) (nI t).toNatClampNeg = 0 on
          replace b17 : tsA (abV mm g) (nI t).toNatClampNeg = 0 := b17
          (try simp only [et, ed] at b17)
          refine br_c (fun b19 => ?_) (fun b19 => ?_)
          · -- 19: B < 0 taken
            replace b19 : B < 0 := b19
            (try simp only [et, ed] at b19)
            show X 26 [some (vR 6 g), some (vI s), some (vI (nI d)), some (vI B), some (vI (nI t))] [] mm
            (try simp only [et, ed])
            exact yes ⟨⟨by rw [ea]; exact b13, b17⟩, Or.inl (k2.mp b19)⟩
          · -- 19: B < 0 on
            replace b19 : ¬ (B < 0) := b19
            (try simp only [et, ed] at b19)
            refine And.intro (show Pre_X6_isDearer mm [vR 6 g, vI (nI t), vI B, vI (nI d)] from (by obtain ⟨o, ho, e⟩ := inB b19; exact ⟨g, t, o, d, by omega, ho, hd, by rw [e]⟩)) ?_
            refine br_c (fun b25 => ?_) (fun b25 => ?_)
            · -- 25: bI (drP (abV mm g) (nI d).toNatClampNeg (nI t).toNatClampNeg B.toNatClampNeg) = 0 taken
              replace b25 : ¬ (drP (abV mm g) (nI d).toNatClampNeg (nI t).toNatClampNeg B.toNatClampNeg) := bI_0.mp b25
              (try simp only [et, ed] at b25)
              show X 28 [some (vR 6 g), some (vI s), some (vI (nI d)), some (vI B), some (vI (nI t))] [] mm
              (try simp only [et, ed])
              exact no (fun z => z.2.elim (fun y => b19 (k2.mpr y)) b25)
            · -- 25: bI (drP (abV mm g) (nI d).toNatClampNeg (nI t).toNatClampNeg B.toNatClampNeg) = 0 on
              replace b25 : drP (abV mm g) (nI d).toNatClampNeg (nI t).toNatClampNeg B.toNatClampNeg := bI_n0.mp b25
              (try simp only [et, ed] at b25)
              show X 26 [some (vR 6 g), some (vI s), some (vI (nI d)), some (vI B), some (vI (nI t))] [] mm
              (try simp only [et, ed])
              exact yes ⟨⟨by rw [ea]; exact b13, b17⟩, Or.inr b25⟩
  show X 0 [some (vR 6 g), some (vI s), some (vI (nI d)), none, none] [] mm
  refine h (fun i => Nat.beq i 4) 3000 0 _ _ _ ?_
  show X 4 [some (vR 6 g), some (vI s), some (vI (nI d)), some (vI (-1)), some (vI 0)] [] mm
  exact loop 0 (by omega)
theorem con_X6_bestFor (l : Launch) : CON l y_X6_bestFor prog_8_method_38_code 5 (some .int) rm_X6_bestFor Pre_X6_bestFor Fn_X6_bestFor := CON_of (by decide) rfl rfl (sa_X6_bestFor l) vc_X6_bestFor
--tpl rfl || (if inS ({r 1 6 {g0} 19}) {1} then 99 else nI (pcN ({r 1 38 {g0}} {1n}).toNatClampNeg))
def Pre_X6_deep : PreT := fun m as => ∃ g t N, t < 12 ∧ N < 4096 ∧ m.1 38 g t = nI N ∧ as = [vR 6 g, vI (nI t)]
def Fn_X6_deep : FnT := fun m as => match as with
  | [Sum.inr (Sum.inr q), Sum.inl t] => (some (vI (if inS (m.1 6 q.2 19) t then 99 else nI (pcN (m.1 38 q.2 t.toNatClampNeg).toNatClampNeg))), m)
  | _ => (none, m)
abbrev y_X6_deep : MethodName := ⟨"GivenUp$Valley", "deep", "(I)I"⟩
def P_X6_deep : List StpT := [s_aload 0, s_getI 6 19, s_iload 1, s_callS 2 Pre_X11_holds Fn_X11_holds, s_ifeq 7, s_ic (99), s_goto 12, s_aload 0, s_getR 6 9 38, s_iload 1, s_iald, s_callS 1 Pre_J6_bitCount_0f7a4 Fn_J6_bitCount_0f7a4, s_iret]
def pc_X6_deep : Nat → Nat := fun i => [0, 1, 4, 5, 8, 11, 13, 16, 17, 20, 21, 22, 25].getD i 0
def dl_X6_deep : List (Nat × Instr × Nat) := [(0, .aload_n 0, 1), (1, .getfield 79, 3), (4, .iload_n 1, 1), (5, .invokestatic 116, 3), (8, .ifCond .eq 8, 3), (11, .bipush 99, 2), (13, .goto 12, 3), (16, .aload_n 0, 1), (17, .getfield 40, 3), (20, .iload_n 1, 1), (21, .iaload, 1), (22, .invokestatic 120, 3), (25, .ireturn, 1)]
theorem dc_X6_deep : DEC prog_8_method_8_code pc_X6_deep dl_X6_deep := DEC_of (by decide +kernel)
abbrev rm_X6_deep : Room := { frames := 1, cells := 0, slots := 0, locals := 21 }
set_option maxRecDepth 20000 in
theorem sa_X6_deep (l : Launch) : SNDALL l prog_8_method_8_code "GivenUp$Valley" 2 (some .int) rm_X6_deep P_X6_deep pc_X6_deep := fun p e s m args below meth c cells slots Q D dA ad A RR hC hR => by
  have hM := RTX_room (R := rm_X6_deep) hR
  exact ⟨st_aload_n hC (n := 0) (k := 0) (dc_X6_deep 0 (0, .aload_n 0, 1) rfl rfl) rfl rfl,
    st_getI hC (n := 1) (k := 6) (j := 19) (dc_X6_deep 1 (1, .getfield 79, 3) rfl rfl) rfl clf_6 (by decide) rfl wd_644,
    st_iload_n hC (n := 2) (k := 1) (dc_X6_deep 2 (4, .iload_n 1, 1) rfl rfl) rfl rfl,
    st_callSN hC (n := 3) (na := 2) (con_X11_holds l) (dc_X6_deep 3 (5, .invokestatic 116, 3) rfl rfl) rfl wd_955 wd_143 (by decide) ⟨rfl, rfl, by decide, by decide⟩ hM ⟨"GivenUp", by decide⟩ wd_954,
    st_ifeq hC (n := 4) (dc_X6_deep 4 (8, .ifCond .eq 8, 3) rfl rfl) rfl (by decide),
    st_bipush hC (n := 5) (x := 99) (dc_X6_deep 5 (11, .bipush 99, 2) rfl rfl) rfl (by decide),
    st_goto hC (n := 6) (dc_X6_deep 6 (13, .goto 12, 3) rfl rfl) (by decide),
    st_aload_n hC (n := 7) (k := 0) (dc_X6_deep 7 (16, .aload_n 0, 1) rfl rfl) rfl rfl,
    st_getR hC (n := 8) (k := 6) (j := 9) (dc_X6_deep 8 (17, .getfield 40, 3) rfl rfl) rfl clf_6 (by decide) rfl (by decide) wd_605,
    st_iload_n hC (n := 9) (k := 1) (dc_X6_deep 9 (20, .iload_n 1, 1) rfl rfl) rfl rfl,
    st_iald hC (n := 10) (dc_X6_deep 10 (21, .iaload, 1) rfl rfl) rfl,
    st_callS hC (n := 11) (na := 1) (con_J6_bitCount_0f7a4 l) (dc_X6_deep 11 (22, .invokestatic 120, 3) rfl rfl) rfl wd_1071 wd_163 (by decide) ⟨rfl, rfl, by decide, by decide⟩ hM wd_1069 wd_1070,
    st_iret hC (n := 12) hR (dc_X6_deep 12 (25, .ireturn, 1) rfl rfl), trivial⟩
set_option maxRecDepth 8000 in
theorem vc_X6_deep : VC P_X6_deep 2 Pre_X6_deep Fn_X6_deep := by
  rintro mm as hom hoa ⟨g, t, N, ht, hN, eN, rfl⟩
  refine ⟨Nat.le_of_ble_eq_true rfl, fun X h => ?_⟩
  have et : (nI t).toNatClampNeg = t := nI_clamp (by omega)
  have en : (nI N).toNatClampNeg = N := nI_clamp (by omega)
  replace h : RUN P_X6_deep (fun r m' => (r, m') = (some (vI (if inS (mm.1 6 g 19) (nI t) then 99 else nI (pcN (mm.1 38 g (nI t).toNatClampNeg).toNatClampNeg))), mm)) X := h
  rw [et, eN, en] at h
  show X 0 [some (vR 6 g), some (vI (nI t))] [] mm
  refine h (fun _ => false) 3000 0 _ _ _ ?_
  refine And.intro (show Pre_X11_holds mm [vI (mm.1 6 g 19), vI (nI t)] from ⟨_, _, rfl⟩) ?_
  refine br_c (fun b4 => ?_) (fun b4 => ?_)
  · -- 4: bI (inS (mm.1 6 g 19) (nI t)) = 0 taken
    replace b4 : ¬ (inS (mm.1 6 g 19) (nI t)) := bI_0.mp b4
    (try simp only [et, eN, en] at b4)
    refine And.intro (show inb (nI t) (alen 38) = true from (inb_o 12 rfl rfl rfl (by omega))) ?_
    refine And.intro (show Pre_J6_bitCount_0f7a4 mm [vI (mm.1 38 g ((nI t).toNatClampNeg))] from ⟨N, hN, by rw [et, eN]⟩) ?_
    show ((some (vI (nI (pcN (mm.1 38 g ((nI t).toNatClampNeg)).toNatClampNeg))) : Option MV), mm) = _
    (try simp only [et, eN, en])
    refine leaf ?_
    rw [if_neg b4]
  · -- 4: bI (inS (mm.1 6 g 19) (nI t)) = 0 on
    replace b4 : inS (mm.1 6 g 19) (nI t) := bI_n0.mp b4
    (try simp only [et, eN, en] at b4)
    show ((some (vI 99) : Option MV), mm) = _
    (try simp only [et, eN, en])
    refine leaf ?_
    rw [if_pos b4]
theorem con_X6_deep (l : Launch) : CON l y_X6_deep prog_8_method_8_code 2 (some .int) rm_X6_deep Pre_X6_deep Fn_X6_deep := CON_of (by decide) rfl rfl (sa_X6_deep l) vc_X6_deep
def fiC (a : Nat → Int32) (x : Int32) : Nat → Int32
  | 0 => 0
  | t + 1 => fiC a x t ||| (if inS x (nI t) ∧ a (46 + 3 * t) &&& x = 0 then 1 <<< (nI t &&& 31) else 0)
def laC (a : Nat → Int32) (x : Int32) : Nat → Int32
  | 0 => x
  | t + 1 => if inS x (nI t) then laC a x t &&& (a (46 + 3 * t) ^^^ (-1)) else laC a x t

--tpl ⟨_, _, _, _, by assumption, _, rfl⟩ || fiC (abV {m} {g0}) {1} ({r 1 6 {g0} 15}).toNatClampNeg
def Pre_X6_firsts : PreT := fun m as => ∃ g ns nm nt, VC2 m g ns nm nt ∧ ∃ x : Int32, as = [vR 6 g, vI x]
def Fn_X6_firsts : FnT := fun m as => match as with
  | [Sum.inr (Sum.inr q), Sum.inl x] => (some (vI (fiC (abV m q.2) x (m.1 6 q.2 15).toNatClampNeg)), m)
  | _ => (none, m)
abbrev y_X6_firsts : MethodName := ⟨"GivenUp$Valley", "firsts", "(I)I"⟩
def P_X6_firsts : List StpT := [s_ic (0), s_istore 2, s_ic (0), s_istore 3, s_iload 3, s_aload 0, s_getI 6 15, s_icge 27, s_iload 1, s_iload 3, s_callS 2 Pre_X11_holds Fn_X11_holds, s_ifeq 25, s_aload 0, s_getR 6 8 37, s_iload 3, s_iald, s_iload 1, s_iand, s_ifne 25, s_iload 2, s_ic (1), s_iload 3, s_ishl, s_ior, s_istore 2, s_iinc 3 (1), s_goto 4, s_iload 2, s_iret]
def pc_X6_firsts : Nat → Nat := fun i => [0, 1, 2, 3, 4, 5, 6, 9, 12, 13, 14, 17, 20, 21, 24, 25, 26, 27, 28, 31, 32, 33, 34, 35, 36, 37, 40, 43, 44].getD i 0
def dl_X6_firsts : List (Nat × Instr × Nat) := [(0, .iconst 0, 1), (1, .istore_n 2, 1), (2, .iconst 0, 1), (3, .istore_n 3, 1), (4, .iload_n 3, 1), (5, .aload_n 0, 1), (6, .getfield 67, 3), (9, .if_icmp .ge 34, 3), (12, .iload_n 1, 1), (13, .iload_n 3, 1), (14, .invokestatic 116, 3), (17, .ifCond .eq 20, 3), (20, .aload_n 0, 1), (21, .getfield 37, 3), (24, .iload_n 3, 1), (25, .iaload, 1), (26, .iload_n 1, 1), (27, .iand, 1), (28, .ifCond .ne 9, 3), (31, .iload_n 2, 1), (32, .iconst 1, 1), (33, .iload_n 3, 1), (34, .ishl, 1), (35, .ior, 1), (36, .istore_n 2, 1), (37, .iinc 3 1, 3), (40, .goto (-36), 3), (43, .iload_n 2, 1), (44, .ireturn, 1)]
theorem dc_X6_firsts : DEC prog_8_method_9_code pc_X6_firsts dl_X6_firsts := DEC_of (by decide +kernel)
abbrev rm_X6_firsts : Room := { frames := 1, cells := 0, slots := 0, locals := 21 }
set_option maxRecDepth 20000 in
theorem sa_X6_firsts (l : Launch) : SNDALL l prog_8_method_9_code "GivenUp$Valley" 4 (some .int) rm_X6_firsts P_X6_firsts pc_X6_firsts := fun p e s m args below meth c cells slots Q D dA ad A RR hC hR => by
  have hM := RTX_room (R := rm_X6_firsts) hR
  exact ⟨st_iconst hC (n := 0) (x := 0) (dc_X6_firsts 0 (0, .iconst 0, 1) rfl rfl) rfl (by decide),
    st_istore_n hC (n := 1) (k := 2) (dc_X6_firsts 1 (1, .istore_n 2, 1) rfl rfl) rfl rfl (by decide),
    st_iconst hC (n := 2) (x := 0) (dc_X6_firsts 2 (2, .iconst 0, 1) rfl rfl) rfl (by decide),
    st_istore_n hC (n := 3) (k := 3) (dc_X6_firsts 3 (3, .istore_n 3, 1) rfl rfl) rfl rfl (by decide),
    st_iload_n hC (n := 4) (k := 3) (dc_X6_firsts 4 (4, .iload_n 3, 1) rfl rfl) rfl rfl,
    st_aload_n hC (n := 5) (k := 0) (dc_X6_firsts 5 (5, .aload_n 0, 1) rfl rfl) rfl rfl,
    st_getI hC (n := 6) (k := 6) (j := 15) (dc_X6_firsts 6 (6, .getfield 67, 3) rfl rfl) rfl clf_6 (by decide) rfl wd_629,
    st_icge hC (n := 7) (dc_X6_firsts 7 (9, .if_icmp .ge 34, 3) rfl rfl) rfl (by decide),
    st_iload_n hC (n := 8) (k := 1) (dc_X6_firsts 8 (12, .iload_n 1, 1) rfl rfl) rfl rfl,
    st_iload_n hC (n := 9) (k := 3) (dc_X6_firsts 9 (13, .iload_n 3, 1) rfl rfl) rfl rfl,
    st_callSN hC (n := 10) (na := 2) (con_X11_holds l) (dc_X6_firsts 10 (14, .invokestatic 116, 3) rfl rfl) rfl wd_955 wd_143 (by decide) ⟨rfl, rfl, by decide, by decide⟩ hM ⟨"GivenUp", by decide⟩ wd_954,
    st_ifeq hC (n := 11) (dc_X6_firsts 11 (17, .ifCond .eq 20, 3) rfl rfl) rfl (by decide),
    st_aload_n hC (n := 12) (k := 0) (dc_X6_firsts 12 (20, .aload_n 0, 1) rfl rfl) rfl rfl,
    st_getR hC (n := 13) (k := 6) (j := 8) (dc_X6_firsts 13 (21, .getfield 37, 3) rfl rfl) rfl clf_6 (by decide) rfl (by decide) wd_601,
    st_iload_n hC (n := 14) (k := 3) (dc_X6_firsts 14 (24, .iload_n 3, 1) rfl rfl) rfl rfl,
    st_iald hC (n := 15) (dc_X6_firsts 15 (25, .iaload, 1) rfl rfl) rfl,
    st_iload_n hC (n := 16) (k := 1) (dc_X6_firsts 16 (26, .iload_n 1, 1) rfl rfl) rfl rfl,
    st_iand hC (n := 17) (dc_X6_firsts 17 (27, .iand, 1) rfl rfl) rfl,
    st_ifne hC (n := 18) (dc_X6_firsts 18 (28, .ifCond .ne 9, 3) rfl rfl) rfl (by decide),
    st_iload_n hC (n := 19) (k := 2) (dc_X6_firsts 19 (31, .iload_n 2, 1) rfl rfl) rfl rfl,
    st_iconst hC (n := 20) (x := 1) (dc_X6_firsts 20 (32, .iconst 1, 1) rfl rfl) rfl (by decide),
    st_iload_n hC (n := 21) (k := 3) (dc_X6_firsts 21 (33, .iload_n 3, 1) rfl rfl) rfl rfl,
    st_ishl hC (n := 22) (dc_X6_firsts 22 (34, .ishl, 1) rfl rfl) rfl,
    st_ior hC (n := 23) (dc_X6_firsts 23 (35, .ior, 1) rfl rfl) rfl,
    st_istore_n hC (n := 24) (k := 2) (dc_X6_firsts 24 (36, .istore_n 2, 1) rfl rfl) rfl rfl (by decide),
    st_iinc hC (n := 25) (x := 1) (dc_X6_firsts 25 (37, .iinc 3 1, 3) rfl rfl) rfl (by decide) (by decide),
    st_goto hC (n := 26) (dc_X6_firsts 26 (40, .goto (-36), 3) rfl rfl) (by decide),
    st_iload_n hC (n := 27) (k := 2) (dc_X6_firsts 27 (43, .iload_n 2, 1) rfl rfl) rfl rfl,
    st_iret hC (n := 28) hR (dc_X6_firsts 28 (44, .ireturn, 1) rfl rfl), trivial⟩
set_option maxRecDepth 8000 in
theorem vc_X6_firsts : VC P_X6_firsts 4 Pre_X6_firsts Fn_X6_firsts := by
  rintro mm as hom hoa ⟨g, ns, nm, n, hV, x, rfl⟩
  refine ⟨Nat.le_of_ble_eq_true rfl, fun X h => ?_⟩
  have hn : mm.1 6 g 15 = nI n := hV.1.2.2.1.1
  have hn12 : n ≤ 12 := hV.1.2.2.1.2
  have hF : Fn_X6_firsts mm [vR 6 g, vI x] = (some (vI (fiC (abV mm g) x n)), mm) := by
    show (some (vI (fiC (abV mm g) x (mm.1 6 g 15).toNatClampNeg)), mm) = _
    rw [hn, nI_clamp (by omega)]
  rw [hF] at h
  have loop : ∀ t, t ≤ n → X 4 [some (vR 6 g), some (vI (x)), some (vI (fiC (abV mm g) x t)), some (vI (nI t))] [] mm := by
    refine up_ind n ?_ (fun t ht ih => ?_)
    ·
      show X 4 [some (vR 6 g), some (vI x), some (vI (fiC (abV mm g) x n)), some (vI (nI n))] [] mm
      refine h (fun _ => false) 3000 4 _ _ _ ?_
      refine br_t (show mm.1 6 g 15 ≤ nI n from by rw [hn]; exact Int32.le_refl _) ?_
      show ((some (vI (fiC (abV mm g) x n)) : Option MV), mm) = _
      exact rfl
    · have et : (nI t).toNatClampNeg = t := nI_clamp (by omega)
      rw [fiC, ab_aft (show t < 12 by omega)] at ih
      have no : ¬ (inS x (nI t) ∧ mm.1 37 g t &&& x = 0) → X 25 [some (vR 6 g), some (vI (x)), some (vI (fiC (abV mm g) x t)), some (vI (nI t))] [] mm := by
        intro hc
        rw [if_neg hc, Int32.or_zero] at ih
        show X 25 [some (vR 6 g), some (vI x), some (vI (fiC (abV mm g) x t)), some (vI (nI t))] [] mm
        refine h (fun i => Nat.beq i 4) 3000 25 _ _ _ ?_
        show X 4 [some (vR 6 g), some (vI x), some (vI (fiC (abV mm g) x t)), some (vI ((nI t) + 1))] [] mm
        rw [nI_1]
        exact ih
      have yes : (inS x (nI t) ∧ mm.1 37 g t &&& x = 0) → X 19 [some (vR 6 g), some (vI (x)), some (vI (fiC (abV mm g) x t)), some (vI (nI t))] [] mm := by
        intro hc
        rw [if_pos hc] at ih
        show X 19 [some (vR 6 g), some (vI x), some (vI (fiC (abV mm g) x t)), some (vI (nI t))] [] mm
        refine h (fun i => Nat.beq i 4) 3000 19 _ _ _ ?_
        show X 4 [some (vR 6 g), some (vI x), some (vI ((fiC (abV mm g) x t) ||| (1 <<< ((nI t) &&& 31)))), some (vI ((nI t) + 1))] [] mm
        rw [nI_1]
        exact ih
      show X 4 [some (vR 6 g), some (vI x), some (vI (fiC (abV mm g) x t)), some (vI (nI t))] [] mm
      refine h (fun i => Nat.beq i 19 || Nat.beq i 25) 3000 4 _ _ _ ?_
      refine br_f (show ¬ (mm.1 6 g 15 ≤ nI t) from by rw [hn]; exact nI_ge ht (by omega)) ?_
      refine And.intro (show Pre_X11_holds mm [vI x, vI (nI t)] from ⟨_, _, rfl⟩) ?_
      refine br_c (fun b11 => ?_) (fun b11 => ?_)
      · -- 11: bI (inS x (nI t)) = 0 taken
        replace b11 : ¬ (inS x (nI t)) := bI_0.mp b11
        (try simp only [et] at b11)
        show X 25 [some (vR 6 g), some (vI x), some (vI (fiC (abV mm g) x t)), some (vI (nI t))] [] mm
        (try simp only [et])
        exact no (fun z => b11 z.1)
      · -- 11: bI (inS x (nI t)) = 0 on
        replace b11 : inS x (nI t) := bI_n0.mp b11
        (try simp only [et] at b11)
        refine And.intro (show inb (nI t) (alen 37) = true from (inb_o 12 rfl rfl rfl (by omega))) ?_
        refine brn_c (fun b18 => ?_) (fun b18 => ?_)
        · -- 18: (mm.1 37 g ((nI t).toNatClampNeg)) &&& x = 0 taken
          replace b18 : ¬ ((mm.1 37 g ((nI t).toNatClampNeg)) &&& x = 0) := b18
          (try simp only [et] at b18)
          show X 25 [some (vR 6 g), some (vI x), some (vI (fiC (abV mm g) x t)), some (vI (nI t))] [] mm
          (try simp only [et])
          exact no (fun z => b18 z.2)
        · -- 18: (mm.1 37 g ((nI t).toNatClampNeg)) &&& x = 0 on
          replace b18 : (mm.1 37 g ((nI t).toNatClampNeg)) &&& x = 0 := b18
          (try simp only [et] at b18)
          show X 19 [some (vR 6 g), some (vI x), some (vI (fiC (abV mm g) x t)), some (vI (nI t))] [] mm
          (try simp only [et])
          exact yes ⟨b11, b18⟩
  show X 0 [some (vR 6 g), some (vI x), none, none] [] mm
  refine h (fun i => Nat.beq i 4) 3000 0 _ _ _ ?_
  show X 4 [some (vR 6 g), some (vI x), some (vI 0), some (vI 0)] [] mm
  exact loop 0 (by omega)
theorem con_X6_firsts (l : Launch) : CON l y_X6_firsts prog_8_method_9_code 4 (some .int) rm_X6_firsts Pre_X6_firsts Fn_X6_firsts := CON_of (by decide) rfl rfl (sa_X6_firsts l) vc_X6_firsts
--tpl ⟨_, _, _, _, by assumption, _, rfl⟩ || laC (abV {m} {g0}) {1} ({r 1 6 {g0} 15}).toNatClampNeg
def Pre_X6_lasts : PreT := fun m as => ∃ g ns nm nt, VC2 m g ns nm nt ∧ ∃ x : Int32, as = [vR 6 g, vI x]
def Fn_X6_lasts : FnT := fun m as => match as with
  | [Sum.inr (Sum.inr q), Sum.inl x] => (some (vI (laC (abV m q.2) x (m.1 6 q.2 15).toNatClampNeg)), m)
  | _ => (none, m)
abbrev y_X6_lasts : MethodName := ⟨"GivenUp$Valley", "lasts", "(I)I"⟩
def P_X6_lasts : List StpT := [s_iload 1, s_istore 2, s_ic (0), s_istore 3, s_iload 3, s_aload 0, s_getI 6 15, s_icge 23, s_iload 1, s_iload 3, s_callS 2 Pre_X11_holds Fn_X11_holds, s_ifeq 21, s_iload 2, s_aload 0, s_getR 6 8 37, s_iload 3, s_iald, s_ic (-1), s_ixor, s_iand, s_istore 2, s_iinc 3 (1), s_goto 4, s_iload 2, s_iret]
def pc_X6_lasts : Nat → Nat := fun i => [0, 1, 2, 3, 4, 5, 6, 9, 12, 13, 14, 17, 20, 21, 22, 25, 26, 27, 28, 29, 30, 31, 34, 37, 38].getD i 0
def dl_X6_lasts : List (Nat × Instr × Nat) := [(0, .iload_n 1, 1), (1, .istore_n 2, 1), (2, .iconst 0, 1), (3, .istore_n 3, 1), (4, .iload_n 3, 1), (5, .aload_n 0, 1), (6, .getfield 67, 3), (9, .if_icmp .ge 28, 3), (12, .iload_n 1, 1), (13, .iload_n 3, 1), (14, .invokestatic 116, 3), (17, .ifCond .eq 14, 3), (20, .iload_n 2, 1), (21, .aload_n 0, 1), (22, .getfield 37, 3), (25, .iload_n 3, 1), (26, .iaload, 1), (27, .iconst (-1), 1), (28, .ixor, 1), (29, .iand, 1), (30, .istore_n 2, 1), (31, .iinc 3 1, 3), (34, .goto (-30), 3), (37, .iload_n 2, 1), (38, .ireturn, 1)]
theorem dc_X6_lasts : DEC prog_8_method_10_code pc_X6_lasts dl_X6_lasts := DEC_of (by decide +kernel)
abbrev rm_X6_lasts : Room := { frames := 1, cells := 0, slots := 0, locals := 21 }
set_option maxRecDepth 20000 in
theorem sa_X6_lasts (l : Launch) : SNDALL l prog_8_method_10_code "GivenUp$Valley" 4 (some .int) rm_X6_lasts P_X6_lasts pc_X6_lasts := fun p e s m args below meth c cells slots Q D dA ad A RR hC hR => by
  have hM := RTX_room (R := rm_X6_lasts) hR
  exact ⟨st_iload_n hC (n := 0) (k := 1) (dc_X6_lasts 0 (0, .iload_n 1, 1) rfl rfl) rfl rfl,
    st_istore_n hC (n := 1) (k := 2) (dc_X6_lasts 1 (1, .istore_n 2, 1) rfl rfl) rfl rfl (by decide),
    st_iconst hC (n := 2) (x := 0) (dc_X6_lasts 2 (2, .iconst 0, 1) rfl rfl) rfl (by decide),
    st_istore_n hC (n := 3) (k := 3) (dc_X6_lasts 3 (3, .istore_n 3, 1) rfl rfl) rfl rfl (by decide),
    st_iload_n hC (n := 4) (k := 3) (dc_X6_lasts 4 (4, .iload_n 3, 1) rfl rfl) rfl rfl,
    st_aload_n hC (n := 5) (k := 0) (dc_X6_lasts 5 (5, .aload_n 0, 1) rfl rfl) rfl rfl,
    st_getI hC (n := 6) (k := 6) (j := 15) (dc_X6_lasts 6 (6, .getfield 67, 3) rfl rfl) rfl clf_6 (by decide) rfl wd_629,
    st_icge hC (n := 7) (dc_X6_lasts 7 (9, .if_icmp .ge 28, 3) rfl rfl) rfl (by decide),
    st_iload_n hC (n := 8) (k := 1) (dc_X6_lasts 8 (12, .iload_n 1, 1) rfl rfl) rfl rfl,
    st_iload_n hC (n := 9) (k := 3) (dc_X6_lasts 9 (13, .iload_n 3, 1) rfl rfl) rfl rfl,
    st_callSN hC (n := 10) (na := 2) (con_X11_holds l) (dc_X6_lasts 10 (14, .invokestatic 116, 3) rfl rfl) rfl wd_955 wd_143 (by decide) ⟨rfl, rfl, by decide, by decide⟩ hM ⟨"GivenUp", by decide⟩ wd_954,
    st_ifeq hC (n := 11) (dc_X6_lasts 11 (17, .ifCond .eq 14, 3) rfl rfl) rfl (by decide),
    st_iload_n hC (n := 12) (k := 2) (dc_X6_lasts 12 (20, .iload_n 2, 1) rfl rfl) rfl rfl,
    st_aload_n hC (n := 13) (k := 0) (dc_X6_lasts 13 (21, .aload_n 0, 1) rfl rfl) rfl rfl,
    st_getR hC (n := 14) (k := 6) (j := 8) (dc_X6_lasts 14 (22, .getfield 37, 3) rfl rfl) rfl clf_6 (by decide) rfl (by decide) wd_601,
    st_iload_n hC (n := 15) (k := 3) (dc_X6_lasts 15 (25, .iload_n 3, 1) rfl rfl) rfl rfl,
    st_iald hC (n := 16) (dc_X6_lasts 16 (26, .iaload, 1) rfl rfl) rfl,
    st_iconst hC (n := 17) (x := (-1)) (dc_X6_lasts 17 (27, .iconst (-1), 1) rfl rfl) rfl (by decide),
    st_ixor hC (n := 18) (dc_X6_lasts 18 (28, .ixor, 1) rfl rfl) rfl,
    st_iand hC (n := 19) (dc_X6_lasts 19 (29, .iand, 1) rfl rfl) rfl,
    st_istore_n hC (n := 20) (k := 2) (dc_X6_lasts 20 (30, .istore_n 2, 1) rfl rfl) rfl rfl (by decide),
    st_iinc hC (n := 21) (x := 1) (dc_X6_lasts 21 (31, .iinc 3 1, 3) rfl rfl) rfl (by decide) (by decide),
    st_goto hC (n := 22) (dc_X6_lasts 22 (34, .goto (-30), 3) rfl rfl) (by decide),
    st_iload_n hC (n := 23) (k := 2) (dc_X6_lasts 23 (37, .iload_n 2, 1) rfl rfl) rfl rfl,
    st_iret hC (n := 24) hR (dc_X6_lasts 24 (38, .ireturn, 1) rfl rfl), trivial⟩
set_option maxRecDepth 8000 in
theorem vc_X6_lasts : VC P_X6_lasts 4 Pre_X6_lasts Fn_X6_lasts := by
  rintro mm as hom hoa ⟨g, ns, nm, n, hV, x, rfl⟩
  refine ⟨Nat.le_of_ble_eq_true rfl, fun X h => ?_⟩
  have hn : mm.1 6 g 15 = nI n := hV.1.2.2.1.1
  have hn12 : n ≤ 12 := hV.1.2.2.1.2
  have hF : Fn_X6_lasts mm [vR 6 g, vI x] = (some (vI (laC (abV mm g) x n)), mm) := by
    show (some (vI (laC (abV mm g) x (mm.1 6 g 15).toNatClampNeg)), mm) = _
    rw [hn, nI_clamp (by omega)]
  rw [hF] at h
  have loop : ∀ t, t ≤ n → X 4 [some (vR 6 g), some (vI (x)), some (vI (laC (abV mm g) x t)), some (vI (nI t))] [] mm := by
    refine up_ind n ?_ (fun t ht ih => ?_)
    ·
      show X 4 [some (vR 6 g), some (vI x), some (vI (laC (abV mm g) x n)), some (vI (nI n))] [] mm
      refine h (fun _ => false) 3000 4 _ _ _ ?_
      refine br_t (show mm.1 6 g 15 ≤ nI n from by rw [hn]; exact Int32.le_refl _) ?_
      show ((some (vI (laC (abV mm g) x n)) : Option MV), mm) = _
      exact rfl
    · have et : (nI t).toNatClampNeg = t := nI_clamp (by omega)
      rw [laC, ab_aft (show t < 12 by omega)] at ih
      show X 4 [some (vR 6 g), some (vI x), some (vI (laC (abV mm g) x t)), some (vI (nI t))] [] mm
      refine h (fun i => Nat.beq i 4) 3000 4 _ _ _ ?_
      refine br_f (show ¬ (mm.1 6 g 15 ≤ nI t) from by rw [hn]; exact nI_ge ht (by omega)) ?_
      refine And.intro (show Pre_X11_holds mm [vI x, vI (nI t)] from ⟨_, _, rfl⟩) ?_
      refine br_c (fun b11 => ?_) (fun b11 => ?_)
      · -- 11: bI (inS x (nI t)) = 0 taken
        replace b11 : ¬ (inS x (nI t)) := bI_0.mp b11
        (try simp only [et] at b11)
        show X 4 [some (vR 6 g), some (vI x), some (vI (laC (abV mm g) x t)), some (vI ((nI t) + 1))] [] mm
        (try simp only [et])
        rw [if_neg b11] at ih
        rw [nI_1] 
        exact ih
      · -- 11: bI (inS x (nI t)) = 0 on
        replace b11 : inS x (nI t) := bI_n0.mp b11
        (try simp only [et] at b11)
        refine And.intro (show inb (nI t) (alen 37) = true from (inb_o 12 rfl rfl rfl (by omega))) ?_
        show X 4 [some (vR 6 g), some (vI x), some (vI ((laC (abV mm g) x t) &&& ((mm.1 37 g ((nI t).toNatClampNeg)) ^^^ (-1)))), some (vI ((nI t) + 1))] [] mm
        (try simp only [et])
        rw [if_pos b11] at ih
        rw [nI_1] 
        exact ih
  show X 0 [some (vR 6 g), some (vI x), none, none] [] mm
  refine h (fun i => Nat.beq i 4) 3000 0 _ _ _ ?_
  show X 4 [some (vR 6 g), some (vI x), some (vI x), some (vI 0)] [] mm
  exact loop 0 (by omega)
theorem con_X6_lasts (l : Launch) : CON l y_X6_lasts prog_8_method_10_code 4 (some .int) rm_X6_lasts Pre_X6_lasts Fn_X6_lasts := CON_of (by decide) rfl rfl (sa_X6_lasts l) vc_X6_lasts
theorem mRow_ne {m : MM} {k g h : Nat} {f : Nat → Int32} (e : h ≠ g) : (mRow m k g f).1 k h = m.1 k h := if_neg (fun z => e z.2)
theorem mRowL_ne {m : MM} {k g h : Nat} {f : Nat → Int64} (e : h ≠ g) : (mRowL m k g f).2.1 k h = m.2.1 k h := if_neg (fun z => e z.2)
/-- a row's first n are another one's -/
def cpF2 (m : MM) (k g h n : Nat) : MM := mRow m k g (va_cpy (m.1 k h) (m.1 k g) 0 0 n)
def cpF3 (m : MM) (k g h n : Nat) : MM := mRowL m k g (va_cpy (m.2.1 k h) (m.2.1 k g) 0 0 n)
def cpI (m : MM) (k g h j : Nat) : MM := mI m k g j (m.1 k h j)
def dcM (m : MM) (g h : Nat) : MM := cpI (cpI (cpI (cpF2 (cpF2 (cpF2 (cpF2 m 16 g h 4) 17 g h 4) 18 g h 4) 19 g h 4) 1 g h 4) 1 g h 5) 1 g h 6
def ycM (m : MM) (g h : Nat) : MM := cpI (cpI (cpI (cpF2 (cpF2 (cpF2 (cpF2 (cpF2 (cpF2 m 43 g h 60) 44 g h 60) 45 g h 60) 46 g h 60) 47 g h 60) 48 g h 60) 9 g h 6) 9 g h 7) 9 g h 8
def vcM1 (m : MM) (g h : Nat) : MM := cpF2 (cpF2 (cpF2 (cpF2 (cpF2 (cpF2 (cpF2 (cpF2 (cpF2 (cpF2 (cpF3 m 29 g h 20) 30 g h 4) 31 g h 16) 32 g h 4) 33 g h 4) 34 g h 4) 35 g h 12) 36 g h 12) 37 g h 12) 38 g h 12) 39 g h 48
def vcM2 (m : MM) (g h : Nat) : MM := cpI (cpI (cpI (cpI (cpI (cpI (cpI m 6 g h 13) 6 g h 14) 6 g h 15) 6 g h 16) 6 g h 17) 6 g h 18) 6 g h 19
def vcM (m : MM) (g h : Nat) : MM := vcM2 (ycM (dcM (vcM1 m g h) g h) g h) g h

--tpl ⟨_, _, rfl⟩ ||  || dcM {m} {g0} {g1}
def Pre_X1_copy : PreT := fun _ as => ∃ g h : Nat, as = [vR 1 g, vR 1 h]
def Fn_X1_copy : FnT := fun m as => match as with
  | [Sum.inr (Sum.inr q), Sum.inr (Sum.inr r)] => (none, dcM m q.2 r.2)
  | _ => (none, m)
abbrev y_X1_copy : MethodName := ⟨"GivenUp$Deeds", "copy", "(LGivenUp$Deeds;)V"⟩
def P_X1_copy : List StpT := [s_aload 1, s_getR 1 0 16, s_ic (0), s_aload 0, s_getR 1 0 16, s_ic (0), s_ic (4), s_acI, s_aload 1, s_getR 1 1 17, s_ic (0), s_aload 0, s_getR 1 1 17, s_ic (0), s_ic (4), s_acI, s_aload 1, s_getR 1 2 18, s_ic (0), s_aload 0, s_getR 1 2 18, s_ic (0), s_ic (4), s_acI, s_aload 1, s_getR 1 3 19, s_ic (0), s_aload 0, s_getR 1 3 19, s_ic (0), s_ic (4), s_acI, s_aload 0, s_aload 1, s_getI 1 4, s_putI 1 4, s_aload 0, s_aload 1, s_getI 1 5, s_putI 1 5, s_aload 0, s_aload 1, s_getI 1 6, s_putI 1 6, s_vret]
def pc_X1_copy : Nat → Nat := fun i => [0, 1, 4, 5, 6, 9, 10, 11, 14, 15, 18, 19, 20, 23, 24, 25, 28, 29, 32, 33, 34, 37, 38, 39, 42, 43, 46, 47, 48, 51, 52, 53, 56, 57, 58, 61, 64, 65, 66, 69, 72, 73, 74, 77, 80].getD i 0
def dl_X1_copy : List (Nat × Instr × Nat) := [(0, .aload_n 1, 1), (1, .getfield 9, 3), (4, .iconst 0, 1), (5, .aload_n 0, 1), (6, .getfield 9, 3), (9, .iconst 0, 1), (10, .iconst 4, 1), (11, .invokestatic 40, 3), (14, .aload_n 1, 1), (15, .getfield 15, 3), (18, .iconst 0, 1), (19, .aload_n 0, 1), (20, .getfield 15, 3), (23, .iconst 0, 1), (24, .iconst 4, 1), (25, .invokestatic 40, 3), (28, .aload_n 1, 1), (29, .getfield 18, 3), (32, .iconst 0, 1), (33, .aload_n 0, 1), (34, .getfield 18, 3), (37, .iconst 0, 1), (38, .iconst 4, 1), (39, .invokestatic 40, 3), (42, .aload_n 1, 1), (43, .getfield 21, 3), (46, .iconst 0, 1), (47, .aload_n 0, 1), (48, .getfield 21, 3), (51, .iconst 0, 1), (52, .iconst 4, 1), (53, .invokestatic 40, 3), (56, .aload_n 0, 1), (57, .aload_n 1, 1), (58, .getfield 24, 3), (61, .putfield 24, 3), (64, .aload_n 0, 1), (65, .aload_n 1, 1), (66, .getfield 28, 3), (69, .putfield 28, 3), (72, .aload_n 0, 1), (73, .aload_n 1, 1), (74, .getfield 31, 3), (77, .putfield 31, 3), (80, .return_, 1)]
theorem dc_X1_copy : DEC prog_3_method_3_code pc_X1_copy dl_X1_copy := DEC_of (by decide +kernel)
abbrev rm_X1_copy : Room := { frames := 1, cells := 0, slots := 0, locals := 26 }
set_option maxRecDepth 20000 in
theorem sa_X1_copy (l : Launch) : SNDALL l prog_3_method_3_code "GivenUp$Deeds" 2 none rm_X1_copy P_X1_copy pc_X1_copy := fun p e s m args below meth c cells slots Q D dA ad A RR hC hR => by
  have hM := RTX_room (R := rm_X1_copy) hR
  exact ⟨st_aload_n hC (n := 0) (k := 1) (dc_X1_copy 0 (0, .aload_n 1, 1) rfl rfl) rfl rfl,
    st_getR hC (n := 1) (k := 1) (j := 0) (dc_X1_copy 1 (1, .getfield 9, 3) rfl rfl) rfl clf_1 (by decide) rfl (by decide) wd_463,
    st_iconst hC (n := 2) (x := 0) (dc_X1_copy 2 (4, .iconst 0, 1) rfl rfl) rfl (by decide),
    st_aload_n hC (n := 3) (k := 0) (dc_X1_copy 3 (5, .aload_n 0, 1) rfl rfl) rfl rfl,
    st_getR hC (n := 4) (k := 1) (j := 0) (dc_X1_copy 4 (6, .getfield 9, 3) rfl rfl) rfl clf_1 (by decide) rfl (by decide) wd_463,
    st_iconst hC (n := 5) (x := 0) (dc_X1_copy 5 (9, .iconst 0, 1) rfl rfl) rfl (by decide),
    st_iconst hC (n := 6) (x := 4) (dc_X1_copy 6 (10, .iconst 4, 1) rfl rfl) rfl (by decide),
    st_acI hC (n := 7) (dc_X1_copy 7 (11, .invokestatic 40, 3) rfl rfl) rfl wd_1532 wd_831 wd_830 wd_161 (by decide) (by decide),
    st_aload_n hC (n := 8) (k := 1) (dc_X1_copy 8 (14, .aload_n 1, 1) rfl rfl) rfl rfl,
    st_getR hC (n := 9) (k := 1) (j := 1) (dc_X1_copy 9 (15, .getfield 15, 3) rfl rfl) rfl clf_1 (by decide) rfl (by decide) wd_467,
    st_iconst hC (n := 10) (x := 0) (dc_X1_copy 10 (18, .iconst 0, 1) rfl rfl) rfl (by decide),
    st_aload_n hC (n := 11) (k := 0) (dc_X1_copy 11 (19, .aload_n 0, 1) rfl rfl) rfl rfl,
    st_getR hC (n := 12) (k := 1) (j := 1) (dc_X1_copy 12 (20, .getfield 15, 3) rfl rfl) rfl clf_1 (by decide) rfl (by decide) wd_467,
    st_iconst hC (n := 13) (x := 0) (dc_X1_copy 13 (23, .iconst 0, 1) rfl rfl) rfl (by decide),
    st_iconst hC (n := 14) (x := 4) (dc_X1_copy 14 (24, .iconst 4, 1) rfl rfl) rfl (by decide),
    st_acI hC (n := 15) (dc_X1_copy 15 (25, .invokestatic 40, 3) rfl rfl) rfl wd_1532 wd_831 wd_830 wd_161 (by decide) (by decide),
    st_aload_n hC (n := 16) (k := 1) (dc_X1_copy 16 (28, .aload_n 1, 1) rfl rfl) rfl rfl,
    st_getR hC (n := 17) (k := 1) (j := 2) (dc_X1_copy 17 (29, .getfield 18, 3) rfl rfl) rfl clf_1 (by decide) rfl (by decide) wd_471,
    st_iconst hC (n := 18) (x := 0) (dc_X1_copy 18 (32, .iconst 0, 1) rfl rfl) rfl (by decide),
    st_aload_n hC (n := 19) (k := 0) (dc_X1_copy 19 (33, .aload_n 0, 1) rfl rfl) rfl rfl,
    st_getR hC (n := 20) (k := 1) (j := 2) (dc_X1_copy 20 (34, .getfield 18, 3) rfl rfl) rfl clf_1 (by decide) rfl (by decide) wd_471,
    st_iconst hC (n := 21) (x := 0) (dc_X1_copy 21 (37, .iconst 0, 1) rfl rfl) rfl (by decide),
    st_iconst hC (n := 22) (x := 4) (dc_X1_copy 22 (38, .iconst 4, 1) rfl rfl) rfl (by decide),
    st_acI hC (n := 23) (dc_X1_copy 23 (39, .invokestatic 40, 3) rfl rfl) rfl wd_1532 wd_831 wd_830 wd_161 (by decide) (by decide),
    st_aload_n hC (n := 24) (k := 1) (dc_X1_copy 24 (42, .aload_n 1, 1) rfl rfl) rfl rfl,
    st_getR hC (n := 25) (k := 1) (j := 3) (dc_X1_copy 25 (43, .getfield 21, 3) rfl rfl) rfl clf_1 (by decide) rfl (by decide) wd_474,
    st_iconst hC (n := 26) (x := 0) (dc_X1_copy 26 (46, .iconst 0, 1) rfl rfl) rfl (by decide),
    st_aload_n hC (n := 27) (k := 0) (dc_X1_copy 27 (47, .aload_n 0, 1) rfl rfl) rfl rfl,
    st_getR hC (n := 28) (k := 1) (j := 3) (dc_X1_copy 28 (48, .getfield 21, 3) rfl rfl) rfl clf_1 (by decide) rfl (by decide) wd_474,
    st_iconst hC (n := 29) (x := 0) (dc_X1_copy 29 (51, .iconst 0, 1) rfl rfl) rfl (by decide),
    st_iconst hC (n := 30) (x := 4) (dc_X1_copy 30 (52, .iconst 4, 1) rfl rfl) rfl (by decide),
    st_acI hC (n := 31) (dc_X1_copy 31 (53, .invokestatic 40, 3) rfl rfl) rfl wd_1532 wd_831 wd_830 wd_161 (by decide) (by decide),
    st_aload_n hC (n := 32) (k := 0) (dc_X1_copy 32 (56, .aload_n 0, 1) rfl rfl) rfl rfl,
    st_aload_n hC (n := 33) (k := 1) (dc_X1_copy 33 (57, .aload_n 1, 1) rfl rfl) rfl rfl,
    st_getI hC (n := 34) (k := 1) (j := 4) (dc_X1_copy 34 (58, .getfield 24, 3) rfl rfl) rfl clf_1 (by decide) rfl wd_477,
    st_putI hC (n := 35) (k := 1) (j := 4) (dc_X1_copy 35 (61, .putfield 24, 3) rfl rfl) rfl clf_1 (by decide) rfl rfl rfl wd_477,
    st_aload_n hC (n := 36) (k := 0) (dc_X1_copy 36 (64, .aload_n 0, 1) rfl rfl) rfl rfl,
    st_aload_n hC (n := 37) (k := 1) (dc_X1_copy 37 (65, .aload_n 1, 1) rfl rfl) rfl rfl,
    st_getI hC (n := 38) (k := 1) (j := 5) (dc_X1_copy 38 (66, .getfield 28, 3) rfl rfl) rfl clf_1 (by decide) rfl wd_481,
    st_putI hC (n := 39) (k := 1) (j := 5) (dc_X1_copy 39 (69, .putfield 28, 3) rfl rfl) rfl clf_1 (by decide) rfl rfl rfl wd_481,
    st_aload_n hC (n := 40) (k := 0) (dc_X1_copy 40 (72, .aload_n 0, 1) rfl rfl) rfl rfl,
    st_aload_n hC (n := 41) (k := 1) (dc_X1_copy 41 (73, .aload_n 1, 1) rfl rfl) rfl rfl,
    st_getI hC (n := 42) (k := 1) (j := 6) (dc_X1_copy 42 (74, .getfield 31, 3) rfl rfl) rfl clf_1 (by decide) rfl wd_485,
    st_putI hC (n := 43) (k := 1) (j := 6) (dc_X1_copy 43 (77, .putfield 31, 3) rfl rfl) rfl clf_1 (by decide) rfl rfl rfl wd_485,
    st_vret hC (n := 44) hR (dc_X1_copy 44 (80, .return_, 1) rfl rfl), trivial⟩
set_option maxRecDepth 8000 in
theorem vc_X1_copy : VC P_X1_copy 2 Pre_X1_copy Fn_X1_copy := by
  rintro mm as hom hoa ⟨g, h0, rfl⟩
  refine ⟨Nat.le_of_ble_eq_true rfl, fun X h => ?_⟩
  show X 0 [some (vR 1 g), some (vR 1 h0)] [] mm
  refine h (fun _ => false) 3000 0 _ _ _ ?_
  refine And.intro (by decide) ?_
  refine And.intro (by decide) ?_
  refine And.intro (by decide) ?_
  refine And.intro (by decide) ?_
  show ((none : Option MV), mI (mI (mI (mRow (mRow (mRow (mRow mm 16 g (va_cpy (mm.1 16 h0) (mm.1 16 g) 0 0 4)) 17 g (va_cpy (mm.1 17 h0) (mm.1 17 g) 0 0 4)) 18 g (va_cpy (mm.1 18 h0) (mm.1 18 g) 0 0 4)) 19 g (va_cpy (mm.1 19 h0) (mm.1 19 g) 0 0 4)) 1 g 4 (mm.1 1 h0 4)) 1 g 5 ((mI (mRow (mRow (mRow (mRow mm 16 g (va_cpy (mm.1 16 h0) (mm.1 16 g) 0 0 4)) 17 g (va_cpy (mm.1 17 h0) (mm.1 17 g) 0 0 4)) 18 g (va_cpy (mm.1 18 h0) (mm.1 18 g) 0 0 4)) 19 g (va_cpy (mm.1 19 h0) (mm.1 19 g) 0 0 4)) 1 g 4 (mm.1 1 h0 4)).1 1 h0 5)) 1 g 6 ((mI (mI (mRow (mRow (mRow (mRow mm 16 g (va_cpy (mm.1 16 h0) (mm.1 16 g) 0 0 4)) 17 g (va_cpy (mm.1 17 h0) (mm.1 17 g) 0 0 4)) 18 g (va_cpy (mm.1 18 h0) (mm.1 18 g) 0 0 4)) 19 g (va_cpy (mm.1 19 h0) (mm.1 19 g) 0 0 4)) 1 g 4 (mm.1 1 h0 4)) 1 g 5 ((mI (mRow (mRow (mRow (mRow mm 16 g (va_cpy (mm.1 16 h0) (mm.1 16 g) 0 0 4)) 17 g (va_cpy (mm.1 17 h0) (mm.1 17 g) 0 0 4)) 18 g (va_cpy (mm.1 18 h0) (mm.1 18 g) 0 0 4)) 19 g (va_cpy (mm.1 19 h0) (mm.1 19 g) 0 0 4)) 1 g 4 (mm.1 1 h0 4)).1 1 h0 5)).1 1 h0 6)) = _
  exact rfl
theorem con_X1_copy (l : Launch) : CON l y_X1_copy prog_3_method_3_code 2 none rm_X1_copy Pre_X1_copy Fn_X1_copy := CON_of (by decide) rfl rfl (sa_X1_copy l) vc_X1_copy
--tpl ⟨_, _, by assumption, rfl⟩ ||  || ycM {m} {g0} {g1}
def Pre_X9_copy : PreT := fun m as => ∃ g h : Nat, (m.1 9 h 6 = 0 ∨ m.1 9 h 6 = 1) ∧ as = [vR 9 g, vR 9 h]
def Fn_X9_copy : FnT := fun m as => match as with
  | [Sum.inr (Sum.inr q), Sum.inr (Sum.inr r)] => (none, ycM m q.2 r.2)
  | _ => (none, m)
abbrev y_X9_copy : MethodName := ⟨"GivenUp$Years", "copy", "(LGivenUp$Years;)V"⟩
def P_X9_copy : List StpT := [s_aload 1, s_getR 9 0 43, s_ic (0), s_aload 0, s_getR 9 0 43, s_ic (0), s_ic (60), s_acI, s_aload 1, s_getR 9 1 44, s_ic (0), s_aload 0, s_getR 9 1 44, s_ic (0), s_ic (60), s_acI, s_aload 1, s_getR 9 2 45, s_ic (0), s_aload 0, s_getR 9 2 45, s_ic (0), s_ic (60), s_acI, s_aload 1, s_getR 9 3 46, s_ic (0), s_aload 0, s_getR 9 3 46, s_ic (0), s_ic (60), s_acI, s_aload 1, s_getR 9 4 47, s_ic (0), s_aload 0, s_getR 9 4 47, s_ic (0), s_ic (60), s_acI, s_aload 1, s_getR 9 5 48, s_ic (0), s_aload 0, s_getR 9 5 48, s_ic (0), s_ic (60), s_acI, s_aload 0, s_aload 1, s_getI 9 6, s_putZ 9 6, s_aload 0, s_aload 1, s_getI 9 7, s_putI 9 7, s_aload 0, s_aload 1, s_getI 9 8, s_putI 9 8, s_vret]
def pc_X9_copy : Nat → Nat := fun i => [0, 1, 4, 5, 6, 9, 10, 12, 15, 16, 19, 20, 21, 24, 25, 27, 30, 31, 34, 35, 36, 39, 40, 42, 45, 46, 49, 50, 51, 54, 55, 57, 60, 61, 64, 65, 66, 69, 70, 72, 75, 76, 79, 80, 81, 84, 85, 87, 90, 91, 92, 95, 98, 99, 100, 103, 106, 107, 108, 111, 114].getD i 0
def dl_X9_copy : List (Nat × Instr × Nat) := [(0, .aload_n 1, 1), (1, .getfield 9, 3), (4, .iconst 0, 1), (5, .aload_n 0, 1), (6, .getfield 9, 3), (9, .iconst 0, 1), (10, .bipush 60, 2), (12, .invokestatic 41, 3), (15, .aload_n 1, 1), (16, .getfield 15, 3), (19, .iconst 0, 1), (20, .aload_n 0, 1), (21, .getfield 15, 3), (24, .iconst 0, 1), (25, .bipush 60, 2), (27, .invokestatic 41, 3), (30, .aload_n 1, 1), (31, .getfield 18, 3), (34, .iconst 0, 1), (35, .aload_n 0, 1), (36, .getfield 18, 3), (39, .iconst 0, 1), (40, .bipush 60, 2), (42, .invokestatic 41, 3), (45, .aload_n 1, 1), (46, .getfield 21, 3), (49, .iconst 0, 1), (50, .aload_n 0, 1), (51, .getfield 21, 3), (54, .iconst 0, 1), (55, .bipush 60, 2), (57, .invokestatic 41, 3), (60, .aload_n 1, 1), (61, .getfield 24, 3), (64, .iconst 0, 1), (65, .aload_n 0, 1), (66, .getfield 24, 3), (69, .iconst 0, 1), (70, .bipush 60, 2), (72, .invokestatic 41, 3), (75, .aload_n 1, 1), (76, .getfield 27, 3), (79, .iconst 0, 1), (80, .aload_n 0, 1), (81, .getfield 27, 3), (84, .iconst 0, 1), (85, .bipush 60, 2), (87, .invokestatic 41, 3), (90, .aload_n 0, 1), (91, .aload_n 1, 1), (92, .getfield 30, 3), (95, .putfield 30, 3), (98, .aload_n 0, 1), (99, .aload_n 1, 1), (100, .getfield 34, 3), (103, .putfield 34, 3), (106, .aload_n 0, 1), (107, .aload_n 1, 1), (108, .getfield 38, 3), (111, .putfield 38, 3), (114, .return_, 1)]
theorem dc_X9_copy : DEC prog_11_method_3_code pc_X9_copy dl_X9_copy := DEC_of (by decide +kernel)
abbrev rm_X9_copy : Room := { frames := 1, cells := 0, slots := 0, locals := 26 }
set_option maxRecDepth 20000 in
theorem sa_X9_copy (l : Launch) : SNDALL l prog_11_method_3_code "GivenUp$Years" 2 none rm_X9_copy P_X9_copy pc_X9_copy := fun p e s m args below meth c cells slots Q D dA ad A RR hC hR => by
  have hM := RTX_room (R := rm_X9_copy) hR
  exact ⟨st_aload_n hC (n := 0) (k := 1) (dc_X9_copy 0 (0, .aload_n 1, 1) rfl rfl) rfl rfl,
    st_getR hC (n := 1) (k := 9) (j := 0) (dc_X9_copy 1 (1, .getfield 9, 3) rfl rfl) rfl clf_9 (by decide) rfl (by decide) wd_510,
    st_iconst hC (n := 2) (x := 0) (dc_X9_copy 2 (4, .iconst 0, 1) rfl rfl) rfl (by decide),
    st_aload_n hC (n := 3) (k := 0) (dc_X9_copy 3 (5, .aload_n 0, 1) rfl rfl) rfl rfl,
    st_getR hC (n := 4) (k := 9) (j := 0) (dc_X9_copy 4 (6, .getfield 9, 3) rfl rfl) rfl clf_9 (by decide) rfl (by decide) wd_510,
    st_iconst hC (n := 5) (x := 0) (dc_X9_copy 5 (9, .iconst 0, 1) rfl rfl) rfl (by decide),
    st_bipush hC (n := 6) (x := 60) (dc_X9_copy 6 (10, .bipush 60, 2) rfl rfl) rfl (by decide),
    st_acI hC (n := 7) (dc_X9_copy 7 (12, .invokestatic 41, 3) rfl rfl) rfl wd_1007 wd_831 wd_830 wd_161 (by decide) (by decide),
    st_aload_n hC (n := 8) (k := 1) (dc_X9_copy 8 (15, .aload_n 1, 1) rfl rfl) rfl rfl,
    st_getR hC (n := 9) (k := 9) (j := 1) (dc_X9_copy 9 (16, .getfield 15, 3) rfl rfl) rfl clf_9 (by decide) rfl (by decide) wd_513,
    st_iconst hC (n := 10) (x := 0) (dc_X9_copy 10 (19, .iconst 0, 1) rfl rfl) rfl (by decide),
    st_aload_n hC (n := 11) (k := 0) (dc_X9_copy 11 (20, .aload_n 0, 1) rfl rfl) rfl rfl,
    st_getR hC (n := 12) (k := 9) (j := 1) (dc_X9_copy 12 (21, .getfield 15, 3) rfl rfl) rfl clf_9 (by decide) rfl (by decide) wd_513,
    st_iconst hC (n := 13) (x := 0) (dc_X9_copy 13 (24, .iconst 0, 1) rfl rfl) rfl (by decide),
    st_bipush hC (n := 14) (x := 60) (dc_X9_copy 14 (25, .bipush 60, 2) rfl rfl) rfl (by decide),
    st_acI hC (n := 15) (dc_X9_copy 15 (27, .invokestatic 41, 3) rfl rfl) rfl wd_1007 wd_831 wd_830 wd_161 (by decide) (by decide),
    st_aload_n hC (n := 16) (k := 1) (dc_X9_copy 16 (30, .aload_n 1, 1) rfl rfl) rfl rfl,
    st_getR hC (n := 17) (k := 9) (j := 2) (dc_X9_copy 17 (31, .getfield 18, 3) rfl rfl) rfl clf_9 (by decide) rfl (by decide) wd_516,
    st_iconst hC (n := 18) (x := 0) (dc_X9_copy 18 (34, .iconst 0, 1) rfl rfl) rfl (by decide),
    st_aload_n hC (n := 19) (k := 0) (dc_X9_copy 19 (35, .aload_n 0, 1) rfl rfl) rfl rfl,
    st_getR hC (n := 20) (k := 9) (j := 2) (dc_X9_copy 20 (36, .getfield 18, 3) rfl rfl) rfl clf_9 (by decide) rfl (by decide) wd_516,
    st_iconst hC (n := 21) (x := 0) (dc_X9_copy 21 (39, .iconst 0, 1) rfl rfl) rfl (by decide),
    st_bipush hC (n := 22) (x := 60) (dc_X9_copy 22 (40, .bipush 60, 2) rfl rfl) rfl (by decide),
    st_acI hC (n := 23) (dc_X9_copy 23 (42, .invokestatic 41, 3) rfl rfl) rfl wd_1007 wd_831 wd_830 wd_161 (by decide) (by decide),
    st_aload_n hC (n := 24) (k := 1) (dc_X9_copy 24 (45, .aload_n 1, 1) rfl rfl) rfl rfl,
    st_getR hC (n := 25) (k := 9) (j := 3) (dc_X9_copy 25 (46, .getfield 21, 3) rfl rfl) rfl clf_9 (by decide) rfl (by decide) wd_519,
    st_iconst hC (n := 26) (x := 0) (dc_X9_copy 26 (49, .iconst 0, 1) rfl rfl) rfl (by decide),
    st_aload_n hC (n := 27) (k := 0) (dc_X9_copy 27 (50, .aload_n 0, 1) rfl rfl) rfl rfl,
    st_getR hC (n := 28) (k := 9) (j := 3) (dc_X9_copy 28 (51, .getfield 21, 3) rfl rfl) rfl clf_9 (by decide) rfl (by decide) wd_519,
    st_iconst hC (n := 29) (x := 0) (dc_X9_copy 29 (54, .iconst 0, 1) rfl rfl) rfl (by decide),
    st_bipush hC (n := 30) (x := 60) (dc_X9_copy 30 (55, .bipush 60, 2) rfl rfl) rfl (by decide),
    st_acI hC (n := 31) (dc_X9_copy 31 (57, .invokestatic 41, 3) rfl rfl) rfl wd_1007 wd_831 wd_830 wd_161 (by decide) (by decide),
    st_aload_n hC (n := 32) (k := 1) (dc_X9_copy 32 (60, .aload_n 1, 1) rfl rfl) rfl rfl,
    st_getR hC (n := 33) (k := 9) (j := 4) (dc_X9_copy 33 (61, .getfield 24, 3) rfl rfl) rfl clf_9 (by decide) rfl (by decide) wd_522,
    st_iconst hC (n := 34) (x := 0) (dc_X9_copy 34 (64, .iconst 0, 1) rfl rfl) rfl (by decide),
    st_aload_n hC (n := 35) (k := 0) (dc_X9_copy 35 (65, .aload_n 0, 1) rfl rfl) rfl rfl,
    st_getR hC (n := 36) (k := 9) (j := 4) (dc_X9_copy 36 (66, .getfield 24, 3) rfl rfl) rfl clf_9 (by decide) rfl (by decide) wd_522,
    st_iconst hC (n := 37) (x := 0) (dc_X9_copy 37 (69, .iconst 0, 1) rfl rfl) rfl (by decide),
    st_bipush hC (n := 38) (x := 60) (dc_X9_copy 38 (70, .bipush 60, 2) rfl rfl) rfl (by decide),
    st_acI hC (n := 39) (dc_X9_copy 39 (72, .invokestatic 41, 3) rfl rfl) rfl wd_1007 wd_831 wd_830 wd_161 (by decide) (by decide),
    st_aload_n hC (n := 40) (k := 1) (dc_X9_copy 40 (75, .aload_n 1, 1) rfl rfl) rfl rfl,
    st_getR hC (n := 41) (k := 9) (j := 5) (dc_X9_copy 41 (76, .getfield 27, 3) rfl rfl) rfl clf_9 (by decide) rfl (by decide) wd_525,
    st_iconst hC (n := 42) (x := 0) (dc_X9_copy 42 (79, .iconst 0, 1) rfl rfl) rfl (by decide),
    st_aload_n hC (n := 43) (k := 0) (dc_X9_copy 43 (80, .aload_n 0, 1) rfl rfl) rfl rfl,
    st_getR hC (n := 44) (k := 9) (j := 5) (dc_X9_copy 44 (81, .getfield 27, 3) rfl rfl) rfl clf_9 (by decide) rfl (by decide) wd_525,
    st_iconst hC (n := 45) (x := 0) (dc_X9_copy 45 (84, .iconst 0, 1) rfl rfl) rfl (by decide),
    st_bipush hC (n := 46) (x := 60) (dc_X9_copy 46 (85, .bipush 60, 2) rfl rfl) rfl (by decide),
    st_acI hC (n := 47) (dc_X9_copy 47 (87, .invokestatic 41, 3) rfl rfl) rfl wd_1007 wd_831 wd_830 wd_161 (by decide) (by decide),
    st_aload_n hC (n := 48) (k := 0) (dc_X9_copy 48 (90, .aload_n 0, 1) rfl rfl) rfl rfl,
    st_aload_n hC (n := 49) (k := 1) (dc_X9_copy 49 (91, .aload_n 1, 1) rfl rfl) rfl rfl,
    st_getI hC (n := 50) (k := 9) (j := 6) (dc_X9_copy 50 (92, .getfield 30, 3) rfl rfl) rfl clf_9 (by decide) rfl wd_528,
    st_putZ hC (n := 51) (k := 9) (j := 6) (dc_X9_copy 51 (95, .putfield 30, 3) rfl rfl) rfl clf_9 (by decide) rfl rfl rfl wd_528,
    st_aload_n hC (n := 52) (k := 0) (dc_X9_copy 52 (98, .aload_n 0, 1) rfl rfl) rfl rfl,
    st_aload_n hC (n := 53) (k := 1) (dc_X9_copy 53 (99, .aload_n 1, 1) rfl rfl) rfl rfl,
    st_getI hC (n := 54) (k := 9) (j := 7) (dc_X9_copy 54 (100, .getfield 34, 3) rfl rfl) rfl clf_9 (by decide) rfl wd_531,
    st_putI hC (n := 55) (k := 9) (j := 7) (dc_X9_copy 55 (103, .putfield 34, 3) rfl rfl) rfl clf_9 (by decide) rfl rfl rfl wd_531,
    st_aload_n hC (n := 56) (k := 0) (dc_X9_copy 56 (106, .aload_n 0, 1) rfl rfl) rfl rfl,
    st_aload_n hC (n := 57) (k := 1) (dc_X9_copy 57 (107, .aload_n 1, 1) rfl rfl) rfl rfl,
    st_getI hC (n := 58) (k := 9) (j := 8) (dc_X9_copy 58 (108, .getfield 38, 3) rfl rfl) rfl clf_9 (by decide) rfl wd_534,
    st_putI hC (n := 59) (k := 9) (j := 8) (dc_X9_copy 59 (111, .putfield 38, 3) rfl rfl) rfl clf_9 (by decide) rfl rfl rfl wd_534,
    st_vret hC (n := 60) hR (dc_X9_copy 60 (114, .return_, 1) rfl rfl), trivial⟩
set_option maxRecDepth 8000 in
theorem vc_X9_copy : VC P_X9_copy 2 Pre_X9_copy Fn_X9_copy := by
  rintro mm as hom hoa ⟨g, h0, hz, rfl⟩
  refine ⟨Nat.le_of_ble_eq_true rfl, fun X h => ?_⟩
  show X 0 [some (vR 9 g), some (vR 9 h0)] [] mm
  refine h (fun _ => false) 3000 0 _ _ _ ?_
  refine And.intro (by decide) ?_
  refine And.intro (by decide) ?_
  refine And.intro (by decide) ?_
  refine And.intro (by decide) ?_
  refine And.intro (by decide) ?_
  refine And.intro (by decide) ?_
  refine And.intro hz ?_
  show ((none : Option MV), mI (mI (mI (mRow (mRow (mRow (mRow (mRow (mRow mm 43 g (va_cpy (mm.1 43 h0) (mm.1 43 g) 0 0 60)) 44 g (va_cpy (mm.1 44 h0) (mm.1 44 g) 0 0 60)) 45 g (va_cpy (mm.1 45 h0) (mm.1 45 g) 0 0 60)) 46 g (va_cpy (mm.1 46 h0) (mm.1 46 g) 0 0 60)) 47 g (va_cpy (mm.1 47 h0) (mm.1 47 g) 0 0 60)) 48 g (va_cpy (mm.1 48 h0) (mm.1 48 g) 0 0 60)) 9 g 6 (mm.1 9 h0 6)) 9 g 7 ((mI (mRow (mRow (mRow (mRow (mRow (mRow mm 43 g (va_cpy (mm.1 43 h0) (mm.1 43 g) 0 0 60)) 44 g (va_cpy (mm.1 44 h0) (mm.1 44 g) 0 0 60)) 45 g (va_cpy (mm.1 45 h0) (mm.1 45 g) 0 0 60)) 46 g (va_cpy (mm.1 46 h0) (mm.1 46 g) 0 0 60)) 47 g (va_cpy (mm.1 47 h0) (mm.1 47 g) 0 0 60)) 48 g (va_cpy (mm.1 48 h0) (mm.1 48 g) 0 0 60)) 9 g 6 (mm.1 9 h0 6)).1 9 h0 7)) 9 g 8 ((mI (mI (mRow (mRow (mRow (mRow (mRow (mRow mm 43 g (va_cpy (mm.1 43 h0) (mm.1 43 g) 0 0 60)) 44 g (va_cpy (mm.1 44 h0) (mm.1 44 g) 0 0 60)) 45 g (va_cpy (mm.1 45 h0) (mm.1 45 g) 0 0 60)) 46 g (va_cpy (mm.1 46 h0) (mm.1 46 g) 0 0 60)) 47 g (va_cpy (mm.1 47 h0) (mm.1 47 g) 0 0 60)) 48 g (va_cpy (mm.1 48 h0) (mm.1 48 g) 0 0 60)) 9 g 6 (mm.1 9 h0 6)) 9 g 7 ((mI (mRow (mRow (mRow (mRow (mRow (mRow mm 43 g (va_cpy (mm.1 43 h0) (mm.1 43 g) 0 0 60)) 44 g (va_cpy (mm.1 44 h0) (mm.1 44 g) 0 0 60)) 45 g (va_cpy (mm.1 45 h0) (mm.1 45 g) 0 0 60)) 46 g (va_cpy (mm.1 46 h0) (mm.1 46 g) 0 0 60)) 47 g (va_cpy (mm.1 47 h0) (mm.1 47 g) 0 0 60)) 48 g (va_cpy (mm.1 48 h0) (mm.1 48 g) 0 0 60)) 9 g 6 (mm.1 9 h0 6)).1 9 h0 7)).1 9 h0 8)) = _
  exact rfl
theorem con_X9_copy (l : Launch) : CON l y_X9_copy prog_11_method_3_code 2 none rm_X9_copy Pre_X9_copy Fn_X9_copy := CON_of (by decide) rfl rfl (sa_X9_copy l) vc_X9_copy
--tpl ⟨_, _, by assumption, rfl⟩ ||  || vcM {m} {g0} {g1}
def Pre_X6_copy : PreT := fun m as => ∃ g h : Nat, (m.1 9 h 6 = 0 ∨ m.1 9 h 6 = 1) ∧ as = [vR 6 g, vR 6 h]
def Fn_X6_copy : FnT := fun m as => match as with
  | [Sum.inr (Sum.inr q), Sum.inr (Sum.inr r)] => (none, vcM m q.2 r.2)
  | _ => (none, m)
abbrev y_X6_copy : MethodName := ⟨"GivenUp$Valley", "copy", "(LGivenUp$Valley;)V"⟩
def P_X6_copy : List StpT := [s_aload 1, s_getR 6 0 29, s_ic (0), s_aload 0, s_getR 6 0 29, s_ic (0), s_ic (20), s_acL, s_aload 1, s_getR 6 1 30, s_ic (0), s_aload 0, s_getR 6 1 30, s_ic (0), s_ic (4), s_acI, s_aload 1, s_getR 6 2 31, s_ic (0), s_aload 0, s_getR 6 2 31, s_ic (0), s_ic (16), s_acI, s_aload 1, s_getR 6 3 32, s_ic (0), s_aload 0, s_getR 6 3 32, s_ic (0), s_ic (4), s_acI, s_aload 1, s_getR 6 4 33, s_ic (0), s_aload 0, s_getR 6 4 33, s_ic (0), s_ic (4), s_acI, s_aload 1, s_getR 6 5 34, s_ic (0), s_aload 0, s_getR 6 5 34, s_ic (0), s_ic (4), s_acI, s_aload 1, s_getR 6 6 35, s_ic (0), s_aload 0, s_getR 6 6 35, s_ic (0), s_ic (12), s_acI, s_aload 1, s_getR 6 7 36, s_ic (0), s_aload 0, s_getR 6 7 36, s_ic (0), s_ic (12), s_acI, s_aload 1, s_getR 6 8 37, s_ic (0), s_aload 0, s_getR 6 8 37, s_ic (0), s_ic (12), s_acI, s_aload 1, s_getR 6 9 38, s_ic (0), s_aload 0, s_getR 6 9 38, s_ic (0), s_ic (12), s_acI, s_aload 1, s_getR 6 10 39, s_ic (0), s_aload 0, s_getR 6 10 39, s_ic (0), s_ic (48), s_acI, s_aload 0, s_getR 6 11 1, s_aload 1, s_getR 6 11 1, s_callV 1 1 Pre_X1_copy Fn_X1_copy, s_aload 0, s_getR 6 12 9, s_aload 1, s_getR 6 12 9, s_callV 9 1 Pre_X9_copy Fn_X9_copy, s_aload 0, s_aload 1, s_getI 6 13, s_putI 6 13, s_aload 0, s_aload 1, s_getI 6 14, s_putI 6 14, s_aload 0, s_aload 1, s_getI 6 15, s_putI 6 15, s_aload 0, s_aload 1, s_getI 6 16, s_putI 6 16, s_aload 0, s_aload 1, s_getI 6 17, s_putI 6 17, s_aload 0, s_aload 1, s_getI 6 18, s_putI 6 18, s_aload 0, s_aload 1, s_getI 6 19, s_putI 6 19, s_vret]
def pc_X6_copy : Nat → Nat := fun i => [0, 1, 4, 5, 6, 9, 10, 12, 15, 16, 19, 20, 21, 24, 25, 26, 29, 30, 33, 34, 35, 38, 39, 41, 44, 45, 48, 49, 50, 53, 54, 55, 58, 59, 62, 63, 64, 67, 68, 69, 72, 73, 76, 77, 78, 81, 82, 83, 86, 87, 90, 91, 92, 95, 96, 98, 101, 102, 105, 106, 107, 110, 111, 113, 116, 117, 120, 121, 122, 125, 126, 128, 131, 132, 135, 136, 137, 140, 141, 143, 146, 147, 150, 151, 152, 155, 156, 158, 161, 162, 165, 166, 169, 172, 173, 176, 177, 180, 183, 184, 185, 188, 191, 192, 193, 196, 199, 200, 201, 204, 207, 208, 209, 212, 215, 216, 217, 220, 223, 224, 225, 228, 231, 232, 233, 236, 239].getD i 0
def dl_X6_copy : List (Nat × Instr × Nat) := [(0, .aload_n 1, 1), (1, .getfield 9, 3), (4, .iconst 0, 1), (5, .aload_n 0, 1), (6, .getfield 9, 3), (9, .iconst 0, 1), (10, .bipush 20, 2), (12, .invokestatic 96, 3), (15, .aload_n 1, 1), (16, .getfield 15, 3), (19, .iconst 0, 1), (20, .aload_n 0, 1), (21, .getfield 15, 3), (24, .iconst 0, 1), (25, .iconst 4, 1), (26, .invokestatic 96, 3), (29, .aload_n 1, 1), (30, .getfield 19, 3), (33, .iconst 0, 1), (34, .aload_n 0, 1), (35, .getfield 19, 3), (38, .iconst 0, 1), (39, .bipush 16, 2), (41, .invokestatic 96, 3), (44, .aload_n 1, 1), (45, .getfield 22, 3), (48, .iconst 0, 1), (49, .aload_n 0, 1), (50, .getfield 22, 3), (53, .iconst 0, 1), (54, .iconst 4, 1), (55, .invokestatic 96, 3), (58, .aload_n 1, 1), (59, .getfield 25, 3), (62, .iconst 0, 1), (63, .aload_n 0, 1), (64, .getfield 25, 3), (67, .iconst 0, 1), (68, .iconst 4, 1), (69, .invokestatic 96, 3), (72, .aload_n 1, 1), (73, .getfield 28, 3), (76, .iconst 0, 1), (77, .aload_n 0, 1), (78, .getfield 28, 3), (81, .iconst 0, 1), (82, .iconst 4, 1), (83, .invokestatic 96, 3), (86, .aload_n 1, 1), (87, .getfield 31, 3), (90, .iconst 0, 1), (91, .aload_n 0, 1), (92, .getfield 31, 3), (95, .iconst 0, 1), (96, .bipush 12, 2), (98, .invokestatic 96, 3), (101, .aload_n 1, 1), (102, .getfield 34, 3), (105, .iconst 0, 1), (106, .aload_n 0, 1), (107, .getfield 34, 3), (110, .iconst 0, 1), (111, .bipush 12, 2), (113, .invokestatic 96, 3), (116, .aload_n 1, 1), (117, .getfield 37, 3), (120, .iconst 0, 1), (121, .aload_n 0, 1), (122, .getfield 37, 3), (125, .iconst 0, 1), (126, .bipush 12, 2), (128, .invokestatic 96, 3), (131, .aload_n 1, 1), (132, .getfield 40, 3), (135, .iconst 0, 1), (136, .aload_n 0, 1), (137, .getfield 40, 3), (140, .iconst 0, 1), (141, .bipush 12, 2), (143, .invokestatic 96, 3), (146, .aload_n 1, 1), (147, .getfield 43, 3), (150, .iconst 0, 1), (151, .aload_n 0, 1), (152, .getfield 43, 3), (155, .iconst 0, 1), (156, .bipush 48, 2), (158, .invokestatic 96, 3), (161, .aload_n 0, 1), (162, .getfield 49, 3), (165, .aload_n 1, 1), (166, .getfield 49, 3), (169, .invokevirtual 102, 3), (172, .aload_n 0, 1), (173, .getfield 56, 3), (176, .aload_n 1, 1), (177, .getfield 56, 3), (180, .invokevirtual 106, 3), (183, .aload_n 0, 1), (184, .aload_n 1, 1), (185, .getfield 60, 3), (188, .putfield 60, 3), (191, .aload_n 0, 1), (192, .aload_n 1, 1), (193, .getfield 64, 3), (196, .putfield 64, 3), (199, .aload_n 0, 1), (200, .aload_n 1, 1), (201, .getfield 67, 3), (204, .putfield 67, 3), (207, .aload_n 0, 1), (208, .aload_n 1, 1), (209, .getfield 70, 3), (212, .putfield 70, 3), (215, .aload_n 0, 1), (216, .aload_n 1, 1), (217, .getfield 73, 3), (220, .putfield 73, 3), (223, .aload_n 0, 1), (224, .aload_n 1, 1), (225, .getfield 76, 3), (228, .putfield 76, 3), (231, .aload_n 0, 1), (232, .aload_n 1, 1), (233, .getfield 79, 3), (236, .putfield 79, 3), (239, .return_, 1)]
theorem dc_X6_copy : DEC prog_8_method_3_code pc_X6_copy dl_X6_copy := DEC_of (by decide +kernel)
abbrev rm_X6_copy : Room := { frames := 2, cells := 0, slots := 0, locals := 47 }
set_option maxRecDepth 20000 in
theorem sa_X6_copy (l : Launch) : SNDALL l prog_8_method_3_code "GivenUp$Valley" 2 none rm_X6_copy P_X6_copy pc_X6_copy := fun p e s m args below meth c cells slots Q D dA ad A RR hC hR => by
  have hM := RTX_room (R := rm_X6_copy) hR
  exact ⟨st_aload_n hC (n := 0) (k := 1) (dc_X6_copy 0 (0, .aload_n 1, 1) rfl rfl) rfl rfl,
    st_getR hC (n := 1) (k := 6) (j := 0) (dc_X6_copy 1 (1, .getfield 9, 3) rfl rfl) rfl clf_6 (by decide) rfl (by decide) wd_575,
    st_iconst hC (n := 2) (x := 0) (dc_X6_copy 2 (4, .iconst 0, 1) rfl rfl) rfl (by decide),
    st_aload_n hC (n := 3) (k := 0) (dc_X6_copy 3 (5, .aload_n 0, 1) rfl rfl) rfl rfl,
    st_getR hC (n := 4) (k := 6) (j := 0) (dc_X6_copy 4 (6, .getfield 9, 3) rfl rfl) rfl clf_6 (by decide) rfl (by decide) wd_575,
    st_iconst hC (n := 5) (x := 0) (dc_X6_copy 5 (9, .iconst 0, 1) rfl rfl) rfl (by decide),
    st_bipush hC (n := 6) (x := 20) (dc_X6_copy 6 (10, .bipush 20, 2) rfl rfl) rfl (by decide),
    st_acL hC (n := 7) (dc_X6_copy 7 (12, .invokestatic 96, 3) rfl rfl) rfl wd_952 wd_831 wd_830 wd_161 (by decide) (by decide),
    st_aload_n hC (n := 8) (k := 1) (dc_X6_copy 8 (15, .aload_n 1, 1) rfl rfl) rfl rfl,
    st_getR hC (n := 9) (k := 6) (j := 1) (dc_X6_copy 9 (16, .getfield 15, 3) rfl rfl) rfl clf_6 (by decide) rfl (by decide) wd_578,
    st_iconst hC (n := 10) (x := 0) (dc_X6_copy 10 (19, .iconst 0, 1) rfl rfl) rfl (by decide),
    st_aload_n hC (n := 11) (k := 0) (dc_X6_copy 11 (20, .aload_n 0, 1) rfl rfl) rfl rfl,
    st_getR hC (n := 12) (k := 6) (j := 1) (dc_X6_copy 12 (21, .getfield 15, 3) rfl rfl) rfl clf_6 (by decide) rfl (by decide) wd_578,
    st_iconst hC (n := 13) (x := 0) (dc_X6_copy 13 (24, .iconst 0, 1) rfl rfl) rfl (by decide),
    st_iconst hC (n := 14) (x := 4) (dc_X6_copy 14 (25, .iconst 4, 1) rfl rfl) rfl (by decide),
    st_acI hC (n := 15) (dc_X6_copy 15 (26, .invokestatic 96, 3) rfl rfl) rfl wd_952 wd_831 wd_830 wd_161 (by decide) (by decide),
    st_aload_n hC (n := 16) (k := 1) (dc_X6_copy 16 (29, .aload_n 1, 1) rfl rfl) rfl rfl,
    st_getR hC (n := 17) (k := 6) (j := 2) (dc_X6_copy 17 (30, .getfield 19, 3) rfl rfl) rfl clf_6 (by decide) rfl (by decide) wd_581,
    st_iconst hC (n := 18) (x := 0) (dc_X6_copy 18 (33, .iconst 0, 1) rfl rfl) rfl (by decide),
    st_aload_n hC (n := 19) (k := 0) (dc_X6_copy 19 (34, .aload_n 0, 1) rfl rfl) rfl rfl,
    st_getR hC (n := 20) (k := 6) (j := 2) (dc_X6_copy 20 (35, .getfield 19, 3) rfl rfl) rfl clf_6 (by decide) rfl (by decide) wd_581,
    st_iconst hC (n := 21) (x := 0) (dc_X6_copy 21 (38, .iconst 0, 1) rfl rfl) rfl (by decide),
    st_bipush hC (n := 22) (x := 16) (dc_X6_copy 22 (39, .bipush 16, 2) rfl rfl) rfl (by decide),
    st_acI hC (n := 23) (dc_X6_copy 23 (41, .invokestatic 96, 3) rfl rfl) rfl wd_952 wd_831 wd_830 wd_161 (by decide) (by decide),
    st_aload_n hC (n := 24) (k := 1) (dc_X6_copy 24 (44, .aload_n 1, 1) rfl rfl) rfl rfl,
    st_getR hC (n := 25) (k := 6) (j := 3) (dc_X6_copy 25 (45, .getfield 22, 3) rfl rfl) rfl clf_6 (by decide) rfl (by decide) wd_585,
    st_iconst hC (n := 26) (x := 0) (dc_X6_copy 26 (48, .iconst 0, 1) rfl rfl) rfl (by decide),
    st_aload_n hC (n := 27) (k := 0) (dc_X6_copy 27 (49, .aload_n 0, 1) rfl rfl) rfl rfl,
    st_getR hC (n := 28) (k := 6) (j := 3) (dc_X6_copy 28 (50, .getfield 22, 3) rfl rfl) rfl clf_6 (by decide) rfl (by decide) wd_585,
    st_iconst hC (n := 29) (x := 0) (dc_X6_copy 29 (53, .iconst 0, 1) rfl rfl) rfl (by decide),
    st_iconst hC (n := 30) (x := 4) (dc_X6_copy 30 (54, .iconst 4, 1) rfl rfl) rfl (by decide),
    st_acI hC (n := 31) (dc_X6_copy 31 (55, .invokestatic 96, 3) rfl rfl) rfl wd_952 wd_831 wd_830 wd_161 (by decide) (by decide),
    st_aload_n hC (n := 32) (k := 1) (dc_X6_copy 32 (58, .aload_n 1, 1) rfl rfl) rfl rfl,
    st_getR hC (n := 33) (k := 6) (j := 4) (dc_X6_copy 33 (59, .getfield 25, 3) rfl rfl) rfl clf_6 (by decide) rfl (by decide) wd_588,
    st_iconst hC (n := 34) (x := 0) (dc_X6_copy 34 (62, .iconst 0, 1) rfl rfl) rfl (by decide),
    st_aload_n hC (n := 35) (k := 0) (dc_X6_copy 35 (63, .aload_n 0, 1) rfl rfl) rfl rfl,
    st_getR hC (n := 36) (k := 6) (j := 4) (dc_X6_copy 36 (64, .getfield 25, 3) rfl rfl) rfl clf_6 (by decide) rfl (by decide) wd_588,
    st_iconst hC (n := 37) (x := 0) (dc_X6_copy 37 (67, .iconst 0, 1) rfl rfl) rfl (by decide),
    st_iconst hC (n := 38) (x := 4) (dc_X6_copy 38 (68, .iconst 4, 1) rfl rfl) rfl (by decide),
    st_acI hC (n := 39) (dc_X6_copy 39 (69, .invokestatic 96, 3) rfl rfl) rfl wd_952 wd_831 wd_830 wd_161 (by decide) (by decide),
    st_aload_n hC (n := 40) (k := 1) (dc_X6_copy 40 (72, .aload_n 1, 1) rfl rfl) rfl rfl,
    st_getR hC (n := 41) (k := 6) (j := 5) (dc_X6_copy 41 (73, .getfield 28, 3) rfl rfl) rfl clf_6 (by decide) rfl (by decide) wd_592,
    st_iconst hC (n := 42) (x := 0) (dc_X6_copy 42 (76, .iconst 0, 1) rfl rfl) rfl (by decide),
    st_aload_n hC (n := 43) (k := 0) (dc_X6_copy 43 (77, .aload_n 0, 1) rfl rfl) rfl rfl,
    st_getR hC (n := 44) (k := 6) (j := 5) (dc_X6_copy 44 (78, .getfield 28, 3) rfl rfl) rfl clf_6 (by decide) rfl (by decide) wd_592,
    st_iconst hC (n := 45) (x := 0) (dc_X6_copy 45 (81, .iconst 0, 1) rfl rfl) rfl (by decide),
    st_iconst hC (n := 46) (x := 4) (dc_X6_copy 46 (82, .iconst 4, 1) rfl rfl) rfl (by decide),
    st_acI hC (n := 47) (dc_X6_copy 47 (83, .invokestatic 96, 3) rfl rfl) rfl wd_952 wd_831 wd_830 wd_161 (by decide) (by decide),
    st_aload_n hC (n := 48) (k := 1) (dc_X6_copy 48 (86, .aload_n 1, 1) rfl rfl) rfl rfl,
    st_getR hC (n := 49) (k := 6) (j := 6) (dc_X6_copy 49 (87, .getfield 31, 3) rfl rfl) rfl clf_6 (by decide) rfl (by decide) wd_595,
    st_iconst hC (n := 50) (x := 0) (dc_X6_copy 50 (90, .iconst 0, 1) rfl rfl) rfl (by decide),
    st_aload_n hC (n := 51) (k := 0) (dc_X6_copy 51 (91, .aload_n 0, 1) rfl rfl) rfl rfl,
    st_getR hC (n := 52) (k := 6) (j := 6) (dc_X6_copy 52 (92, .getfield 31, 3) rfl rfl) rfl clf_6 (by decide) rfl (by decide) wd_595,
    st_iconst hC (n := 53) (x := 0) (dc_X6_copy 53 (95, .iconst 0, 1) rfl rfl) rfl (by decide),
    st_bipush hC (n := 54) (x := 12) (dc_X6_copy 54 (96, .bipush 12, 2) rfl rfl) rfl (by decide),
    st_acI hC (n := 55) (dc_X6_copy 55 (98, .invokestatic 96, 3) rfl rfl) rfl wd_952 wd_831 wd_830 wd_161 (by decide) (by decide),
    st_aload_n hC (n := 56) (k := 1) (dc_X6_copy 56 (101, .aload_n 1, 1) rfl rfl) rfl rfl,
    st_getR hC (n := 57) (k := 6) (j := 7) (dc_X6_copy 57 (102, .getfield 34, 3) rfl rfl) rfl clf_6 (by decide) rfl (by decide) wd_598,
    st_iconst hC (n := 58) (x := 0) (dc_X6_copy 58 (105, .iconst 0, 1) rfl rfl) rfl (by decide),
    st_aload_n hC (n := 59) (k := 0) (dc_X6_copy 59 (106, .aload_n 0, 1) rfl rfl) rfl rfl,
    st_getR hC (n := 60) (k := 6) (j := 7) (dc_X6_copy 60 (107, .getfield 34, 3) rfl rfl) rfl clf_6 (by decide) rfl (by decide) wd_598,
    st_iconst hC (n := 61) (x := 0) (dc_X6_copy 61 (110, .iconst 0, 1) rfl rfl) rfl (by decide),
    st_bipush hC (n := 62) (x := 12) (dc_X6_copy 62 (111, .bipush 12, 2) rfl rfl) rfl (by decide),
    st_acI hC (n := 63) (dc_X6_copy 63 (113, .invokestatic 96, 3) rfl rfl) rfl wd_952 wd_831 wd_830 wd_161 (by decide) (by decide),
    st_aload_n hC (n := 64) (k := 1) (dc_X6_copy 64 (116, .aload_n 1, 1) rfl rfl) rfl rfl,
    st_getR hC (n := 65) (k := 6) (j := 8) (dc_X6_copy 65 (117, .getfield 37, 3) rfl rfl) rfl clf_6 (by decide) rfl (by decide) wd_601,
    st_iconst hC (n := 66) (x := 0) (dc_X6_copy 66 (120, .iconst 0, 1) rfl rfl) rfl (by decide),
    st_aload_n hC (n := 67) (k := 0) (dc_X6_copy 67 (121, .aload_n 0, 1) rfl rfl) rfl rfl,
    st_getR hC (n := 68) (k := 6) (j := 8) (dc_X6_copy 68 (122, .getfield 37, 3) rfl rfl) rfl clf_6 (by decide) rfl (by decide) wd_601,
    st_iconst hC (n := 69) (x := 0) (dc_X6_copy 69 (125, .iconst 0, 1) rfl rfl) rfl (by decide),
    st_bipush hC (n := 70) (x := 12) (dc_X6_copy 70 (126, .bipush 12, 2) rfl rfl) rfl (by decide),
    st_acI hC (n := 71) (dc_X6_copy 71 (128, .invokestatic 96, 3) rfl rfl) rfl wd_952 wd_831 wd_830 wd_161 (by decide) (by decide),
    st_aload_n hC (n := 72) (k := 1) (dc_X6_copy 72 (131, .aload_n 1, 1) rfl rfl) rfl rfl,
    st_getR hC (n := 73) (k := 6) (j := 9) (dc_X6_copy 73 (132, .getfield 40, 3) rfl rfl) rfl clf_6 (by decide) rfl (by decide) wd_605,
    st_iconst hC (n := 74) (x := 0) (dc_X6_copy 74 (135, .iconst 0, 1) rfl rfl) rfl (by decide),
    st_aload_n hC (n := 75) (k := 0) (dc_X6_copy 75 (136, .aload_n 0, 1) rfl rfl) rfl rfl,
    st_getR hC (n := 76) (k := 6) (j := 9) (dc_X6_copy 76 (137, .getfield 40, 3) rfl rfl) rfl clf_6 (by decide) rfl (by decide) wd_605,
    st_iconst hC (n := 77) (x := 0) (dc_X6_copy 77 (140, .iconst 0, 1) rfl rfl) rfl (by decide),
    st_bipush hC (n := 78) (x := 12) (dc_X6_copy 78 (141, .bipush 12, 2) rfl rfl) rfl (by decide),
    st_acI hC (n := 79) (dc_X6_copy 79 (143, .invokestatic 96, 3) rfl rfl) rfl wd_952 wd_831 wd_830 wd_161 (by decide) (by decide),
    st_aload_n hC (n := 80) (k := 1) (dc_X6_copy 80 (146, .aload_n 1, 1) rfl rfl) rfl rfl,
    st_getR hC (n := 81) (k := 6) (j := 10) (dc_X6_copy 81 (147, .getfield 43, 3) rfl rfl) rfl clf_6 (by decide) rfl (by decide) wd_608,
    st_iconst hC (n := 82) (x := 0) (dc_X6_copy 82 (150, .iconst 0, 1) rfl rfl) rfl (by decide),
    st_aload_n hC (n := 83) (k := 0) (dc_X6_copy 83 (151, .aload_n 0, 1) rfl rfl) rfl rfl,
    st_getR hC (n := 84) (k := 6) (j := 10) (dc_X6_copy 84 (152, .getfield 43, 3) rfl rfl) rfl clf_6 (by decide) rfl (by decide) wd_608,
    st_iconst hC (n := 85) (x := 0) (dc_X6_copy 85 (155, .iconst 0, 1) rfl rfl) rfl (by decide),
    st_bipush hC (n := 86) (x := 48) (dc_X6_copy 86 (156, .bipush 48, 2) rfl rfl) rfl (by decide),
    st_acI hC (n := 87) (dc_X6_copy 87 (158, .invokestatic 96, 3) rfl rfl) rfl wd_952 wd_831 wd_830 wd_161 (by decide) (by decide),
    st_aload_n hC (n := 88) (k := 0) (dc_X6_copy 88 (161, .aload_n 0, 1) rfl rfl) rfl rfl,
    st_getR hC (n := 89) (k := 6) (j := 11) (dc_X6_copy 89 (162, .getfield 49, 3) rfl rfl) rfl clf_6 (by decide) rfl (by decide) wd_610,
    st_aload_n hC (n := 90) (k := 1) (dc_X6_copy 90 (165, .aload_n 1, 1) rfl rfl) rfl rfl,
    st_getR hC (n := 91) (k := 6) (j := 11) (dc_X6_copy 91 (166, .getfield 49, 3) rfl rfl) rfl clf_6 (by decide) rfl (by decide) wd_610,
    st_callV hC (n := 92) (k := 1) (na := 1) (con_X1_copy l) (dc_X6_copy 92 (169, .invokevirtual 102, 3) rfl rfl) rfl wd_1531 wd_156 (by decide) ⟨rfl, rfl, by decide, by decide⟩ hM wd_1528 wd_1529 wd_1530 clf_1,
    st_aload_n hC (n := 93) (k := 0) (dc_X6_copy 93 (172, .aload_n 0, 1) rfl rfl) rfl rfl,
    st_getR hC (n := 94) (k := 6) (j := 12) (dc_X6_copy 94 (173, .getfield 56, 3) rfl rfl) rfl clf_6 (by decide) rfl (by decide) wd_614,
    st_aload_n hC (n := 95) (k := 1) (dc_X6_copy 95 (176, .aload_n 1, 1) rfl rfl) rfl rfl,
    st_getR hC (n := 96) (k := 6) (j := 12) (dc_X6_copy 96 (177, .getfield 56, 3) rfl rfl) rfl clf_6 (by decide) rfl (by decide) wd_614,
    st_callV hC (n := 97) (k := 9) (na := 1) (con_X9_copy l) (dc_X6_copy 97 (180, .invokevirtual 106, 3) rfl rfl) rfl wd_1006 wd_157 (by decide) ⟨rfl, rfl, by decide, by decide⟩ hM wd_1533 wd_1004 wd_1005 clf_9,
    st_aload_n hC (n := 98) (k := 0) (dc_X6_copy 98 (183, .aload_n 0, 1) rfl rfl) rfl rfl,
    st_aload_n hC (n := 99) (k := 1) (dc_X6_copy 99 (184, .aload_n 1, 1) rfl rfl) rfl rfl,
    st_getI hC (n := 100) (k := 6) (j := 13) (dc_X6_copy 100 (185, .getfield 60, 3) rfl rfl) rfl clf_6 (by decide) rfl wd_617,
    st_putI hC (n := 101) (k := 6) (j := 13) (dc_X6_copy 101 (188, .putfield 60, 3) rfl rfl) rfl clf_6 (by decide) rfl rfl rfl wd_617,
    st_aload_n hC (n := 102) (k := 0) (dc_X6_copy 102 (191, .aload_n 0, 1) rfl rfl) rfl rfl,
    st_aload_n hC (n := 103) (k := 1) (dc_X6_copy 103 (192, .aload_n 1, 1) rfl rfl) rfl rfl,
    st_getI hC (n := 104) (k := 6) (j := 14) (dc_X6_copy 104 (193, .getfield 64, 3) rfl rfl) rfl clf_6 (by decide) rfl wd_623,
    st_putI hC (n := 105) (k := 6) (j := 14) (dc_X6_copy 105 (196, .putfield 64, 3) rfl rfl) rfl clf_6 (by decide) rfl rfl rfl wd_623,
    st_aload_n hC (n := 106) (k := 0) (dc_X6_copy 106 (199, .aload_n 0, 1) rfl rfl) rfl rfl,
    st_aload_n hC (n := 107) (k := 1) (dc_X6_copy 107 (200, .aload_n 1, 1) rfl rfl) rfl rfl,
    st_getI hC (n := 108) (k := 6) (j := 15) (dc_X6_copy 108 (201, .getfield 67, 3) rfl rfl) rfl clf_6 (by decide) rfl wd_629,
    st_putI hC (n := 109) (k := 6) (j := 15) (dc_X6_copy 109 (204, .putfield 67, 3) rfl rfl) rfl clf_6 (by decide) rfl rfl rfl wd_629,
    st_aload_n hC (n := 110) (k := 0) (dc_X6_copy 110 (207, .aload_n 0, 1) rfl rfl) rfl rfl,
    st_aload_n hC (n := 111) (k := 1) (dc_X6_copy 111 (208, .aload_n 1, 1) rfl rfl) rfl rfl,
    st_getI hC (n := 112) (k := 6) (j := 16) (dc_X6_copy 112 (209, .getfield 70, 3) rfl rfl) rfl clf_6 (by decide) rfl wd_634,
    st_putI hC (n := 113) (k := 6) (j := 16) (dc_X6_copy 113 (212, .putfield 70, 3) rfl rfl) rfl clf_6 (by decide) rfl rfl rfl wd_634,
    st_aload_n hC (n := 114) (k := 0) (dc_X6_copy 114 (215, .aload_n 0, 1) rfl rfl) rfl rfl,
    st_aload_n hC (n := 115) (k := 1) (dc_X6_copy 115 (216, .aload_n 1, 1) rfl rfl) rfl rfl,
    st_getI hC (n := 116) (k := 6) (j := 17) (dc_X6_copy 116 (217, .getfield 73, 3) rfl rfl) rfl clf_6 (by decide) rfl wd_637,
    st_putI hC (n := 117) (k := 6) (j := 17) (dc_X6_copy 117 (220, .putfield 73, 3) rfl rfl) rfl clf_6 (by decide) rfl rfl rfl wd_637,
    st_aload_n hC (n := 118) (k := 0) (dc_X6_copy 118 (223, .aload_n 0, 1) rfl rfl) rfl rfl,
    st_aload_n hC (n := 119) (k := 1) (dc_X6_copy 119 (224, .aload_n 1, 1) rfl rfl) rfl rfl,
    st_getI hC (n := 120) (k := 6) (j := 18) (dc_X6_copy 120 (225, .getfield 76, 3) rfl rfl) rfl clf_6 (by decide) rfl wd_641,
    st_putI hC (n := 121) (k := 6) (j := 18) (dc_X6_copy 121 (228, .putfield 76, 3) rfl rfl) rfl clf_6 (by decide) rfl rfl rfl wd_641,
    st_aload_n hC (n := 122) (k := 0) (dc_X6_copy 122 (231, .aload_n 0, 1) rfl rfl) rfl rfl,
    st_aload_n hC (n := 123) (k := 1) (dc_X6_copy 123 (232, .aload_n 1, 1) rfl rfl) rfl rfl,
    st_getI hC (n := 124) (k := 6) (j := 19) (dc_X6_copy 124 (233, .getfield 79, 3) rfl rfl) rfl clf_6 (by decide) rfl wd_644,
    st_putI hC (n := 125) (k := 6) (j := 19) (dc_X6_copy 125 (236, .putfield 79, 3) rfl rfl) rfl clf_6 (by decide) rfl rfl rfl wd_644,
    st_vret hC (n := 126) hR (dc_X6_copy 126 (239, .return_, 1) rfl rfl), trivial⟩
set_option maxRecDepth 8000 in
theorem vc_X6_copy : VC P_X6_copy 2 Pre_X6_copy Fn_X6_copy := by
  rintro mm as hom hoa ⟨g, h0, hz, rfl⟩
  refine ⟨Nat.le_of_ble_eq_true rfl, fun X h => ?_⟩
  have c0 : ∀ M : MM, X 8 [some (vR 6 g), some (vR 6 h0)] [] (cpF3 M 29 g h0 20) → X 0 [some (vR 6 g), some (vR 6 h0)] [] (M) := by
    intro M hX
    show X 0 [some (vR 6 g), some (vR 6 h0)] [] M
    refine h (fun i => Nat.beq i 8) 3000 0 _ _ _ ?_
    refine And.intro (by decide) ?_
    show X 8 [some (vR 6 g), some (vR 6 h0)] [] (mRowL M 29 g (va_cpy (M.2.1 29 h0) (M.2.1 29 g) 0 0 20))
    exact hX
  have c1 : ∀ M : MM, X 16 [some (vR 6 g), some (vR 6 h0)] [] (cpF2 M 30 g h0 4) → X 8 [some (vR 6 g), some (vR 6 h0)] [] (M) := by
    intro M hX
    show X 8 [some (vR 6 g), some (vR 6 h0)] [] M
    refine h (fun i => Nat.beq i 16) 3000 8 _ _ _ ?_
    refine And.intro (by decide) ?_
    show X 16 [some (vR 6 g), some (vR 6 h0)] [] (mRow M 30 g (va_cpy (M.1 30 h0) (M.1 30 g) 0 0 4))
    exact hX
  have c2 : ∀ M : MM, X 24 [some (vR 6 g), some (vR 6 h0)] [] (cpF2 M 31 g h0 16) → X 16 [some (vR 6 g), some (vR 6 h0)] [] (M) := by
    intro M hX
    show X 16 [some (vR 6 g), some (vR 6 h0)] [] M
    refine h (fun i => Nat.beq i 24) 3000 16 _ _ _ ?_
    refine And.intro (by decide) ?_
    show X 24 [some (vR 6 g), some (vR 6 h0)] [] (mRow M 31 g (va_cpy (M.1 31 h0) (M.1 31 g) 0 0 16))
    exact hX
  have c3 : ∀ M : MM, X 32 [some (vR 6 g), some (vR 6 h0)] [] (cpF2 M 32 g h0 4) → X 24 [some (vR 6 g), some (vR 6 h0)] [] (M) := by
    intro M hX
    show X 24 [some (vR 6 g), some (vR 6 h0)] [] M
    refine h (fun i => Nat.beq i 32) 3000 24 _ _ _ ?_
    refine And.intro (by decide) ?_
    show X 32 [some (vR 6 g), some (vR 6 h0)] [] (mRow M 32 g (va_cpy (M.1 32 h0) (M.1 32 g) 0 0 4))
    exact hX
  have c4 : ∀ M : MM, X 40 [some (vR 6 g), some (vR 6 h0)] [] (cpF2 M 33 g h0 4) → X 32 [some (vR 6 g), some (vR 6 h0)] [] (M) := by
    intro M hX
    show X 32 [some (vR 6 g), some (vR 6 h0)] [] M
    refine h (fun i => Nat.beq i 40) 3000 32 _ _ _ ?_
    refine And.intro (by decide) ?_
    show X 40 [some (vR 6 g), some (vR 6 h0)] [] (mRow M 33 g (va_cpy (M.1 33 h0) (M.1 33 g) 0 0 4))
    exact hX
  have c5 : ∀ M : MM, X 48 [some (vR 6 g), some (vR 6 h0)] [] (cpF2 M 34 g h0 4) → X 40 [some (vR 6 g), some (vR 6 h0)] [] (M) := by
    intro M hX
    show X 40 [some (vR 6 g), some (vR 6 h0)] [] M
    refine h (fun i => Nat.beq i 48) 3000 40 _ _ _ ?_
    refine And.intro (by decide) ?_
    show X 48 [some (vR 6 g), some (vR 6 h0)] [] (mRow M 34 g (va_cpy (M.1 34 h0) (M.1 34 g) 0 0 4))
    exact hX
  have c6 : ∀ M : MM, X 56 [some (vR 6 g), some (vR 6 h0)] [] (cpF2 M 35 g h0 12) → X 48 [some (vR 6 g), some (vR 6 h0)] [] (M) := by
    intro M hX
    show X 48 [some (vR 6 g), some (vR 6 h0)] [] M
    refine h (fun i => Nat.beq i 56) 3000 48 _ _ _ ?_
    refine And.intro (by decide) ?_
    show X 56 [some (vR 6 g), some (vR 6 h0)] [] (mRow M 35 g (va_cpy (M.1 35 h0) (M.1 35 g) 0 0 12))
    exact hX
  have c7 : ∀ M : MM, X 64 [some (vR 6 g), some (vR 6 h0)] [] (cpF2 M 36 g h0 12) → X 56 [some (vR 6 g), some (vR 6 h0)] [] (M) := by
    intro M hX
    show X 56 [some (vR 6 g), some (vR 6 h0)] [] M
    refine h (fun i => Nat.beq i 64) 3000 56 _ _ _ ?_
    refine And.intro (by decide) ?_
    show X 64 [some (vR 6 g), some (vR 6 h0)] [] (mRow M 36 g (va_cpy (M.1 36 h0) (M.1 36 g) 0 0 12))
    exact hX
  have c8 : ∀ M : MM, X 72 [some (vR 6 g), some (vR 6 h0)] [] (cpF2 M 37 g h0 12) → X 64 [some (vR 6 g), some (vR 6 h0)] [] (M) := by
    intro M hX
    show X 64 [some (vR 6 g), some (vR 6 h0)] [] M
    refine h (fun i => Nat.beq i 72) 3000 64 _ _ _ ?_
    refine And.intro (by decide) ?_
    show X 72 [some (vR 6 g), some (vR 6 h0)] [] (mRow M 37 g (va_cpy (M.1 37 h0) (M.1 37 g) 0 0 12))
    exact hX
  have c9 : ∀ M : MM, X 80 [some (vR 6 g), some (vR 6 h0)] [] (cpF2 M 38 g h0 12) → X 72 [some (vR 6 g), some (vR 6 h0)] [] (M) := by
    intro M hX
    show X 72 [some (vR 6 g), some (vR 6 h0)] [] M
    refine h (fun i => Nat.beq i 80) 3000 72 _ _ _ ?_
    refine And.intro (by decide) ?_
    show X 80 [some (vR 6 g), some (vR 6 h0)] [] (mRow M 38 g (va_cpy (M.1 38 h0) (M.1 38 g) 0 0 12))
    exact hX
  have c10 : ∀ M : MM, X 88 [some (vR 6 g), some (vR 6 h0)] [] (cpF2 M 39 g h0 48) → X 80 [some (vR 6 g), some (vR 6 h0)] [] (M) := by
    intro M hX
    show X 80 [some (vR 6 g), some (vR 6 h0)] [] M
    refine h (fun i => Nat.beq i 88) 3000 80 _ _ _ ?_
    refine And.intro (by decide) ?_
    show X 88 [some (vR 6 g), some (vR 6 h0)] [] (mRow M 39 g (va_cpy (M.1 39 h0) (M.1 39 g) 0 0 48))
    exact hX
  have f0 : ∀ M : MM, X 102 [some (vR 6 g), some (vR 6 h0)] [] (cpI M 6 g h0 13) → X 98 [some (vR 6 g), some (vR 6 h0)] [] (M) := by
    intro M hX
    show X 98 [some (vR 6 g), some (vR 6 h0)] [] M
    refine h (fun i => Nat.beq i 102) 3000 98 _ _ _ ?_
    show X 102 [some (vR 6 g), some (vR 6 h0)] [] (mI M 6 g 13 (M.1 6 h0 13))
    exact hX
  have f1 : ∀ M : MM, X 106 [some (vR 6 g), some (vR 6 h0)] [] (cpI M 6 g h0 14) → X 102 [some (vR 6 g), some (vR 6 h0)] [] (M) := by
    intro M hX
    show X 102 [some (vR 6 g), some (vR 6 h0)] [] M
    refine h (fun i => Nat.beq i 106) 3000 102 _ _ _ ?_
    show X 106 [some (vR 6 g), some (vR 6 h0)] [] (mI M 6 g 14 (M.1 6 h0 14))
    exact hX
  have f2 : ∀ M : MM, X 110 [some (vR 6 g), some (vR 6 h0)] [] (cpI M 6 g h0 15) → X 106 [some (vR 6 g), some (vR 6 h0)] [] (M) := by
    intro M hX
    show X 106 [some (vR 6 g), some (vR 6 h0)] [] M
    refine h (fun i => Nat.beq i 110) 3000 106 _ _ _ ?_
    show X 110 [some (vR 6 g), some (vR 6 h0)] [] (mI M 6 g 15 (M.1 6 h0 15))
    exact hX
  have f3 : ∀ M : MM, X 114 [some (vR 6 g), some (vR 6 h0)] [] (cpI M 6 g h0 16) → X 110 [some (vR 6 g), some (vR 6 h0)] [] (M) := by
    intro M hX
    show X 110 [some (vR 6 g), some (vR 6 h0)] [] M
    refine h (fun i => Nat.beq i 114) 3000 110 _ _ _ ?_
    show X 114 [some (vR 6 g), some (vR 6 h0)] [] (mI M 6 g 16 (M.1 6 h0 16))
    exact hX
  have f4 : ∀ M : MM, X 118 [some (vR 6 g), some (vR 6 h0)] [] (cpI M 6 g h0 17) → X 114 [some (vR 6 g), some (vR 6 h0)] [] (M) := by
    intro M hX
    show X 114 [some (vR 6 g), some (vR 6 h0)] [] M
    refine h (fun i => Nat.beq i 118) 3000 114 _ _ _ ?_
    show X 118 [some (vR 6 g), some (vR 6 h0)] [] (mI M 6 g 17 (M.1 6 h0 17))
    exact hX
  have f5 : ∀ M : MM, X 122 [some (vR 6 g), some (vR 6 h0)] [] (cpI M 6 g h0 18) → X 118 [some (vR 6 g), some (vR 6 h0)] [] (M) := by
    intro M hX
    show X 118 [some (vR 6 g), some (vR 6 h0)] [] M
    refine h (fun i => Nat.beq i 122) 3000 118 _ _ _ ?_
    show X 122 [some (vR 6 g), some (vR 6 h0)] [] (mI M 6 g 18 (M.1 6 h0 18))
    exact hX
  have dz : ∀ M : MM, M.1 9 = mm.1 9 → X 98 [some (vR 6 g), some (vR 6 h0)] [] (ycM (dcM M g h0) g h0) → X 88 [some (vR 6 g), some (vR 6 h0)] [] (M) := by
    intro M hM hX
    have hz2 : M.1 9 h0 6 = 0 ∨ M.1 9 h0 6 = 1 := by rw [hM]; exact hz
    show X 88 [some (vR 6 g), some (vR 6 h0)] [] M
    refine h (fun i => Nat.beq i 98) 3000 88 _ _ _ ?_
    refine And.intro (show Pre_X1_copy M [vR 1 g, vR 1 h0] from ⟨g, h0, rfl⟩) ?_
    refine And.intro (show Pre_X9_copy (dcM M g h0) [vR 9 g, vR 9 h0] from ⟨g, h0, hz2, rfl⟩) ?_
    show X 98 [some (vR 6 g), some (vR 6 h0)] [] (ycM (dcM M g h0) g h0)
    exact hX
  have last : ∀ M : MM, M = vcM mm g h0 → ∀ N, M = cpI N 6 g h0 19 → X 122 [some (vR 6 g), some (vR 6 h0)] [] (N) := by
    intro M hM N hN
    have e : Fn_X6_copy mm [vR 6 g, vR 6 h0] = (none, cpI N 6 g h0 19) := by rw [← hN, hM]; rfl
    rw [e] at h
    show X 122 [some (vR 6 g), some (vR 6 h0)] [] N
    refine h (fun _ => false) 3000 122 _ _ _ ?_
    show ((none : Option MV), mI N 6 g 19 (N.1 6 h0 19)) = _
    exact rfl
  refine c0 _ (c1 _ (c2 _ (c3 _ (c4 _ (c5 _ (c6 _ (c7 _ (c8 _ (c9 _ (c10 _ ?_))))))))))
  refine dz _ rfl ?_
  refine f0 _ (f1 _ (f2 _ (f3 _ (f4 _ (f5 _ ?_)))))
  exact last _ rfl _ rfl
theorem con_X6_copy (l : Launch) : CON l y_X6_copy prog_8_method_3_code 2 none rm_X6_copy Pre_X6_copy Fn_X6_copy := CON_of (by decide) rfl rfl (sa_X6_copy l) vc_X6_copy
