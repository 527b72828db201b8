/-! PART 62: the class: giving, weddings, who is ahead -/

def cpF (a : Nat → Int32) : Nat → Int32
  | 0 => 0
  | s + 1 => cpF a s + (if ¬ a (15 + 4 * s) = -1 then 1 else 0)

--tpl ⟨_, _, _, _, by assumption, rfl⟩ || cpF (abV {m} {g0}) ({r 1 6 {g0} 13}).toNatClampNeg
def Pre_X6_couples : PreT := fun m as => ∃ g ns nm nt, VC2 m g ns nm nt ∧ as = [vR 6 g]
def Fn_X6_couples : FnT := fun m as => match as with
  | [Sum.inr (Sum.inr q)] => (some (vI (cpF (abV m q.2) (m.1 6 q.2 13).toNatClampNeg)), m)
  | _ => (none, m)
abbrev y_X6_couples : MethodName := ⟨"GivenUp$Valley", "couples", "()I"⟩
def P_X6_couples : List StpT := [s_ic (0), s_istore 1, s_ic (0), s_istore 2, s_iload 2, s_aload 0, s_getI 6 13, s_icge 20, s_iload 1, s_aload 0, s_iload 2, s_callV 6 1 Pre_X6_isWed Fn_X6_isWed, s_ifeq 15, s_ic (1), s_goto 16, s_ic (0), s_iadd, s_istore 1, s_iinc 2 (1), s_goto 4, s_iload 1, s_iret]
def pc_X6_couples : Nat → Nat := fun i => [0, 1, 2, 3, 4, 5, 6, 9, 12, 13, 14, 15, 18, 21, 22, 25, 26, 27, 28, 31, 34, 35].getD i 0
def dl_X6_couples : List (Nat × Instr × Nat) := [(0, .iconst 0, 1), (1, .istore_n 1, 1), (2, .iconst 0, 1), (3, .istore_n 2, 1), (4, .iload_n 2, 1), (5, .aload_n 0, 1), (6, .getfield 60, 3), (9, .if_icmp .ge 25, 3), (12, .iload_n 1, 1), (13, .aload_n 0, 1), (14, .iload_n 2, 1), (15, .invokevirtual 151, 3), (18, .ifCond .eq 7, 3), (21, .iconst 1, 1), (22, .goto 4, 3), (25, .iconst 0, 1), (26, .iadd, 1), (27, .istore_n 1, 1), (28, .iinc 2 1, 3), (31, .goto (-27), 3), (34, .iload_n 1, 1), (35, .ireturn, 1)]
theorem dc_X6_couples : DEC prog_8_method_22_code pc_X6_couples dl_X6_couples := DEC_of (by decide +kernel)
abbrev rm_X6_couples : Room := { frames := 1, cells := 0, slots := 0, locals := 21 }
set_option maxRecDepth 20000 in
theorem sa_X6_couples (l : Launch) : SNDALL l prog_8_method_22_code "GivenUp$Valley" 3 (some .int) rm_X6_couples P_X6_couples pc_X6_couples := fun p e s m args below meth c cells slots Q D dA ad A RR hC hR => by
  have hM := RTX_room (R := rm_X6_couples) hR
  exact ⟨st_iconst hC (n := 0) (x := 0) (dc_X6_couples 0 (0, .iconst 0, 1) rfl rfl) rfl (by decide),
    st_istore_n hC (n := 1) (k := 1) (dc_X6_couples 1 (1, .istore_n 1, 1) rfl rfl) rfl rfl (by decide),
    st_iconst hC (n := 2) (x := 0) (dc_X6_couples 2 (2, .iconst 0, 1) rfl rfl) rfl (by decide),
    st_istore_n hC (n := 3) (k := 2) (dc_X6_couples 3 (3, .istore_n 2, 1) rfl rfl) rfl rfl (by decide),
    st_iload_n hC (n := 4) (k := 2) (dc_X6_couples 4 (4, .iload_n 2, 1) rfl rfl) rfl rfl,
    st_aload_n hC (n := 5) (k := 0) (dc_X6_couples 5 (5, .aload_n 0, 1) rfl rfl) rfl rfl,
    st_getI hC (n := 6) (k := 6) (j := 13) (dc_X6_couples 6 (6, .getfield 60, 3) rfl rfl) rfl clf_6 (by decide) rfl wd_617,
    st_icge hC (n := 7) (dc_X6_couples 7 (9, .if_icmp .ge 25, 3) rfl rfl) rfl (by decide),
    st_iload_n hC (n := 8) (k := 1) (dc_X6_couples 8 (12, .iload_n 1, 1) rfl rfl) rfl rfl,
    st_aload_n hC (n := 9) (k := 0) (dc_X6_couples 9 (13, .aload_n 0, 1) rfl rfl) rfl rfl,
    st_iload_n hC (n := 10) (k := 2) (dc_X6_couples 10 (14, .iload_n 2, 1) rfl rfl) rfl rfl,
    st_callV hC (n := 11) (k := 6) (na := 1) (con_X6_isWed l) (dc_X6_couples 11 (15, .invokevirtual 151, 3) rfl rfl) rfl wd_1023 wd_155 (by decide) ⟨rfl, rfl, by decide, by decide⟩ hM wd_1020 wd_1021 wd_1022 clf_6,
    st_ifeq hC (n := 12) (dc_X6_couples 12 (18, .ifCond .eq 7, 3) rfl rfl) rfl (by decide),
    st_iconst hC (n := 13) (x := 1) (dc_X6_couples 13 (21, .iconst 1, 1) rfl rfl) rfl (by decide),
    st_goto hC (n := 14) (dc_X6_couples 14 (22, .goto 4, 3) rfl rfl) (by decide),
    st_iconst hC (n := 15) (x := 0) (dc_X6_couples 15 (25, .iconst 0, 1) rfl rfl) rfl (by decide),
    st_iadd hC (n := 16) (dc_X6_couples 16 (26, .iadd, 1) rfl rfl) rfl,
    st_istore_n hC (n := 17) (k := 1) (dc_X6_couples 17 (27, .istore_n 1, 1) rfl rfl) rfl rfl (by decide),
    st_iinc hC (n := 18) (x := 1) (dc_X6_couples 18 (28, .iinc 2 1, 3) rfl rfl) rfl (by decide) (by decide),
    st_goto hC (n := 19) (dc_X6_couples 19 (31, .goto (-27), 3) rfl rfl) (by decide),
    st_iload_n hC (n := 20) (k := 1) (dc_X6_couples 20 (34, .iload_n 1, 1) rfl rfl) rfl rfl,
    st_iret hC (n := 21) hR (dc_X6_couples 21 (35, .ireturn, 1) rfl rfl), trivial⟩
set_option maxRecDepth 8000 in
theorem vc_X6_couples : VC P_X6_couples 3 Pre_X6_couples Fn_X6_couples := by
  rintro mm as hom hoa ⟨g, n, nm, nt, hV, rfl⟩
  refine ⟨Nat.le_of_ble_eq_true rfl, fun X h => ?_⟩
  have hn : mm.1 6 g 13 = nI n := hV.1.1.1
  have hn4 : n ≤ 4 := hV.1.1.2
  have hF : Fn_X6_couples mm [vR 6 g] = (some (vI (cpF (abV mm g) n)), mm) := by
    show (some (vI (cpF (abV mm g) (mm.1 6 g 13).toNatClampNeg)), mm) = _
    rw [hn, nI_clamp (by omega)]
  rw [hF] at h
  have loop : ∀ t, t ≤ n → X 4 [some (vR 6 g), some (vI (cpF (abV mm g) t)), some (vI (nI t))] [] mm := by
    refine up_ind n ?_ (fun t ht ih => ?_)
    ·
      show X 4 [some (vR 6 g), some (vI (cpF (abV mm g) n)), some (vI (nI n))] [] mm
      refine h (fun _ => false) 3000 4 _ _ _ ?_
      refine br_t (show mm.1 6 g 13 ≤ nI n from by rw [hn]; exact Int32.le_refl _) ?_
      show ((some (vI (cpF (abV mm g) n)) : Option MV), mm) = _
      exact rfl
    · have et : (nI t).toNatClampNeg = t := nI_clamp (by omega)
      rw [cpF] at ih
      show X 4 [some (vR 6 g), some (vI (cpF (abV mm g) t)), some (vI (nI t))] [] mm
      refine h (fun i => Nat.beq i 4) 3000 4 _ _ _ ?_
      refine br_f (show ¬ (mm.1 6 g 13 ≤ nI t) from by rw [hn]; exact nI_ge ht (by omega)) ?_
      refine And.intro (show Pre_X6_isWed mm [vR 6 g, vI (nI t)] from ⟨g, n, nm, nt, t, hV, by omega, rfl⟩) ?_
      refine br_c (fun b12 => ?_) (fun b12 => ?_)
      · -- 12: bI (¬ abV mm g (15 + 4 * (nI t).toNatClampNeg) = -1) = 0 taken
        replace b12 : ¬ (¬ abV mm g (15 + 4 * (nI t).toNatClampNeg) = -1) := bI_0.mp b12
        (try simp only [et] at b12)
        show X 4 [some (vR 6 g), some (vI ((cpF (abV mm g) t) + 0)), some (vI ((nI t) + 1))] [] mm
        (try simp only [et])
        rw [if_neg b12] at ih
        rw [nI_1] 
        exact ih
      · -- 12: bI (¬ abV mm g (15 + 4 * (nI t).toNatClampNeg) = -1) = 0 on
        replace b12 : ¬ abV mm g (15 + 4 * (nI t).toNatClampNeg) = -1 := bI_n0.mp b12
        (try simp only [et] at b12)
        show X 4 [some (vR 6 g), some (vI ((cpF (abV mm g) t) + 1)), some (vI ((nI t) + 1))] [] mm
        (try simp only [et])
        rw [if_pos b12] at ih
        rw [nI_1] 
        exact ih
  show X 0 [some (vR 6 g), none, none] [] mm
  refine h (fun i => Nat.beq i 4) 3000 0 _ _ _ ?_
  show X 4 [some (vR 6 g), some (vI 0), some (vI 0)] [] mm
  exact loop 0 (by omega)
theorem con_X6_couples (l : Launch) : CON l y_X6_couples prog_8_method_22_code 3 (some .int) rm_X6_couples Pre_X6_couples Fn_X6_couples := CON_of (by decide) rfl rfl (sa_X6_couples l) vc_X6_couples
--tpl ⟨_, _, _, _, {1N}, {2N}, by assumption, by omega, by omega, rfl⟩ || bI (ysA (abV {m} {g0}) {1n} {2n})
def Pre_X6_isWilling : PreT := fun m as => ∃ g ns nm nt s d, VC2 m g ns nm nt ∧ s < 4 ∧ d < 4 ∧ as = [vR 6 g, vI (nI s), vI (nI d)]
def Fn_X6_isWilling : FnT := fun m as => match as with
  | [Sum.inr (Sum.inr q), Sum.inl s, Sum.inl d] => (some (vI (bI (ysA (abV m q.2) s.toNatClampNeg d.toNatClampNeg))), m)
  | _ => (none, m)
abbrev y_X6_isWilling : MethodName := ⟨"GivenUp$Valley", "isWilling", "(II)Z"⟩
def P_X6_isWilling : List StpT := [s_aload 0, s_iload 1, s_callV 6 1 Pre_X6_isWed Fn_X6_isWed, s_ifne 18, s_aload 0, s_iload 2, s_callV 6 1 Pre_X6_isTaken Fn_X6_isTaken, s_ifne 18, s_aload 0, s_iload 1, s_iload 2, s_callV 6 2 Pre_X6_hears Fn_X6_hears, s_aload 0, s_iload 2, s_callV 6 1 Pre_X6_barNow Fn_X6_barNow, s_iclt 18, s_ic (1), s_goto 19, s_ic (0), s_zret]
def pc_X6_isWilling : Nat → Nat := fun i => [0, 1, 2, 5, 8, 9, 10, 13, 16, 17, 18, 19, 22, 23, 24, 27, 30, 31, 34, 35].getD i 0
def dl_X6_isWilling : List (Nat × Instr × Nat) := [(0, .aload_n 0, 1), (1, .iload_n 1, 1), (2, .invokevirtual 151, 3), (5, .ifCond .ne 29, 3), (8, .aload_n 0, 1), (9, .iload_n 2, 1), (10, .invokevirtual 154, 3), (13, .ifCond .ne 21, 3), (16, .aload_n 0, 1), (17, .iload_n 1, 1), (18, .iload_n 2, 1), (19, .invokevirtual 157, 3), (22, .aload_n 0, 1), (23, .iload_n 2, 1), (24, .invokevirtual 160, 3), (27, .if_icmp .lt 7, 3), (30, .iconst 1, 1), (31, .goto 4, 3), (34, .iconst 0, 1), (35, .ireturn, 1)]
theorem dc_X6_isWilling : DEC prog_8_method_23_code pc_X6_isWilling dl_X6_isWilling := DEC_of (by decide +kernel)
abbrev rm_X6_isWilling : Room := { frames := 2, cells := 0, slots := 0, locals := 46 }
set_option maxRecDepth 20000 in
theorem sa_X6_isWilling (l : Launch) : SNDALL l prog_8_method_23_code "GivenUp$Valley" 3 (some .boolean) rm_X6_isWilling P_X6_isWilling pc_X6_isWilling := fun p e s m args below meth c cells slots Q D dA ad A RR hC hR => by
  have hM := RTX_room (R := rm_X6_isWilling) hR
  exact ⟨st_aload_n hC (n := 0) (k := 0) (dc_X6_isWilling 0 (0, .aload_n 0, 1) rfl rfl) rfl rfl,
    st_iload_n hC (n := 1) (k := 1) (dc_X6_isWilling 1 (1, .iload_n 1, 1) rfl rfl) rfl rfl,
    st_callV hC (n := 2) (k := 6) (na := 1) (con_X6_isWed l) (dc_X6_isWilling 2 (2, .invokevirtual 151, 3) rfl rfl) rfl wd_1023 wd_155 (by decide) ⟨rfl, rfl, by decide, by decide⟩ hM wd_1020 wd_1021 wd_1022 clf_6,
    st_ifne hC (n := 3) (dc_X6_isWilling 3 (5, .ifCond .ne 29, 3) rfl rfl) rfl (by decide),
    st_aload_n hC (n := 4) (k := 0) (dc_X6_isWilling 4 (8, .aload_n 0, 1) rfl rfl) rfl rfl,
    st_iload_n hC (n := 5) (k := 2) (dc_X6_isWilling 5 (9, .iload_n 2, 1) rfl rfl) rfl rfl,
    st_callV hC (n := 6) (k := 6) (na := 1) (con_X6_isTaken l) (dc_X6_isWilling 6 (10, .invokevirtual 154, 3) rfl rfl) rfl wd_1159 wd_155 (by decide) ⟨rfl, rfl, by decide, by decide⟩ hM wd_1156 wd_1157 wd_1158 clf_6,
    st_ifne hC (n := 7) (dc_X6_isWilling 7 (13, .ifCond .ne 21, 3) rfl rfl) rfl (by decide),
    st_aload_n hC (n := 8) (k := 0) (dc_X6_isWilling 8 (16, .aload_n 0, 1) rfl rfl) rfl rfl,
    st_iload_n hC (n := 9) (k := 1) (dc_X6_isWilling 9 (17, .iload_n 1, 1) rfl rfl) rfl rfl,
    st_iload_n hC (n := 10) (k := 2) (dc_X6_isWilling 10 (18, .iload_n 2, 1) rfl rfl) rfl rfl,
    st_callV hC (n := 11) (k := 6) (na := 2) (con_X6_hears l) (dc_X6_isWilling 11 (19, .invokevirtual 157, 3) rfl rfl) rfl wd_1143 wd_155 (by decide) ⟨rfl, rfl, by decide, by decide⟩ hM wd_1160 wd_1141 wd_1142 clf_6,
    st_aload_n hC (n := 12) (k := 0) (dc_X6_isWilling 12 (22, .aload_n 0, 1) rfl rfl) rfl rfl,
    st_iload_n hC (n := 13) (k := 2) (dc_X6_isWilling 13 (23, .iload_n 2, 1) rfl rfl) rfl rfl,
    st_callV hC (n := 14) (k := 6) (na := 1) (con_X6_barNow l) (dc_X6_isWilling 14 (24, .invokevirtual 160, 3) rfl rfl) rfl wd_1056 wd_155 (by decide) ⟨rfl, rfl, by decide, by decide⟩ hM wd_1161 wd_1054 wd_1055 clf_6,
    st_iclt hC (n := 15) (dc_X6_isWilling 15 (27, .if_icmp .lt 7, 3) rfl rfl) rfl (by decide),
    st_iconst hC (n := 16) (x := 1) (dc_X6_isWilling 16 (30, .iconst 1, 1) rfl rfl) rfl (by decide),
    st_goto hC (n := 17) (dc_X6_isWilling 17 (31, .goto 4, 3) rfl rfl) (by decide),
    st_iconst hC (n := 18) (x := 0) (dc_X6_isWilling 18 (34, .iconst 0, 1) rfl rfl) rfl (by decide),
    st_zret hC (n := 19) hR (dc_X6_isWilling 19 (35, .ireturn, 1) rfl rfl), trivial⟩
set_option maxRecDepth 8000 in
theorem vc_X6_isWilling : VC P_X6_isWilling 3 Pre_X6_isWilling Fn_X6_isWilling := by
  rintro mm as hom hoa ⟨g, ns, nm, nt, s, d, hV, hs, hd, rfl⟩
  refine ⟨Nat.le_of_ble_eq_true rfl, fun X h => ?_⟩
  have es : (nI s).toNatClampNeg = s := nI_clamp (by omega)
  have ed : (nI d).toNatClampNeg = d := nI_clamp (by omega)
  have hF : Fn_X6_isWilling mm [vR 6 g, vI (nI s), vI (nI d)] = (some (vI (bI (ysA (abV mm g) s d))), mm) := by
    show (some (vI (bI (ysA (abV mm g) (nI s).toNatClampNeg (nI d).toNatClampNeg))), mm) = _
    simp only [es, ed]
  rw [hF] at h
  have no : ¬ ysA (abV mm g) s d → X 18 [some (vR 6 g), some (vI (nI s)), some (vI (nI d))] [] mm := by
    intro hc
    show X 18 [some (vR 6 g), some (vI (nI s)), some (vI (nI d))] [] mm
    refine h (fun _ => false) 3000 18 _ _ _ ?_
    refine And.intro (Or.inl rfl) ?_
    show ((some (vI 0) : Option MV), mm) = _
    exact ret_f hc
  show X 0 [some (vR 6 g), some (vI (nI s)), some (vI (nI d))] [] mm
  refine h (fun i => Nat.beq i 18) 3000 0 _ _ _ ?_
  refine And.intro (show Pre_X6_isWed mm [vR 6 g, vI (nI s)] from ⟨g, ns, nm, nt, s, hV, hs, rfl⟩) ?_
  refine brn_c (fun b3 => ?_) (fun b3 => ?_)
  · -- 3: bI (¬ abV mm g (15 + 4 * (nI s).toNatClampNeg) = -1) = 0 taken
    replace b3 : ¬ abV mm g (15 + 4 * (nI s).toNatClampNeg) = -1 := bI_n0.mp b3
    (try simp only [es, ed] at b3)
    show X 18 [some (vR 6 g), some (vI (nI s)), some (vI (nI d))] [] mm
    (try simp only [es, ed])
    exact no (fun z => b3 z.1)
  · -- 3: bI (¬ abV mm g (15 + 4 * (nI s).toNatClampNeg) = -1) = 0 on
    replace b3 : ¬ (¬ abV mm g (15 + 4 * (nI s).toNatClampNeg) = -1) := bI_0.mp b3
    (try simp only [es, ed] at b3)
    refine And.intro (show Pre_X6_isTaken mm [vR 6 g, vI (nI d)] from ⟨g, ns, nm, nt, d, hV, hd, rfl⟩) ?_
    refine brn_c (fun b7 => ?_) (fun b7 => ?_)
    · -- 7: bI (¬ abV mm g (31 + 4 * (nI d).toNatClampNeg) = -1) = 0 taken
      replace b7 : ¬ abV mm g (31 + 4 * (nI d).toNatClampNeg) = -1 := bI_n0.mp b7
      (try simp only [es, ed] at b7)
      show X 18 [some (vR 6 g), some (vI (nI s)), some (vI (nI d))] [] mm
      (try simp only [es, ed])
      exact no (fun z => b7 z.2.1)
    · -- 7: bI (¬ abV mm g (31 + 4 * (nI d).toNatClampNeg) = -1) = 0 on
      replace b7 : ¬ (¬ abV mm g (31 + 4 * (nI d).toNatClampNeg) = -1) := bI_0.mp b7
      (try simp only [es, ed] at b7)
      refine And.intro (show Pre_X6_hears mm [vR 6 g, vI (nI s), vI (nI d)] from ⟨_, _, _, _, d, by assumption, by omega, _, rfl⟩) ?_
      refine And.intro (show Pre_X6_barNow mm [vR 6 g, vI (nI d)] from ⟨g, d, hd, rfl⟩) ?_
      refine br_c (fun b15 => ?_) (fun b15 => ?_)
      · -- 15: hdA (abV mm g) (nI s) (nI d).toNatClampNeg < brA (abV mm g) (nI d).toNatClampNeg (abV mm g 6) taken
        replace b15 : hdA (abV mm g) (nI s) (nI d).toNatClampNeg < brA (abV mm g) (nI d).toNatClampNeg (abV mm g 6) := b15
        (try simp only [es, ed] at b15)
        show X 18 [some (vR 6 g), some (vI (nI s)), some (vI (nI d))] [] mm
        (try simp only [es, ed])
        exact no (fun z => z.2.2 b15)
      · -- 15: hdA (abV mm g) (nI s) (nI d).toNatClampNeg < brA (abV mm g) (nI d).toNatClampNeg (abV mm g 6) on
        replace b15 : ¬ (hdA (abV mm g) (nI s) (nI d).toNatClampNeg < brA (abV mm g) (nI d).toNatClampNeg (abV mm g 6)) := b15
        (try simp only [es, ed] at b15)
        refine And.intro (Or.inr rfl) ?_
        show ((some (vI 1) : Option MV), mm) = _
        (try simp only [es, ed])
        exact ret_t ⟨Classical.byContradiction b3, Classical.byContradiction b7, b15⟩
theorem con_X6_isWilling (l : Launch) : CON l y_X6_isWilling prog_8_method_23_code 3 (some .boolean) rm_X6_isWilling Pre_X6_isWilling Fn_X6_isWilling := CON_of (by decide) rfl rfl (sa_X6_isWilling l) vc_X6_isWilling
--tpl ⟨_, _, _, _, by assumption, _, rfl⟩ || bI (thA (abV {m} {g0}) {1} &&& (abV {m} {g0} 8 ^^^ (-1)) = 0)
def Pre_X6_isBare : PreT := fun m as => ∃ g ns nm nt, VC2 m g ns nm nt ∧ ∃ s : Int32, as = [vR 6 g, vI s]
def Fn_X6_isBare : FnT := fun m as => match as with
  | [Sum.inr (Sum.inr q), Sum.inl s] => (some (vI (bI (thA (abV m q.2) s &&& (abV m q.2 8 ^^^ (-1)) = 0))), m)
  | _ => (none, m)
abbrev y_X6_isBare : MethodName := ⟨"GivenUp$Valley", "isBare", "(I)Z"⟩
def P_X6_isBare : List StpT := [s_aload 0, s_iload 1, s_callV 6 1 Pre_X6_goods Fn_X6_goods, s_aload 0, s_getR 6 11 1, s_getI 1 5, s_ic (-1), s_ixor, s_iand, s_ifne 12, s_ic (1), s_goto 13, s_ic (0), s_zret]
def pc_X6_isBare : Nat → Nat := fun i => [0, 1, 2, 5, 6, 9, 12, 13, 14, 15, 18, 19, 22, 23].getD i 0
def dl_X6_isBare : List (Nat × Instr × Nat) := [(0, .aload_n 0, 1), (1, .iload_n 1, 1), (2, .invokevirtual 126, 3), (5, .aload_n 0, 1), (6, .getfield 49, 3), (9, .getfield 129, 3), (12, .iconst (-1), 1), (13, .ixor, 1), (14, .iand, 1), (15, .ifCond .ne 7, 3), (18, .iconst 1, 1), (19, .goto 4, 3), (22, .iconst 0, 1), (23, .ireturn, 1)]
theorem dc_X6_isBare : DEC prog_8_method_24_code pc_X6_isBare dl_X6_isBare := DEC_of (by decide +kernel)
abbrev rm_X6_isBare : Room := { frames := 1, cells := 0, slots := 0, locals := 23 }
set_option maxRecDepth 20000 in
theorem sa_X6_isBare (l : Launch) : SNDALL l prog_8_method_24_code "GivenUp$Valley" 2 (some .boolean) rm_X6_isBare P_X6_isBare pc_X6_isBare := fun p e s m args below meth c cells slots Q D dA ad A RR hC hR => by
  have hM := RTX_room (R := rm_X6_isBare) hR
  exact ⟨st_aload_n hC (n := 0) (k := 0) (dc_X6_isBare 0 (0, .aload_n 0, 1) rfl rfl) rfl rfl,
    st_iload_n hC (n := 1) (k := 1) (dc_X6_isBare 1 (1, .iload_n 1, 1) rfl rfl) rfl rfl,
    st_callV hC (n := 2) (k := 6) (na := 1) (con_X6_goods l) (dc_X6_isBare 2 (2, .invokevirtual 126, 3) rfl rfl) rfl wd_1035 wd_155 (by decide) ⟨rfl, rfl, by decide, by decide⟩ hM wd_1032 wd_1033 wd_1034 clf_6,
    st_aload_n hC (n := 3) (k := 0) (dc_X6_isBare 3 (5, .aload_n 0, 1) rfl rfl) rfl rfl,
    st_getR hC (n := 4) (k := 6) (j := 11) (dc_X6_isBare 4 (6, .getfield 49, 3) rfl rfl) rfl clf_6 (by decide) rfl (by decide) wd_610,
    st_getI hC (n := 5) (k := 1) (j := 5) (dc_X6_isBare 5 (9, .getfield 129, 3) rfl rfl) rfl clf_1 (by decide) rfl wd_483,
    st_iconst hC (n := 6) (x := (-1)) (dc_X6_isBare 6 (12, .iconst (-1), 1) rfl rfl) rfl (by decide),
    st_ixor hC (n := 7) (dc_X6_isBare 7 (13, .ixor, 1) rfl rfl) rfl,
    st_iand hC (n := 8) (dc_X6_isBare 8 (14, .iand, 1) rfl rfl) rfl,
    st_ifne hC (n := 9) (dc_X6_isBare 9 (15, .ifCond .ne 7, 3) rfl rfl) rfl (by decide),
    st_iconst hC (n := 10) (x := 1) (dc_X6_isBare 10 (18, .iconst 1, 1) rfl rfl) rfl (by decide),
    st_goto hC (n := 11) (dc_X6_isBare 11 (19, .goto 4, 3) rfl rfl) (by decide),
    st_iconst hC (n := 12) (x := 0) (dc_X6_isBare 12 (22, .iconst 0, 1) rfl rfl) rfl (by decide),
    st_zret hC (n := 13) hR (dc_X6_isBare 13 (23, .ireturn, 1) rfl rfl), trivial⟩
set_option maxRecDepth 8000 in
theorem vc_X6_isBare : VC P_X6_isBare 2 Pre_X6_isBare Fn_X6_isBare := by
  rintro mm as hom hoa ⟨g, ns, nm, nt, hV, s, rfl⟩
  refine ⟨Nat.le_of_ble_eq_true rfl, fun X h => ?_⟩
  show X 0 [some (vR 6 g), some (vI s)] [] mm
  refine h (fun _ => false) 3000 0 _ _ _ ?_
  refine And.intro (show Pre_X6_goods mm [vR 6 g, vI s] from ⟨g, ns, nm, nt, hV, s, rfl⟩) ?_
  refine brn_c (fun b9 => ?_) (fun b9 => ?_)
  · -- 9: (thA (abV mm g) s) &&& ((mm.1 1 g 5) ^^^ (-1)) = 0 taken
    replace b9 : ¬ ((thA (abV mm g) s) &&& ((mm.1 1 g 5) ^^^ (-1)) = 0) := b9
    refine And.intro (Or.inl rfl) ?_
    show ((some (vI 0) : Option MV), mm) = _
    exact ret_f b9
  · -- 9: (thA (abV mm g) s) &&& ((mm.1 1 g 5) ^^^ (-1)) = 0 on
    replace b9 : (thA (abV mm g) s) &&& ((mm.1 1 g 5) ^^^ (-1)) = 0 := b9
    refine And.intro (Or.inr rfl) ?_
    show ((some (vI 1) : Option MV), mm) = _
    exact ret_t b9
theorem con_X6_isBare (l : Launch) : CON l y_X6_isBare prog_8_method_24_code 2 (some .boolean) rm_X6_isBare Pre_X6_isBare Fn_X6_isBare := CON_of (by decide) rfl rfl (sa_X6_isBare l) vc_X6_isBare
--tpl ⟨_, _, _, _, by assumption, _, rfl⟩ || nI (pcN (thA (abV {m} {g0}) {1} &&& abV {m} {g0} 9).toNatClampNeg)
def Pre_X6_feignedBy : PreT := fun m as => ∃ g ns nm nt, VC2 m g ns nm nt ∧ ∃ s : Int32, as = [vR 6 g, vI s]
def Fn_X6_feignedBy : FnT := fun m as => match as with
  | [Sum.inr (Sum.inr q), Sum.inl s] => (some (vI (nI (pcN (thA (abV m q.2) s &&& abV m q.2 9).toNatClampNeg))), m)
  | _ => (none, m)
abbrev y_X6_feignedBy : MethodName := ⟨"GivenUp$Valley", "feignedBy", "(I)I"⟩
def P_X6_feignedBy : List StpT := [s_aload 0, s_iload 1, s_callV 6 1 Pre_X6_goods Fn_X6_goods, s_aload 0, s_getR 6 11 1, s_getI 1 6, s_iand, s_callS 1 Pre_J6_bitCount_0f7a4 Fn_J6_bitCount_0f7a4, s_iret]
def pc_X6_feignedBy : Nat → Nat := fun i => [0, 1, 2, 5, 6, 9, 12, 13, 16].getD i 0
def dl_X6_feignedBy : List (Nat × Instr × Nat) := [(0, .aload_n 0, 1), (1, .iload_n 1, 1), (2, .invokevirtual 126, 3), (5, .aload_n 0, 1), (6, .getfield 49, 3), (9, .getfield 135, 3), (12, .iand, 1), (13, .invokestatic 120, 3), (16, .ireturn, 1)]
theorem dc_X6_feignedBy : DEC prog_8_method_25_code pc_X6_feignedBy dl_X6_feignedBy := DEC_of (by decide +kernel)
abbrev rm_X6_feignedBy : Room := { frames := 1, cells := 0, slots := 0, locals := 23 }
set_option maxRecDepth 20000 in
theorem sa_X6_feignedBy (l : Launch) : SNDALL l prog_8_method_25_code "GivenUp$Valley" 2 (some .int) rm_X6_feignedBy P_X6_feignedBy pc_X6_feignedBy := fun p e s m args below meth c cells slots Q D dA ad A RR hC hR => by
  have hM := RTX_room (R := rm_X6_feignedBy) hR
  exact ⟨st_aload_n hC (n := 0) (k := 0) (dc_X6_feignedBy 0 (0, .aload_n 0, 1) rfl rfl) rfl rfl,
    st_iload_n hC (n := 1) (k := 1) (dc_X6_feignedBy 1 (1, .iload_n 1, 1) rfl rfl) rfl rfl,
    st_callV hC (n := 2) (k := 6) (na := 1) (con_X6_goods l) (dc_X6_feignedBy 2 (2, .invokevirtual 126, 3) rfl rfl) rfl wd_1035 wd_155 (by decide) ⟨rfl, rfl, by decide, by decide⟩ hM wd_1032 wd_1033 wd_1034 clf_6,
    st_aload_n hC (n := 3) (k := 0) (dc_X6_feignedBy 3 (5, .aload_n 0, 1) rfl rfl) rfl rfl,
    st_getR hC (n := 4) (k := 6) (j := 11) (dc_X6_feignedBy 4 (6, .getfield 49, 3) rfl rfl) rfl clf_6 (by decide) rfl (by decide) wd_610,
    st_getI hC (n := 5) (k := 1) (j := 6) (dc_X6_feignedBy 5 (9, .getfield 135, 3) rfl rfl) rfl clf_1 (by decide) rfl wd_488,
    st_iand hC (n := 6) (dc_X6_feignedBy 6 (12, .iand, 1) rfl rfl) rfl,
    st_callS hC (n := 7) (na := 1) (con_J6_bitCount_0f7a4 l) (dc_X6_feignedBy 7 (13, .invokestatic 120, 3) rfl rfl) rfl wd_1071 wd_163 (by decide) ⟨rfl, rfl, by decide, by decide⟩ hM wd_1069 wd_1070,
    st_iret hC (n := 8) hR (dc_X6_feignedBy 8 (16, .ireturn, 1) rfl rfl), trivial⟩
set_option maxRecDepth 8000 in
theorem vc_X6_feignedBy : VC P_X6_feignedBy 2 Pre_X6_feignedBy Fn_X6_feignedBy := by
  rintro mm as hom hoa ⟨g, ns, nm, nt, hV, s, rfl⟩
  refine ⟨Nat.le_of_ble_eq_true rfl, fun X h => ?_⟩
  obtain ⟨W, hW, e⟩ := th_and hV.1 s (mm.1 1 g 6)
  show X 0 [some (vR 6 g), some (vI s)] [] mm
  refine h (fun _ => false) 3000 0 _ _ _ ?_
  refine And.intro (show Pre_X6_goods mm [vR 6 g, vI s] from ⟨g, ns, nm, nt, hV, s, rfl⟩) ?_
  refine And.intro (show Pre_J6_bitCount_0f7a4 mm [vI ((thA (abV mm g) s) &&& (mm.1 1 g 6))] from ⟨W, hW, by rw [e]⟩) ?_
  show ((some (vI (nI (pcN ((thA (abV mm g) s) &&& (mm.1 1 g 6)).toNatClampNeg))) : Option MV), mm) = _
  exact rfl
theorem con_X6_feignedBy (l : Launch) : CON l y_X6_feignedBy prog_8_method_25_code 2 (some .int) rm_X6_feignedBy Pre_X6_feignedBy Fn_X6_feignedBy := CON_of (by decide) rfl rfl (sa_X6_feignedBy l) vc_X6_feignedBy
theorem of_lt {m : MM} {g ns nm nt t : Nat} (hV : VC2 m g ns nm nt) (ht : t < nt) : ∃ o, o < 4 ∧ m.1 35 g t = nI o ∧ owA (abV m g) t = o := by
  have h12 := hV.1.2.2.1.2
  obtain ⟨h1, h2⟩ := owA_at hV.1 ht
  refine ⟨owA (abV m g) t, owA_lt hV.1 ht, ?_, rfl⟩
  rw [← ab_of (show t < 12 by omega)]
  exact h2

--tpl ⟨_, _, _, _, {1N}, by assumption, by omega, rfl⟩ || bI (mgA (abV {m} {g0}) {1n})
def Pre_X6_canGive : PreT := fun m as => ∃ g ns nm nt t, VC2 m g ns nm nt ∧ t < nt ∧ as = [vR 6 g, vI (nI t)]
def Fn_X6_canGive : FnT := fun m as => match as with
  | [Sum.inr (Sum.inr q), Sum.inl t] => (some (vI (bI (mgA (abV m q.2) t.toNatClampNeg))), m)
  | _ => (none, m)
abbrev y_X6_canGive : MethodName := ⟨"GivenUp$Valley", "canGive", "(I)Z"⟩
def P_X6_canGive : List StpT := [s_aload 0, s_getR 6 6 35, s_iload 1, s_iald, s_istore 2, s_aload 0, s_getR 6 11 1, s_getI 1 5, s_aload 0, s_getR 6 11 1, s_getI 1 6, s_ior, s_ic (1), s_iload 1, s_ishl, s_iand, s_ifne 42, s_aload 0, s_iload 2, s_callV 6 1 Pre_X6_isWed Fn_X6_isWed, s_ifne 42, s_aload 0, s_getR 6 8 37, s_iload 1, s_iald, s_aload 0, s_getR 6 11 1, s_getI 1 5, s_ic (-1), s_ixor, s_iand, s_ifne 42, s_aload 0, s_getR 6 11 1, s_getR 1 1 17, s_iload 2, s_iald, s_aload 0, s_getI 6 17, s_icge 42, s_ic (1), s_goto 43, s_ic (0), s_zret]
def pc_X6_canGive : Nat → Nat := fun i => [0, 1, 4, 5, 6, 7, 8, 11, 14, 15, 18, 21, 22, 23, 24, 25, 26, 29, 30, 31, 34, 37, 38, 41, 42, 43, 44, 47, 50, 51, 52, 53, 56, 57, 60, 63, 64, 65, 66, 69, 72, 73, 76, 77].getD i 0
def dl_X6_canGive : List (Nat × Instr × Nat) := [(0, .aload_n 0, 1), (1, .getfield 31, 3), (4, .iload_n 1, 1), (5, .iaload, 1), (6, .istore_n 2, 1), (7, .aload_n 0, 1), (8, .getfield 49, 3), (11, .getfield 129, 3), (14, .aload_n 0, 1), (15, .getfield 49, 3), (18, .getfield 135, 3), (21, .ior, 1), (22, .iconst 1, 1), (23, .iload_n 1, 1), (24, .ishl, 1), (25, .iand, 1), (26, .ifCond .ne 50, 3), (29, .aload_n 0, 1), (30, .iload_n 2, 1), (31, .invokevirtual 151, 3), (34, .ifCond .ne 42, 3), (37, .aload_n 0, 1), (38, .getfield 37, 3), (41, .iload_n 1, 1), (42, .iaload, 1), (43, .aload_n 0, 1), (44, .getfield 49, 3), (47, .getfield 129, 3), (50, .iconst (-1), 1), (51, .ixor, 1), (52, .iand, 1), (53, .ifCond .ne 23, 3), (56, .aload_n 0, 1), (57, .getfield 49, 3), (60, .getfield 163, 3), (63, .iload_n 2, 1), (64, .iaload, 1), (65, .aload_n 0, 1), (66, .getfield 73, 3), (69, .if_icmp .ge 7, 3), (72, .iconst 1, 1), (73, .goto 4, 3), (76, .iconst 0, 1), (77, .ireturn, 1)]
theorem dc_X6_canGive : DEC prog_8_method_26_code pc_X6_canGive dl_X6_canGive := DEC_of (by decide +kernel)
abbrev rm_X6_canGive : Room := { frames := 1, cells := 0, slots := 0, locals := 21 }
set_option maxRecDepth 20000 in
theorem sa_X6_canGive (l : Launch) : SNDALL l prog_8_method_26_code "GivenUp$Valley" 3 (some .boolean) rm_X6_canGive P_X6_canGive pc_X6_canGive := fun p e s m args below meth c cells slots Q D dA ad A RR hC hR => by
  have hM := RTX_room (R := rm_X6_canGive) hR
  exact ⟨st_aload_n hC (n := 0) (k := 0) (dc_X6_canGive 0 (0, .aload_n 0, 1) rfl rfl) rfl rfl,
    st_getR hC (n := 1) (k := 6) (j := 6) (dc_X6_canGive 1 (1, .getfield 31, 3) rfl rfl) rfl clf_6 (by decide) rfl (by decide) wd_595,
    st_iload_n hC (n := 2) (k := 1) (dc_X6_canGive 2 (4, .iload_n 1, 1) rfl rfl) rfl rfl,
    st_iald hC (n := 3) (dc_X6_canGive 3 (5, .iaload, 1) rfl rfl) rfl,
    st_istore_n hC (n := 4) (k := 2) (dc_X6_canGive 4 (6, .istore_n 2, 1) rfl rfl) rfl rfl (by decide),
    st_aload_n hC (n := 5) (k := 0) (dc_X6_canGive 5 (7, .aload_n 0, 1) rfl rfl) rfl rfl,
    st_getR hC (n := 6) (k := 6) (j := 11) (dc_X6_canGive 6 (8, .getfield 49, 3) rfl rfl) rfl clf_6 (by decide) rfl (by decide) wd_610,
    st_getI hC (n := 7) (k := 1) (j := 5) (dc_X6_canGive 7 (11, .getfield 129, 3) rfl rfl) rfl clf_1 (by decide) rfl wd_483,
    st_aload_n hC (n := 8) (k := 0) (dc_X6_canGive 8 (14, .aload_n 0, 1) rfl rfl) rfl rfl,
    st_getR hC (n := 9) (k := 6) (j := 11) (dc_X6_canGive 9 (15, .getfield 49, 3) rfl rfl) rfl clf_6 (by decide) rfl (by decide) wd_610,
    st_getI hC (n := 10) (k := 1) (j := 6) (dc_X6_canGive 10 (18, .getfield 135, 3) rfl rfl) rfl clf_1 (by decide) rfl wd_488,
    st_ior hC (n := 11) (dc_X6_canGive 11 (21, .ior, 1) rfl rfl) rfl,
    st_iconst hC (n := 12) (x := 1) (dc_X6_canGive 12 (22, .iconst 1, 1) rfl rfl) rfl (by decide),
    st_iload_n hC (n := 13) (k := 1) (dc_X6_canGive 13 (23, .iload_n 1, 1) rfl rfl) rfl rfl,
    st_ishl hC (n := 14) (dc_X6_canGive 14 (24, .ishl, 1) rfl rfl) rfl,
    st_iand hC (n := 15) (dc_X6_canGive 15 (25, .iand, 1) rfl rfl) rfl,
    st_ifne hC (n := 16) (dc_X6_canGive 16 (26, .ifCond .ne 50, 3) rfl rfl) rfl (by decide),
    st_aload_n hC (n := 17) (k := 0) (dc_X6_canGive 17 (29, .aload_n 0, 1) rfl rfl) rfl rfl,
    st_iload_n hC (n := 18) (k := 2) (dc_X6_canGive 18 (30, .iload_n 2, 1) rfl rfl) rfl rfl,
    st_callV hC (n := 19) (k := 6) (na := 1) (con_X6_isWed l) (dc_X6_canGive 19 (31, .invokevirtual 151, 3) rfl rfl) rfl wd_1023 wd_155 (by decide) ⟨rfl, rfl, by decide, by decide⟩ hM wd_1020 wd_1021 wd_1022 clf_6,
    st_ifne hC (n := 20) (dc_X6_canGive 20 (34, .ifCond .ne 42, 3) rfl rfl) rfl (by decide),
    st_aload_n hC (n := 21) (k := 0) (dc_X6_canGive 21 (37, .aload_n 0, 1) rfl rfl) rfl rfl,
    st_getR hC (n := 22) (k := 6) (j := 8) (dc_X6_canGive 22 (38, .getfield 37, 3) rfl rfl) rfl clf_6 (by decide) rfl (by decide) wd_601,
    st_iload_n hC (n := 23) (k := 1) (dc_X6_canGive 23 (41, .iload_n 1, 1) rfl rfl) rfl rfl,
    st_iald hC (n := 24) (dc_X6_canGive 24 (42, .iaload, 1) rfl rfl) rfl,
    st_aload_n hC (n := 25) (k := 0) (dc_X6_canGive 25 (43, .aload_n 0, 1) rfl rfl) rfl rfl,
    st_getR hC (n := 26) (k := 6) (j := 11) (dc_X6_canGive 26 (44, .getfield 49, 3) rfl rfl) rfl clf_6 (by decide) rfl (by decide) wd_610,
    st_getI hC (n := 27) (k := 1) (j := 5) (dc_X6_canGive 27 (47, .getfield 129, 3) rfl rfl) rfl clf_1 (by decide) rfl wd_483,
    st_iconst hC (n := 28) (x := (-1)) (dc_X6_canGive 28 (50, .iconst (-1), 1) rfl rfl) rfl (by decide),
    st_ixor hC (n := 29) (dc_X6_canGive 29 (51, .ixor, 1) rfl rfl) rfl,
    st_iand hC (n := 30) (dc_X6_canGive 30 (52, .iand, 1) rfl rfl) rfl,
    st_ifne hC (n := 31) (dc_X6_canGive 31 (53, .ifCond .ne 23, 3) rfl rfl) rfl (by decide),
    st_aload_n hC (n := 32) (k := 0) (dc_X6_canGive 32 (56, .aload_n 0, 1) rfl rfl) rfl rfl,
    st_getR hC (n := 33) (k := 6) (j := 11) (dc_X6_canGive 33 (57, .getfield 49, 3) rfl rfl) rfl clf_6 (by decide) rfl (by decide) wd_610,
    st_getR hC (n := 34) (k := 1) (j := 1) (dc_X6_canGive 34 (60, .getfield 163, 3) rfl rfl) rfl clf_1 (by decide) rfl (by decide) wd_470,
    st_iload_n hC (n := 35) (k := 2) (dc_X6_canGive 35 (63, .iload_n 2, 1) rfl rfl) rfl rfl,
    st_iald hC (n := 36) (dc_X6_canGive 36 (64, .iaload, 1) rfl rfl) rfl,
    st_aload_n hC (n := 37) (k := 0) (dc_X6_canGive 37 (65, .aload_n 0, 1) rfl rfl) rfl rfl,
    st_getI hC (n := 38) (k := 6) (j := 17) (dc_X6_canGive 38 (66, .getfield 73, 3) rfl rfl) rfl clf_6 (by decide) rfl wd_637,
    st_icge hC (n := 39) (dc_X6_canGive 39 (69, .if_icmp .ge 7, 3) rfl rfl) rfl (by decide),
    st_iconst hC (n := 40) (x := 1) (dc_X6_canGive 40 (72, .iconst 1, 1) rfl rfl) rfl (by decide),
    st_goto hC (n := 41) (dc_X6_canGive 41 (73, .goto 4, 3) rfl rfl) (by decide),
    st_iconst hC (n := 42) (x := 0) (dc_X6_canGive 42 (76, .iconst 0, 1) rfl rfl) rfl (by decide),
    st_zret hC (n := 43) hR (dc_X6_canGive 43 (77, .ireturn, 1) rfl rfl), trivial⟩
set_option maxRecDepth 8000 in
theorem vc_X6_canGive : VC P_X6_canGive 3 Pre_X6_canGive Fn_X6_canGive := by
  rintro mm as hom hoa ⟨g, ns, nm, nt, t, hV, ht, rfl⟩
  refine ⟨Nat.le_of_ble_eq_true rfl, fun X h => ?_⟩
  have h12 : nt ≤ 12 := hV.1.2.2.1.2
  have et : (nI t).toNatClampNeg = t := nI_clamp (by omega)
  obtain ⟨o, ho, eo, ow⟩ := of_lt hV ht
  have en : (nI o).toNatClampNeg = o := nI_clamp (by omega)
  have hm : mgA (abV mm g) t ↔ ¬ inS (mm.1 1 g 5 ||| mm.1 1 g 6) (nI t) ∧ abV mm g (15 + 4 * o) = -1 ∧ mm.1 37 g t &&& (mm.1 1 g 5 ^^^ -1) = 0 ∧ ¬ mm.1 6 g 17 ≤ mm.1 17 g o := by
    unfold mgA
    rw [ow, ab_aft (show t < 12 by omega), ab_wek ho]
    exact Iff.rfl
  have hF : Fn_X6_canGive mm [vR 6 g, vI (nI t)] = (some (vI (bI (mgA (abV mm g) t))), mm) := by
    show (some (vI (bI (mgA (abV mm g) (nI t).toNatClampNeg))), mm) = _
    simp only [et]
  rw [hF] at h
  have no : ¬ mgA (abV mm g) t → X 42 [some (vR 6 g), some (vI (nI t)), some (vI (nI o))] [] mm := by
    intro hc
    show X 42 [some (vR 6 g), some (vI (nI t)), some (vI (nI o))] [] mm
    refine h (fun _ => false) 3000 42 _ _ _ ?_
    refine And.intro (Or.inl rfl) ?_
    show ((some (vI 0) : Option MV), mm) = _
    exact ret_f hc
  suffices z : X 5 [some (vR 6 g), some (vI (nI t)), some (vI (nI o))] [] mm by
    show X 0 [some (vR 6 g), some (vI (nI t)), none] [] mm
    refine h (fun i => Nat.beq i 5) 3000 0 _ _ _ ?_
    refine And.intro (show inb (nI t) (alen 35) = true from (inb_o 12 rfl rfl rfl (by omega))) ?_
    show X 5 [some (vR 6 g), some (vI (nI t)), some (vI (mm.1 35 g ((nI t).toNatClampNeg)))] [] mm
    rw [et, eo]
    exact z
  show X 5 [some (vR 6 g), some (vI (nI t)), some (vI (nI o))] [] mm
  refine h (fun i => Nat.beq i 42) 3000 5 _ _ _ ?_
  refine brn_c (fun b16 => ?_) (fun b16 => ?_)
  · -- 16: ((mm.1 1 g 5) ||| (mm.1 1 g 6)) &&& (1 <<< ((nI t) &&& 31)) = 0 taken
    replace b16 : ¬ (((mm.1 1 g 5) ||| (mm.1 1 g 6)) &&& (1 <<< ((nI t) &&& 31)) = 0) := b16
    (try simp only [et, en] at b16)
    show X 42 [some (vR 6 g), some (vI (nI t)), some (vI (nI o))] [] mm
    (try simp only [et, en])
    exact no (fun z => b16 ((bit_z (by omega)).mpr (hm.mp z).1))
  · -- 16: ((mm.1 1 g 5) ||| (mm.1 1 g 6)) &&& (1 <<< ((nI t) &&& 31)) = 0 on
    replace b16 : ((mm.1 1 g 5) ||| (mm.1 1 g 6)) &&& (1 <<< ((nI t) &&& 31)) = 0 := b16
    (try simp only [et, en] at b16)
    refine And.intro (show Pre_X6_isWed mm [vR 6 g, vI (nI o)] from ⟨g, ns, nm, nt, o, hV, ho, rfl⟩) ?_
    refine brn_c (fun b20 => ?_) (fun b20 => ?_)
    · -- 20: bI (¬ abV mm g (15 + 4 * (nI o).toNatClampNeg) = -1) = 0 taken
      replace b20 : ¬ abV mm g (15 + 4 * (nI o).toNatClampNeg) = -1 := bI_n0.mp b20
      (try simp only [et, en] at b20)
      show X 42 [some (vR 6 g), some (vI (nI t)), some (vI (nI o))] [] mm
      (try simp only [et, en])
      exact no (fun z => b20 (hm.mp z).2.1)
    · -- 20: bI (¬ abV mm g (15 + 4 * (nI o).toNatClampNeg) = -1) = 0 on
      replace b20 : ¬ (¬ abV mm g (15 + 4 * (nI o).toNatClampNeg) = -1) := bI_0.mp b20
      (try simp only [et, en] at b20)
      refine And.intro (show inb (nI t) (alen 37) = true from (inb_o 12 rfl rfl rfl (by omega))) ?_
      refine brn_c (fun b31 => ?_) (fun b31 => ?_)
      · -- 31: (mm.1 37 g ((nI t).toNatClampNeg)) &&& ((mm.1 1 g 5) ^^^ (-1)) = 0 taken
        replace b31 : ¬ ((mm.1 37 g ((nI t).toNatClampNeg)) &&& ((mm.1 1 g 5) ^^^ (-1)) = 0) := b31
        (try simp only [et, en] at b31)
        show X 42 [some (vR 6 g), some (vI (nI t)), some (vI (nI o))] [] mm
        (try simp only [et, en])
        exact no (fun z => b31 (hm.mp z).2.2.1)
      · -- 31: (mm.1 37 g ((nI t).toNatClampNeg)) &&& ((mm.1 1 g 5) ^^^ (-1)) = 0 on
        replace b31 : (mm.1 37 g ((nI t).toNatClampNeg)) &&& ((mm.1 1 g 5) ^^^ (-1)) = 0 := b31
        (try simp only [et, en] at b31)
        refine And.intro (show inb (nI o) (alen 17) = true from (inb_o 4 rfl rfl rfl (by omega))) ?_
        refine br_c (fun b39 => ?_) (fun b39 => ?_)
        · -- 39: mm.1 6 g 17 ≤ mm.1 17 g ((nI o).toNatClampNeg) taken
          replace b39 : mm.1 6 g 17 ≤ mm.1 17 g ((nI o).toNatClampNeg) := b39
          (try simp only [et, en] at b39)
          show X 42 [some (vR 6 g), some (vI (nI t)), some (vI (nI o))] [] mm
          (try simp only [et, en])
          exact no (fun z => (hm.mp z).2.2.2 b39)
        · -- 39: mm.1 6 g 17 ≤ mm.1 17 g ((nI o).toNatClampNeg) on
          replace b39 : ¬ (mm.1 6 g 17 ≤ mm.1 17 g ((nI o).toNatClampNeg)) := b39
          (try simp only [et, en] at b39)
          refine And.intro (Or.inr rfl) ?_
          show ((some (vI 1) : Option MV), mm) = _
          (try simp only [et, en])
          exact ret_t (hm.mpr ⟨(bit_z (by omega)).mp b16, Classical.byContradiction b20, b31, b39⟩)
theorem con_X6_canGive (l : Launch) : CON l y_X6_canGive prog_8_method_26_code 3 (some .boolean) rm_X6_canGive Pre_X6_canGive Fn_X6_canGive := CON_of (by decide) rfl rfl (sa_X6_canGive l) vc_X6_canGive
--tpl ⟨_, _, _, _, by assumption, _, rfl⟩ || myA (abV {m} {g0}) {1} ({r 1 6 {g0} 15}).toNatClampNeg
def Pre_X6_givable : PreT := fun m as => ∃ g ns nm nt, VC2 m g ns nm nt ∧ ∃ s : Int32, as = [vR 6 g, vI s]
def Fn_X6_givable : FnT := fun m as => match as with
  | [Sum.inr (Sum.inr q), Sum.inl s] => (some (vI (myA (abV m q.2) s (m.1 6 q.2 15).toNatClampNeg)), m)
  | _ => (none, m)
abbrev y_X6_givable : MethodName := ⟨"GivenUp$Valley", "givable", "(I)I"⟩
def P_X6_givable : List StpT := [s_ic (0), s_istore 2, s_ic (0), s_istore 3, s_iload 3, s_aload 0, s_getI 6 15, s_icge 26, s_aload 0, s_getR 6 6 35, s_iload 3, s_iald, s_iload 1, s_icne 24, s_aload 0, s_iload 3, s_callV 6 1 Pre_X6_canGive Fn_X6_canGive, s_ifeq 24, s_iload 2, s_ic (1), s_iload 3, s_ishl, s_ior, s_istore 2, s_iinc 3 (1), s_goto 4, s_iload 2, s_iret]
def pc_X6_givable : Nat → Nat := fun i => [0, 1, 2, 3, 4, 5, 6, 9, 12, 13, 16, 17, 18, 19, 22, 23, 24, 27, 30, 31, 32, 33, 34, 35, 36, 39, 42, 43].getD i 0
def dl_X6_givable : List (Nat × Instr × Nat) := [(0, .iconst 0, 1), (1, .istore_n 2, 1), (2, .iconst 0, 1), (3, .istore_n 3, 1), (4, .iload_n 3, 1), (5, .aload_n 0, 1), (6, .getfield 67, 3), (9, .if_icmp .ge 33, 3), (12, .aload_n 0, 1), (13, .getfield 31, 3), (16, .iload_n 3, 1), (17, .iaload, 1), (18, .iload_n 1, 1), (19, .if_icmp .ne 17, 3), (22, .aload_n 0, 1), (23, .iload_n 3, 1), (24, .invokevirtual 166, 3), (27, .ifCond .eq 9, 3), (30, .iload_n 2, 1), (31, .iconst 1, 1), (32, .iload_n 3, 1), (33, .ishl, 1), (34, .ior, 1), (35, .istore_n 2, 1), (36, .iinc 3 1, 3), (39, .goto (-35), 3), (42, .iload_n 2, 1), (43, .ireturn, 1)]
theorem dc_X6_givable : DEC prog_8_method_27_code pc_X6_givable dl_X6_givable := DEC_of (by decide +kernel)
abbrev rm_X6_givable : Room := { frames := 2, cells := 0, slots := 0, locals := 43 }
set_option maxRecDepth 20000 in
theorem sa_X6_givable (l : Launch) : SNDALL l prog_8_method_27_code "GivenUp$Valley" 4 (some .int) rm_X6_givable P_X6_givable pc_X6_givable := fun p e s m args below meth c cells slots Q D dA ad A RR hC hR => by
  have hM := RTX_room (R := rm_X6_givable) hR
  exact ⟨st_iconst hC (n := 0) (x := 0) (dc_X6_givable 0 (0, .iconst 0, 1) rfl rfl) rfl (by decide),
    st_istore_n hC (n := 1) (k := 2) (dc_X6_givable 1 (1, .istore_n 2, 1) rfl rfl) rfl rfl (by decide),
    st_iconst hC (n := 2) (x := 0) (dc_X6_givable 2 (2, .iconst 0, 1) rfl rfl) rfl (by decide),
    st_istore_n hC (n := 3) (k := 3) (dc_X6_givable 3 (3, .istore_n 3, 1) rfl rfl) rfl rfl (by decide),
    st_iload_n hC (n := 4) (k := 3) (dc_X6_givable 4 (4, .iload_n 3, 1) rfl rfl) rfl rfl,
    st_aload_n hC (n := 5) (k := 0) (dc_X6_givable 5 (5, .aload_n 0, 1) rfl rfl) rfl rfl,
    st_getI hC (n := 6) (k := 6) (j := 15) (dc_X6_givable 6 (6, .getfield 67, 3) rfl rfl) rfl clf_6 (by decide) rfl wd_629,
    st_icge hC (n := 7) (dc_X6_givable 7 (9, .if_icmp .ge 33, 3) rfl rfl) rfl (by decide),
    st_aload_n hC (n := 8) (k := 0) (dc_X6_givable 8 (12, .aload_n 0, 1) rfl rfl) rfl rfl,
    st_getR hC (n := 9) (k := 6) (j := 6) (dc_X6_givable 9 (13, .getfield 31, 3) rfl rfl) rfl clf_6 (by decide) rfl (by decide) wd_595,
    st_iload_n hC (n := 10) (k := 3) (dc_X6_givable 10 (16, .iload_n 3, 1) rfl rfl) rfl rfl,
    st_iald hC (n := 11) (dc_X6_givable 11 (17, .iaload, 1) rfl rfl) rfl,
    st_iload_n hC (n := 12) (k := 1) (dc_X6_givable 12 (18, .iload_n 1, 1) rfl rfl) rfl rfl,
    st_icne hC (n := 13) (dc_X6_givable 13 (19, .if_icmp .ne 17, 3) rfl rfl) rfl (by decide),
    st_aload_n hC (n := 14) (k := 0) (dc_X6_givable 14 (22, .aload_n 0, 1) rfl rfl) rfl rfl,
    st_iload_n hC (n := 15) (k := 3) (dc_X6_givable 15 (23, .iload_n 3, 1) rfl rfl) rfl rfl,
    st_callV hC (n := 16) (k := 6) (na := 1) (con_X6_canGive l) (dc_X6_givable 16 (24, .invokevirtual 166, 3) rfl rfl) rfl wd_1102 wd_155 (by decide) ⟨rfl, rfl, by decide, by decide⟩ hM wd_1099 wd_1101 wd_25 clf_6,
    st_ifeq hC (n := 17) (dc_X6_givable 17 (27, .ifCond .eq 9, 3) rfl rfl) rfl (by decide),
    st_iload_n hC (n := 18) (k := 2) (dc_X6_givable 18 (30, .iload_n 2, 1) rfl rfl) rfl rfl,
    st_iconst hC (n := 19) (x := 1) (dc_X6_givable 19 (31, .iconst 1, 1) rfl rfl) rfl (by decide),
    st_iload_n hC (n := 20) (k := 3) (dc_X6_givable 20 (32, .iload_n 3, 1) rfl rfl) rfl rfl,
    st_ishl hC (n := 21) (dc_X6_givable 21 (33, .ishl, 1) rfl rfl) rfl,
    st_ior hC (n := 22) (dc_X6_givable 22 (34, .ior, 1) rfl rfl) rfl,
    st_istore_n hC (n := 23) (k := 2) (dc_X6_givable 23 (35, .istore_n 2, 1) rfl rfl) rfl rfl (by decide),
    st_iinc hC (n := 24) (x := 1) (dc_X6_givable 24 (36, .iinc 3 1, 3) rfl rfl) rfl (by decide) (by decide),
    st_goto hC (n := 25) (dc_X6_givable 25 (39, .goto (-35), 3) rfl rfl) (by decide),
    st_iload_n hC (n := 26) (k := 2) (dc_X6_givable 26 (42, .iload_n 2, 1) rfl rfl) rfl rfl,
    st_iret hC (n := 27) hR (dc_X6_givable 27 (43, .ireturn, 1) rfl rfl), trivial⟩
set_option maxRecDepth 8000 in
theorem vc_X6_givable : VC P_X6_givable 4 Pre_X6_givable Fn_X6_givable := by
  rintro mm as hom hoa ⟨g, ns, nm, n, hV, s, rfl⟩
  refine ⟨Nat.le_of_ble_eq_true rfl, fun X h => ?_⟩
  have hn : mm.1 6 g 15 = nI n := hV.1.2.2.1.1
  have hn12 : n ≤ 12 := hV.1.2.2.1.2
  have hF : Fn_X6_givable mm [vR 6 g, vI s] = (some (vI (myA (abV mm g) s n)), mm) := by
    show (some (vI (myA (abV mm g) s (mm.1 6 g 15).toNatClampNeg)), mm) = _
    rw [hn, nI_clamp (by omega)]
  rw [hF] at h
  have loop : ∀ t, t ≤ n → X 4 [some (vR 6 g), some (vI (s)), some (vI (myA (abV mm g) s t)), some (vI (nI t))] [] mm := by
    refine up_ind n ?_ (fun t ht ih => ?_)
    ·
      show X 4 [some (vR 6 g), some (vI s), some (vI (myA (abV mm g) s n)), some (vI (nI n))] [] mm
      refine h (fun _ => false) 3000 4 _ _ _ ?_
      refine br_t (show mm.1 6 g 15 ≤ nI n from by rw [hn]; exact Int32.le_refl _) ?_
      show ((some (vI (myA (abV mm g) s n)) : Option MV), mm) = _
      exact rfl
    · have et : (nI t).toNatClampNeg = t := nI_clamp (by omega)
      have ea := ab_of (m := mm) (g := g) (show t < 12 by omega)
      rw [myA] at ih
      have no : ¬ (abV mm g (44 + 3 * t) = s ∧ mgA (abV mm g) t) → X 24 [some (vR 6 g), some (vI (s)), some (vI (myA (abV mm g) s t)), some (vI (nI t))] [] mm := by
        intro hc
        rw [if_neg hc, Int32.or_zero] at ih
        show X 24 [some (vR 6 g), some (vI s), some (vI (myA (abV mm g) s t)), some (vI (nI t))] [] mm
        refine h (fun i => Nat.beq i 4) 3000 24 _ _ _ ?_
        show X 4 [some (vR 6 g), some (vI s), some (vI (myA (abV mm g) s t)), some (vI ((nI t) + 1))] [] mm
        rw [nI_1]
        exact ih
      have yes : (abV mm g (44 + 3 * t) = s ∧ mgA (abV mm g) t) → X 18 [some (vR 6 g), some (vI (s)), some (vI (myA (abV mm g) s t)), some (vI (nI t))] [] mm := by
        intro hc
        rw [if_pos hc] at ih
        show X 18 [some (vR 6 g), some (vI s), some (vI (myA (abV mm g) s t)), some (vI (nI t))] [] mm
        refine h (fun i => Nat.beq i 4) 3000 18 _ _ _ ?_
        show X 4 [some (vR 6 g), some (vI s), some (vI ((myA (abV mm g) s t) ||| (1 <<< ((nI t) &&& 31)))), some (vI ((nI t) + 1))] [] mm
        rw [nI_1]
        exact ih
      show X 4 [some (vR 6 g), some (vI s), some (vI (myA (abV mm g) s t)), some (vI (nI t))] [] mm
      refine h (fun i => Nat.beq i 18 || Nat.beq i 24) 3000 4 _ _ _ ?_
      refine br_f (show ¬ (mm.1 6 g 15 ≤ nI t) from by rw [hn]; exact nI_ge ht (by omega)) ?_
      refine And.intro (show inb (nI t) (alen 35) = true from (inb_o 12 rfl rfl rfl (by omega))) ?_
      refine brn_c (fun b13 => ?_) (fun b13 => ?_)
      · -- 13: mm.1 35 g ((nI t).toNatClampNeg) = s taken
        replace b13 : ¬ (mm.1 35 g ((nI t).toNatClampNeg) = s) := b13
        (try simp only [et] at b13)
        show X 24 [some (vR 6 g), some (vI s), some (vI (myA (abV mm g) s t)), some (vI (nI t))] [] mm
        (try simp only [et])
        exact no (fun z => b13 (by rw [← ea]; exact z.1))
      · -- 13: mm.1 35 g ((nI t).toNatClampNeg) = s on
        replace b13 : mm.1 35 g ((nI t).toNatClampNeg) = s := b13
        (try simp only [et] at b13)
        refine And.intro (show Pre_X6_canGive mm [vR 6 g, vI (nI t)] from ⟨g, ns, nm, n, t, hV, ht, rfl⟩) ?_
        refine br_c (fun b17 => ?_) (fun b17 => ?_)
        · -- 17: bI (mgA (abV mm g) (nI t).toNatClampNeg) = 0 taken
          replace b17 : ¬ (mgA (abV mm g) (nI t).toNatClampNeg) := bI_0.mp b17
          (try simp only [et] at b17)
          show X 24 [some (vR 6 g), some (vI s), some (vI (myA (abV mm g) s t)), some (vI (nI t))] [] mm
          (try simp only [et])
          exact no (fun z => b17 z.2)
        · -- 17: bI (mgA (abV mm g) (nI t).toNatClampNeg) = 0 on
          replace b17 : mgA (abV mm g) (nI t).toNatClampNeg := bI_n0.mp b17
          (try simp only [et] at b17)
          show X 18 [some (vR 6 g), some (vI s), some (vI (myA (abV mm g) s t)), some (vI (nI t))] [] mm
          (try simp only [et])
          exact yes ⟨by rw [ea]; exact b13, b17⟩
  show X 0 [some (vR 6 g), some (vI s), none, none] [] mm
  refine h (fun i => Nat.beq i 4) 3000 0 _ _ _ ?_
  show X 4 [some (vR 6 g), some (vI s), some (vI 0), some (vI 0)] [] mm
  exact loop 0 (by omega)
theorem con_X6_givable (l : Launch) : CON l y_X6_givable prog_8_method_27_code 4 (some .int) rm_X6_givable Pre_X6_givable Fn_X6_givable := CON_of (by decide) rfl rfl (sa_X6_givable l) vc_X6_givable
/-- what giving, feigning does to the class's valley -/
def cgM (m : MM) (g f t : Nat) : MM := mRow (mI m 1 g f (m.1 1 g f ||| 1 <<< (nI t &&& 31))) 17 g (upd (m.1 17 g) (owA (abV m g) t) (m.1 17 g (owA (abV m g) t) + 1))

--tpl ⟨_, _, _, _, {1N}, by assumption, by omega, rfl⟩ || bI (mgA (abV {m} {g0}) {1n}) || mite (mgA (abV {m} {g0}) {1n}) (cgM {m} {g0} 5 {1n}) {m}
def Pre_X6_giveUp : PreT := fun m as => ∃ g ns nm nt t, VC2 m g ns nm nt ∧ t < nt ∧ as = [vR 6 g, vI (nI t)]
def Fn_X6_giveUp : FnT := fun m as => match as with
  | [Sum.inr (Sum.inr q), Sum.inl t] => (some (vI (bI (mgA (abV m q.2) t.toNatClampNeg))), mite (mgA (abV m q.2) t.toNatClampNeg) (cgM m q.2 5 t.toNatClampNeg) m)
  | _ => (none, m)
abbrev y_X6_giveUp : MethodName := ⟨"GivenUp$Valley", "giveUp", "(I)Z"⟩
def P_X6_giveUp : List StpT := [s_aload 0, s_iload 1, s_callV 6 1 Pre_X6_canGive Fn_X6_canGive, s_ifne 6, s_ic (0), s_zret, s_aload 0, s_getR 6 11 1, s_dup, s_getI 1 5, s_ic (1), s_iload 1, s_ishl, s_ior, s_putI 1 5, s_aload 0, s_getR 6 11 1, s_getR 1 1 17, s_aload 0, s_getR 6 6 35, s_iload 1, s_iald, s_dup2, s_iald, s_ic (1), s_iadd, s_iast, s_ic (1), s_zret]
def pc_X6_giveUp : Nat → Nat := fun i => [0, 1, 2, 5, 8, 9, 10, 11, 14, 15, 18, 19, 20, 21, 22, 25, 26, 29, 32, 33, 36, 37, 38, 39, 40, 41, 42, 43, 44].getD i 0
def dl_X6_giveUp : List (Nat × Instr × Nat) := [(0, .aload_n 0, 1), (1, .iload_n 1, 1), (2, .invokevirtual 166, 3), (5, .ifCond .ne 5, 3), (8, .iconst 0, 1), (9, .ireturn, 1), (10, .aload_n 0, 1), (11, .getfield 49, 3), (14, .dup, 1), (15, .getfield 129, 3), (18, .iconst 1, 1), (19, .iload_n 1, 1), (20, .ishl, 1), (21, .ior, 1), (22, .putfield 129, 3), (25, .aload_n 0, 1), (26, .getfield 49, 3), (29, .getfield 163, 3), (32, .aload_n 0, 1), (33, .getfield 31, 3), (36, .iload_n 1, 1), (37, .iaload, 1), (38, .dup2, 1), (39, .iaload, 1), (40, .iconst 1, 1), (41, .iadd, 1), (42, .iastore, 1), (43, .iconst 1, 1), (44, .ireturn, 1)]
theorem dc_X6_giveUp : DEC prog_8_method_28_code pc_X6_giveUp dl_X6_giveUp := DEC_of (by decide +kernel)
abbrev rm_X6_giveUp : Room := { frames := 2, cells := 0, slots := 0, locals := 43 }
set_option maxRecDepth 20000 in
theorem sa_X6_giveUp (l : Launch) : SNDALL l prog_8_method_28_code "GivenUp$Valley" 2 (some .boolean) rm_X6_giveUp P_X6_giveUp pc_X6_giveUp := fun p e s m args below meth c cells slots Q D dA ad A RR hC hR => by
  have hM := RTX_room (R := rm_X6_giveUp) hR
  exact ⟨st_aload_n hC (n := 0) (k := 0) (dc_X6_giveUp 0 (0, .aload_n 0, 1) rfl rfl) rfl rfl,
    st_iload_n hC (n := 1) (k := 1) (dc_X6_giveUp 1 (1, .iload_n 1, 1) rfl rfl) rfl rfl,
    st_callV hC (n := 2) (k := 6) (na := 1) (con_X6_canGive l) (dc_X6_giveUp 2 (2, .invokevirtual 166, 3) rfl rfl) rfl wd_1102 wd_155 (by decide) ⟨rfl, rfl, by decide, by decide⟩ hM wd_1099 wd_1101 wd_25 clf_6,
    st_ifne hC (n := 3) (dc_X6_giveUp 3 (5, .ifCond .ne 5, 3) rfl rfl) rfl (by decide),
    st_iconst hC (n := 4) (x := 0) (dc_X6_giveUp 4 (8, .iconst 0, 1) rfl rfl) rfl (by decide),
    st_zret hC (n := 5) hR (dc_X6_giveUp 5 (9, .ireturn, 1) rfl rfl),
    st_aload_n hC (n := 6) (k := 0) (dc_X6_giveUp 6 (10, .aload_n 0, 1) rfl rfl) rfl rfl,
    st_getR hC (n := 7) (k := 6) (j := 11) (dc_X6_giveUp 7 (11, .getfield 49, 3) rfl rfl) rfl clf_6 (by decide) rfl (by decide) wd_610,
    st_dup hC (n := 8) (dc_X6_giveUp 8 (14, .dup, 1) rfl rfl) rfl,
    st_getI hC (n := 9) (k := 1) (j := 5) (dc_X6_giveUp 9 (15, .getfield 129, 3) rfl rfl) rfl clf_1 (by decide) rfl wd_483,
    st_iconst hC (n := 10) (x := 1) (dc_X6_giveUp 10 (18, .iconst 1, 1) rfl rfl) rfl (by decide),
    st_iload_n hC (n := 11) (k := 1) (dc_X6_giveUp 11 (19, .iload_n 1, 1) rfl rfl) rfl rfl,
    st_ishl hC (n := 12) (dc_X6_giveUp 12 (20, .ishl, 1) rfl rfl) rfl,
    st_ior hC (n := 13) (dc_X6_giveUp 13 (21, .ior, 1) rfl rfl) rfl,
    st_putI hC (n := 14) (k := 1) (j := 5) (dc_X6_giveUp 14 (22, .putfield 129, 3) rfl rfl) rfl clf_1 (by decide) rfl rfl rfl wd_483,
    st_aload_n hC (n := 15) (k := 0) (dc_X6_giveUp 15 (25, .aload_n 0, 1) rfl rfl) rfl rfl,
    st_getR hC (n := 16) (k := 6) (j := 11) (dc_X6_giveUp 16 (26, .getfield 49, 3) rfl rfl) rfl clf_6 (by decide) rfl (by decide) wd_610,
    st_getR hC (n := 17) (k := 1) (j := 1) (dc_X6_giveUp 17 (29, .getfield 163, 3) rfl rfl) rfl clf_1 (by decide) rfl (by decide) wd_470,
    st_aload_n hC (n := 18) (k := 0) (dc_X6_giveUp 18 (32, .aload_n 0, 1) rfl rfl) rfl rfl,
    st_getR hC (n := 19) (k := 6) (j := 6) (dc_X6_giveUp 19 (33, .getfield 31, 3) rfl rfl) rfl clf_6 (by decide) rfl (by decide) wd_595,
    st_iload_n hC (n := 20) (k := 1) (dc_X6_giveUp 20 (36, .iload_n 1, 1) rfl rfl) rfl rfl,
    st_iald hC (n := 21) (dc_X6_giveUp 21 (37, .iaload, 1) rfl rfl) rfl,
    st_dup2 hC (n := 22) (dc_X6_giveUp 22 (38, .dup2, 1) rfl rfl) rfl,
    st_iald hC (n := 23) (dc_X6_giveUp 23 (39, .iaload, 1) rfl rfl) rfl,
    st_iconst hC (n := 24) (x := 1) (dc_X6_giveUp 24 (40, .iconst 1, 1) rfl rfl) rfl (by decide),
    st_iadd hC (n := 25) (dc_X6_giveUp 25 (41, .iadd, 1) rfl rfl) rfl,
    st_iast hC (n := 26) (dc_X6_giveUp 26 (42, .iastore, 1) rfl rfl) rfl,
    st_iconst hC (n := 27) (x := 1) (dc_X6_giveUp 27 (43, .iconst 1, 1) rfl rfl) rfl (by decide),
    st_zret hC (n := 28) hR (dc_X6_giveUp 28 (44, .ireturn, 1) rfl rfl), trivial⟩
set_option maxRecDepth 8000 in
theorem vc_X6_giveUp : VC P_X6_giveUp 2 Pre_X6_giveUp Fn_X6_giveUp := by
  rintro mm as hom hoa ⟨g, ns, nm, nt, t, hV, ht, rfl⟩
  refine ⟨Nat.le_of_ble_eq_true rfl, fun X h => ?_⟩
  have h12 : nt ≤ 12 := hV.1.2.2.1.2
  have et : (nI t).toNatClampNeg = t := nI_clamp (by omega)
  obtain ⟨o, ho, eo, ow⟩ := of_lt hV ht
  have en : (nI o).toNatClampNeg = o := nI_clamp (by omega)
  have hF : Fn_X6_giveUp mm [vR 6 g, vI (nI t)] = (some (vI (bI (mgA (abV mm g) t))), mite (mgA (abV mm g) t) (cgM mm g 5 t) mm) := by
    show (some (vI (bI (mgA (abV mm g) (nI t).toNatClampNeg))), mite (mgA (abV mm g) (nI t).toNatClampNeg) (cgM mm g 5 (nI t).toNatClampNeg) mm) = _
    simp only [et]
  rw [hF] at h
  show X 0 [some (vR 6 g), some (vI (nI t))] [] mm
  refine h (fun _ => false) 3000 0 _ _ _ ?_
  refine And.intro (show Pre_X6_canGive mm [vR 6 g, vI (nI t)] from ⟨g, ns, nm, nt, t, hV, ht, rfl⟩) ?_
  refine brn_c (fun b3 => ?_) (fun b3 => ?_)
  · -- 3: bI (mgA (abV mm g) (nI t).toNatClampNeg) = 0 taken
    replace b3 : mgA (abV mm g) (nI t).toNatClampNeg := bI_n0.mp b3
    (try simp only [et, en, eo] at b3)
    refine And.intro (show inb (nI t) (alen 35) = true from (inb_o 12 rfl rfl rfl (by omega))) ?_
    refine And.intro (show inb (mm.1 35 g ((nI t).toNatClampNeg)) (alen 17) = true from (by rw [et, eo]; exact inb_o 4 rfl rfl rfl ho)) ?_
    refine And.intro (show inb (mm.1 35 g ((nI t).toNatClampNeg)) (alen 17) = true from (by rw [et, eo]; exact inb_o 4 rfl rfl rfl ho)) ?_
    refine And.intro (Or.inr rfl) ?_
    show ((some (vI 1) : Option MV), mRow (mI mm 1 g 5 ((mm.1 1 g 5) ||| (1 <<< ((nI t) &&& 31)))) 17 g (upd (mm.1 17 g) (mm.1 35 g ((nI t).toNatClampNeg)).toNatClampNeg ((mm.1 17 g ((mm.1 35 g ((nI t).toNatClampNeg)).toNatClampNeg)) + 1))) = _
    (try simp only [et, en, eo])
    rw [← rit_t b3]
    unfold cgM 
    rw [ow]
  · -- 3: bI (mgA (abV mm g) (nI t).toNatClampNeg) = 0 on
    replace b3 : ¬ (mgA (abV mm g) (nI t).toNatClampNeg) := bI_0.mp b3
    (try simp only [et, en, eo] at b3)
    refine And.intro (Or.inl rfl) ?_
    show ((some (vI 0) : Option MV), mm) = _
    (try simp only [et, en, eo])
    exact rit_f b3
theorem con_X6_giveUp (l : Launch) : CON l y_X6_giveUp prog_8_method_28_code 2 (some .boolean) rm_X6_giveUp Pre_X6_giveUp Fn_X6_giveUp := CON_of (by decide) rfl rfl (sa_X6_giveUp l) vc_X6_giveUp
--tpl ⟨_, _, _, _, {1N}, by assumption, by omega, rfl⟩ || bI (mgA (abV {m} {g0}) {1n}) || mite (mgA (abV {m} {g0}) {1n}) (cgM {m} {g0} 6 {1n}) {m}
def Pre_X6_pretend : PreT := fun m as => ∃ g ns nm nt t, VC2 m g ns nm nt ∧ t < nt ∧ as = [vR 6 g, vI (nI t)]
def Fn_X6_pretend : FnT := fun m as => match as with
  | [Sum.inr (Sum.inr q), Sum.inl t] => (some (vI (bI (mgA (abV m q.2) t.toNatClampNeg))), mite (mgA (abV m q.2) t.toNatClampNeg) (cgM m q.2 6 t.toNatClampNeg) m)
  | _ => (none, m)
abbrev y_X6_pretend : MethodName := ⟨"GivenUp$Valley", "pretend", "(I)Z"⟩
def P_X6_pretend : List StpT := [s_aload 0, s_iload 1, s_callV 6 1 Pre_X6_canGive Fn_X6_canGive, s_ifne 6, s_ic (0), s_zret, s_aload 0, s_getR 6 11 1, s_dup, s_getI 1 6, s_ic (1), s_iload 1, s_ishl, s_ior, s_putI 1 6, s_aload 0, s_getR 6 11 1, s_getR 1 1 17, s_aload 0, s_getR 6 6 35, s_iload 1, s_iald, s_dup2, s_iald, s_ic (1), s_iadd, s_iast, s_ic (1), s_zret]
def pc_X6_pretend : Nat → Nat := fun i => [0, 1, 2, 5, 8, 9, 10, 11, 14, 15, 18, 19, 20, 21, 22, 25, 26, 29, 32, 33, 36, 37, 38, 39, 40, 41, 42, 43, 44].getD i 0
def dl_X6_pretend : List (Nat × Instr × Nat) := [(0, .aload_n 0, 1), (1, .iload_n 1, 1), (2, .invokevirtual 166, 3), (5, .ifCond .ne 5, 3), (8, .iconst 0, 1), (9, .ireturn, 1), (10, .aload_n 0, 1), (11, .getfield 49, 3), (14, .dup, 1), (15, .getfield 135, 3), (18, .iconst 1, 1), (19, .iload_n 1, 1), (20, .ishl, 1), (21, .ior, 1), (22, .putfield 135, 3), (25, .aload_n 0, 1), (26, .getfield 49, 3), (29, .getfield 163, 3), (32, .aload_n 0, 1), (33, .getfield 31, 3), (36, .iload_n 1, 1), (37, .iaload, 1), (38, .dup2, 1), (39, .iaload, 1), (40, .iconst 1, 1), (41, .iadd, 1), (42, .iastore, 1), (43, .iconst 1, 1), (44, .ireturn, 1)]
theorem dc_X6_pretend : DEC prog_8_method_29_code pc_X6_pretend dl_X6_pretend := DEC_of (by decide +kernel)
abbrev rm_X6_pretend : Room := { frames := 2, cells := 0, slots := 0, locals := 43 }
set_option maxRecDepth 20000 in
theorem sa_X6_pretend (l : Launch) : SNDALL l prog_8_method_29_code "GivenUp$Valley" 2 (some .boolean) rm_X6_pretend P_X6_pretend pc_X6_pretend := fun p e s m args below meth c cells slots Q D dA ad A RR hC hR => by
  have hM := RTX_room (R := rm_X6_pretend) hR
  exact ⟨st_aload_n hC (n := 0) (k := 0) (dc_X6_pretend 0 (0, .aload_n 0, 1) rfl rfl) rfl rfl,
    st_iload_n hC (n := 1) (k := 1) (dc_X6_pretend 1 (1, .iload_n 1, 1) rfl rfl) rfl rfl,
    st_callV hC (n := 2) (k := 6) (na := 1) (con_X6_canGive l) (dc_X6_pretend 2 (2, .invokevirtual 166, 3) rfl rfl) rfl wd_1102 wd_155 (by decide) ⟨rfl, rfl, by decide, by decide⟩ hM wd_1099 wd_1101 wd_25 clf_6,
    st_ifne hC (n := 3) (dc_X6_pretend 3 (5, .ifCond .ne 5, 3) rfl rfl) rfl (by decide),
    st_iconst hC (n := 4) (x := 0) (dc_X6_pretend 4 (8, .iconst 0, 1) rfl rfl) rfl (by decide),
    st_zret hC (n := 5) hR (dc_X6_pretend 5 (9, .ireturn, 1) rfl rfl),
    st_aload_n hC (n := 6) (k := 0) (dc_X6_pretend 6 (10, .aload_n 0, 1) rfl rfl) rfl rfl,
    st_getR hC (n := 7) (k := 6) (j := 11) (dc_X6_pretend 7 (11, .getfield 49, 3) rfl rfl) rfl clf_6 (by decide) rfl (by decide) wd_610,
    st_dup hC (n := 8) (dc_X6_pretend 8 (14, .dup, 1) rfl rfl) rfl,
    st_getI hC (n := 9) (k := 1) (j := 6) (dc_X6_pretend 9 (15, .getfield 135, 3) rfl rfl) rfl clf_1 (by decide) rfl wd_488,
    st_iconst hC (n := 10) (x := 1) (dc_X6_pretend 10 (18, .iconst 1, 1) rfl rfl) rfl (by decide),
    st_iload_n hC (n := 11) (k := 1) (dc_X6_pretend 11 (19, .iload_n 1, 1) rfl rfl) rfl rfl,
    st_ishl hC (n := 12) (dc_X6_pretend 12 (20, .ishl, 1) rfl rfl) rfl,
    st_ior hC (n := 13) (dc_X6_pretend 13 (21, .ior, 1) rfl rfl) rfl,
    st_putI hC (n := 14) (k := 1) (j := 6) (dc_X6_pretend 14 (22, .putfield 135, 3) rfl rfl) rfl clf_1 (by decide) rfl rfl rfl wd_488,
    st_aload_n hC (n := 15) (k := 0) (dc_X6_pretend 15 (25, .aload_n 0, 1) rfl rfl) rfl rfl,
    st_getR hC (n := 16) (k := 6) (j := 11) (dc_X6_pretend 16 (26, .getfield 49, 3) rfl rfl) rfl clf_6 (by decide) rfl (by decide) wd_610,
    st_getR hC (n := 17) (k := 1) (j := 1) (dc_X6_pretend 17 (29, .getfield 163, 3) rfl rfl) rfl clf_1 (by decide) rfl (by decide) wd_470,
    st_aload_n hC (n := 18) (k := 0) (dc_X6_pretend 18 (32, .aload_n 0, 1) rfl rfl) rfl rfl,
    st_getR hC (n := 19) (k := 6) (j := 6) (dc_X6_pretend 19 (33, .getfield 31, 3) rfl rfl) rfl clf_6 (by decide) rfl (by decide) wd_595,
    st_iload_n hC (n := 20) (k := 1) (dc_X6_pretend 20 (36, .iload_n 1, 1) rfl rfl) rfl rfl,
    st_iald hC (n := 21) (dc_X6_pretend 21 (37, .iaload, 1) rfl rfl) rfl,
    st_dup2 hC (n := 22) (dc_X6_pretend 22 (38, .dup2, 1) rfl rfl) rfl,
    st_iald hC (n := 23) (dc_X6_pretend 23 (39, .iaload, 1) rfl rfl) rfl,
    st_iconst hC (n := 24) (x := 1) (dc_X6_pretend 24 (40, .iconst 1, 1) rfl rfl) rfl (by decide),
    st_iadd hC (n := 25) (dc_X6_pretend 25 (41, .iadd, 1) rfl rfl) rfl,
    st_iast hC (n := 26) (dc_X6_pretend 26 (42, .iastore, 1) rfl rfl) rfl,
    st_iconst hC (n := 27) (x := 1) (dc_X6_pretend 27 (43, .iconst 1, 1) rfl rfl) rfl (by decide),
    st_zret hC (n := 28) hR (dc_X6_pretend 28 (44, .ireturn, 1) rfl rfl), trivial⟩
set_option maxRecDepth 8000 in
theorem vc_X6_pretend : VC P_X6_pretend 2 Pre_X6_pretend Fn_X6_pretend := by
  rintro mm as hom hoa ⟨g, ns, nm, nt, t, hV, ht, rfl⟩
  refine ⟨Nat.le_of_ble_eq_true rfl, fun X h => ?_⟩
  have h12 : nt ≤ 12 := hV.1.2.2.1.2
  have et : (nI t).toNatClampNeg = t := nI_clamp (by omega)
  obtain ⟨o, ho, eo, ow⟩ := of_lt hV ht
  have en : (nI o).toNatClampNeg = o := nI_clamp (by omega)
  have hF : Fn_X6_pretend mm [vR 6 g, vI (nI t)] = (some (vI (bI (mgA (abV mm g) t))), mite (mgA (abV mm g) t) (cgM mm g 6 t) mm) := by
    show (some (vI (bI (mgA (abV mm g) (nI t).toNatClampNeg))), mite (mgA (abV mm g) (nI t).toNatClampNeg) (cgM mm g 6 (nI t).toNatClampNeg) mm) = _
    simp only [et]
  rw [hF] at h
  show X 0 [some (vR 6 g), some (vI (nI t))] [] mm
  refine h (fun _ => false) 3000 0 _ _ _ ?_
  refine And.intro (show Pre_X6_canGive mm [vR 6 g, vI (nI t)] from ⟨g, ns, nm, nt, t, hV, ht, rfl⟩) ?_
  refine brn_c (fun b3 => ?_) (fun b3 => ?_)
  · -- 3: bI (mgA (abV mm g) (nI t).toNatClampNeg) = 0 taken
    replace b3 : mgA (abV mm g) (nI t).toNatClampNeg := bI_n0.mp b3
    (try simp only [et, en, eo] at b3)
    refine And.intro (show inb (nI t) (alen 35) = true from (inb_o 12 rfl rfl rfl (by omega))) ?_
    refine And.intro (show inb (mm.1 35 g ((nI t).toNatClampNeg)) (alen 17) = true from (by rw [et, eo]; exact inb_o 4 rfl rfl rfl ho)) ?_
    refine And.intro (show inb (mm.1 35 g ((nI t).toNatClampNeg)) (alen 17) = true from (by rw [et, eo]; exact inb_o 4 rfl rfl rfl ho)) ?_
    refine And.intro (Or.inr rfl) ?_
    show ((some (vI 1) : Option MV), mRow (mI mm 1 g 6 ((mm.1 1 g 6) ||| (1 <<< ((nI t) &&& 31)))) 17 g (upd (mm.1 17 g) (mm.1 35 g ((nI t).toNatClampNeg)).toNatClampNeg ((mm.1 17 g ((mm.1 35 g ((nI t).toNatClampNeg)).toNatClampNeg)) + 1))) = _
    (try simp only [et, en, eo])
    rw [← rit_t b3]
    unfold cgM 
    rw [ow]
  · -- 3: bI (mgA (abV mm g) (nI t).toNatClampNeg) = 0 on
    replace b3 : ¬ (mgA (abV mm g) (nI t).toNatClampNeg) := bI_0.mp b3
    (try simp only [et, en, eo] at b3)
    refine And.intro (Or.inl rfl) ?_
    show ((some (vI 0) : Option MV), mm) = _
    (try simp only [et, en, eo])
    exact rit_f b3
theorem con_X6_pretend (l : Launch) : CON l y_X6_pretend prog_8_method_29_code 2 (some .boolean) rm_X6_pretend Pre_X6_pretend Fn_X6_pretend := CON_of (by decide) rfl rfl (sa_X6_pretend l) vc_X6_pretend
def pwM (m : MM) (g : Nat) : MM := mRow (mI m 1 g 4 (m.1 1 g 4 + 1)) 17 g (flR (m.1 17 g) 0 4)

--tpl ⟨_, _, _, _, by assumption, rfl⟩ || bI (¬ abV {m} {g0} 6 = 999) || mite (¬ abV {m} {g0} 6 = 999) (pwM {m} {g0}) {m}
def Pre_X6_passWeek : PreT := fun m as => ∃ g ns nm nt, VC2 m g ns nm nt ∧ as = [vR 6 g]
def Fn_X6_passWeek : FnT := fun m as => match as with
  | [Sum.inr (Sum.inr q)] => (some (vI (bI (¬ abV m q.2 6 = 999))), mite (¬ abV m q.2 6 = 999) (pwM m q.2) m)
  | _ => (none, m)
abbrev y_X6_passWeek : MethodName := ⟨"GivenUp$Valley", "passWeek", "()Z"⟩
def P_X6_passWeek : List StpT := [s_aload 0, s_getR 6 11 1, s_getI 1 4, s_ic (999), s_iclt 7, s_ic (0), s_zret, s_aload 0, s_getR 6 11 1, s_dup, s_getI 1 4, s_ic (1), s_iadd, s_putI 1 4, s_aload 0, s_getR 6 11 1, s_getR 1 1 17, s_ic (0), s_callS 2 Pre_J7_fill_53178 Fn_J7_fill_53178, s_ic (1), s_zret]
def pc_X6_passWeek : Nat → Nat := fun i => [0, 1, 4, 7, 10, 13, 14, 15, 16, 19, 20, 23, 24, 25, 28, 29, 32, 35, 36, 39, 40].getD i 0
def dl_X6_passWeek : List (Nat × Instr × Nat) := [(0, .aload_n 0, 1), (1, .getfield 49, 3), (4, .getfield 142, 3), (7, .sipush 999, 3), (10, .if_icmp .lt 5, 3), (13, .iconst 0, 1), (14, .ireturn, 1), (15, .aload_n 0, 1), (16, .getfield 49, 3), (19, .dup, 1), (20, .getfield 142, 3), (23, .iconst 1, 1), (24, .iadd, 1), (25, .putfield 142, 3), (28, .aload_n 0, 1), (29, .getfield 49, 3), (32, .getfield 163, 3), (35, .iconst 0, 1), (36, .invokestatic 91, 3), (39, .iconst 1, 1), (40, .ireturn, 1)]
theorem dc_X6_passWeek : DEC prog_8_method_30_code pc_X6_passWeek dl_X6_passWeek := DEC_of (by decide +kernel)
abbrev rm_X6_passWeek : Room := { frames := 1, cells := 0, slots := 0, locals := 23 }
set_option maxRecDepth 20000 in
theorem sa_X6_passWeek (l : Launch) : SNDALL l prog_8_method_30_code "GivenUp$Valley" 1 (some .boolean) rm_X6_passWeek P_X6_passWeek pc_X6_passWeek := fun p e s m args below meth c cells slots Q D dA ad A RR hC hR => by
  have hM := RTX_room (R := rm_X6_passWeek) hR
  exact ⟨st_aload_n hC (n := 0) (k := 0) (dc_X6_passWeek 0 (0, .aload_n 0, 1) rfl rfl) rfl rfl,
    st_getR hC (n := 1) (k := 6) (j := 11) (dc_X6_passWeek 1 (1, .getfield 49, 3) rfl rfl) rfl clf_6 (by decide) rfl (by decide) wd_610,
    st_getI hC (n := 2) (k := 1) (j := 4) (dc_X6_passWeek 2 (4, .getfield 142, 3) rfl rfl) rfl clf_1 (by decide) rfl wd_480,
    st_sipush hC (n := 3) (x := 999) (dc_X6_passWeek 3 (7, .sipush 999, 3) rfl rfl) rfl (by decide),
    st_iclt hC (n := 4) (dc_X6_passWeek 4 (10, .if_icmp .lt 5, 3) rfl rfl) rfl (by decide),
    st_iconst hC (n := 5) (x := 0) (dc_X6_passWeek 5 (13, .iconst 0, 1) rfl rfl) rfl (by decide),
    st_zret hC (n := 6) hR (dc_X6_passWeek 6 (14, .ireturn, 1) rfl rfl),
    st_aload_n hC (n := 7) (k := 0) (dc_X6_passWeek 7 (15, .aload_n 0, 1) rfl rfl) rfl rfl,
    st_getR hC (n := 8) (k := 6) (j := 11) (dc_X6_passWeek 8 (16, .getfield 49, 3) rfl rfl) rfl clf_6 (by decide) rfl (by decide) wd_610,
    st_dup hC (n := 9) (dc_X6_passWeek 9 (19, .dup, 1) rfl rfl) rfl,
    st_getI hC (n := 10) (k := 1) (j := 4) (dc_X6_passWeek 10 (20, .getfield 142, 3) rfl rfl) rfl clf_1 (by decide) rfl wd_480,
    st_iconst hC (n := 11) (x := 1) (dc_X6_passWeek 11 (23, .iconst 1, 1) rfl rfl) rfl (by decide),
    st_iadd hC (n := 12) (dc_X6_passWeek 12 (24, .iadd, 1) rfl rfl) rfl,
    st_putI hC (n := 13) (k := 1) (j := 4) (dc_X6_passWeek 13 (25, .putfield 142, 3) rfl rfl) rfl clf_1 (by decide) rfl rfl rfl wd_480,
    st_aload_n hC (n := 14) (k := 0) (dc_X6_passWeek 14 (28, .aload_n 0, 1) rfl rfl) rfl rfl,
    st_getR hC (n := 15) (k := 6) (j := 11) (dc_X6_passWeek 15 (29, .getfield 49, 3) rfl rfl) rfl clf_6 (by decide) rfl (by decide) wd_610,
    st_getR hC (n := 16) (k := 1) (j := 1) (dc_X6_passWeek 16 (32, .getfield 163, 3) rfl rfl) rfl clf_1 (by decide) rfl (by decide) wd_470,
    st_iconst hC (n := 17) (x := 0) (dc_X6_passWeek 17 (35, .iconst 0, 1) rfl rfl) rfl (by decide),
    st_callS hC (n := 18) (na := 2) (con_J7_fill_53178 l) (dc_X6_passWeek 18 (36, .invokestatic 91, 3) rfl rfl) rfl wd_565 wd_158 (by decide) ⟨rfl, rfl, by decide, by decide⟩ hM wd_563 wd_564,
    st_iconst hC (n := 19) (x := 1) (dc_X6_passWeek 19 (39, .iconst 1, 1) rfl rfl) rfl (by decide),
    st_zret hC (n := 20) hR (dc_X6_passWeek 20 (40, .ireturn, 1) rfl rfl), trivial⟩
set_option maxRecDepth 8000 in
theorem vc_X6_passWeek : VC P_X6_passWeek 1 Pre_X6_passWeek Fn_X6_passWeek := by
  rintro mm as hom hoa ⟨g, ns, nm, nt, hV, rfl⟩
  refine ⟨Nat.le_of_ble_eq_true rfl, fun X h => ?_⟩
  obtain ⟨w, hw, ew⟩ := hV.2.2.2
  have e6 : mm.1 1 g 4 = nI w := ew
  have k : 999 ≤ mm.1 1 g 4 ↔ mm.1 1 g 4 = 999 := by
    rw [e6, show (999 : Int32) = nI 999 from rfl, nI_leI (by omega) (by omega), nI_eq (by omega) (by omega)]
    omega
  replace h : RUN P_X6_passWeek (fun r m' => (r, m') = (some (vI (bI (¬ mm.1 1 g 4 = 999))), mite (¬ mm.1 1 g 4 = 999) (pwM mm g) mm)) X := h
  show X 0 [some (vR 6 g)] [] mm
  refine h (fun _ => false) 3000 0 _ _ _ ?_
  refine br_c (fun b4 => ?_) (fun b4 => ?_)
  · -- 4: mm.1 1 g 4 < 999 taken
    replace b4 : mm.1 1 g 4 < 999 := b4
    refine And.intro (show Pre_J7_fill_53178 (mI mm 1 g 4 ((mm.1 1 g 4) + 1)) [vR 17 g, vI 0] from ⟨17, g, rfl, 0, rfl⟩) ?_
    refine And.intro (Or.inr rfl) ?_
    show ((some (vI 1) : Option MV), mRow (mI mm 1 g 4 ((mm.1 1 g 4) + 1)) 17 g (flR (mm.1 17 g) 0 (alen 17))) = _
    exact rit_t (fun z => Int32.not_lt.mpr (k.mpr z) b4)
  · -- 4: mm.1 1 g 4 < 999 on
    replace b4 : ¬ (mm.1 1 g 4 < 999) := b4
    refine And.intro (Or.inl rfl) ?_
    show ((some (vI 0) : Option MV), mm) = _
    exact rit_f (fun z => z (k.mp (Int32.not_lt.mp b4)))
theorem con_X6_passWeek (l : Launch) : CON l y_X6_passWeek prog_8_method_30_code 1 (some .boolean) rm_X6_passWeek Pre_X6_passWeek Fn_X6_passWeek := CON_of (by decide) rfl rfl (sa_X6_passWeek l) vc_X6_passWeek
