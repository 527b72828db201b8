/-! PART 75: the class: steps and ends of years -/

abbrev c10S (c : Int32) : Prop := c = 16 ∨ c = 17 ∨ c = 18 ∨ c = 19 ∨ c = 21 ∨ c = 22 ∨ c = 23 ∨ c = 27 ∨ c = 29

def Pre_X10_isStep : PreT := fun _ as => ∃ c : Int32, as = [vI c]
def Fn_X10_isStep : FnT := fun m as => match as with
  | [Sum.inl c] => (some (vI (bI (c10S c))), m)
  | _ => (none, m)
--tpl ⟨_, rfl⟩ || bI (c10S {0})
abbrev y_X10_isStep : MethodName := ⟨"GivenUp$YearsReader", "isStep", "(I)Z"⟩
def P_X10_isStep : List StpT := [s_iload 0, s_sw (tsw (16) [2, 2, 2, 2, 4, 2, 2, 2, 4, 4, 4, 2, 4, 2]) 4, s_ic (1), s_zret, s_ic (0), s_zret]
def pc_X10_isStep : Nat → Nat := fun i => [0, 1, 72, 73, 74, 75].getD i 0
def dl_X10_isStep : List (Nat × Instr × Nat) := [(0, .iload_n 0, 1), (1, .tableswitch 73 16 29 #[71, 71, 71, 71, 73, 71, 71, 71, 73, 73, 73, 71, 73, 71], 71), (72, .iconst 1, 1), (73, .ireturn, 1), (74, .iconst 0, 1), (75, .ireturn, 1)]
theorem dc_X10_isStep : DEC prog_12_method_5_code pc_X10_isStep dl_X10_isStep := DEC_of (by decide +kernel)
abbrev rm_X10_isStep : Room := { frames := 0, cells := 0, slots := 0, locals := 0 }
set_option maxRecDepth 20000 in
theorem sa_X10_isStep (l : Launch) : SNDALL l prog_12_method_5_code "GivenUp$YearsReader" 1 (some .boolean) rm_X10_isStep P_X10_isStep pc_X10_isStep := fun p e s m args below meth c cells slots Q D dA ad A RR hC hR => by
  have hM := RTX_room (R := rm_X10_isStep) hR
  exact ⟨st_iload_n hC (n := 0) (k := 0) (dc_X10_isStep 0 (0, .iload_n 0, 1) rfl rfl) rfl rfl,
    st_table hC (n := 1) (ts := [2, 2, 2, 2, 4, 2, 2, 2, 4, 4, 4, 2, 4, 2]) (dc_X10_isStep 1 (1, .tableswitch 73 16 29 #[71, 71, 71, 71, 73, 71, 71, 71, 73, 73, 73, 71, 73, 71], 71) rfl rfl) (by decide) (by decide) (by decide) (by decide) (swt_of _ _ _ (by decide +kernel)),
    st_iconst hC (n := 2) (x := 1) (dc_X10_isStep 2 (72, .iconst 1, 1) rfl rfl) rfl (by decide),
    st_zret hC (n := 3) hR (dc_X10_isStep 3 (73, .ireturn, 1) rfl rfl),
    st_iconst hC (n := 4) (x := 0) (dc_X10_isStep 4 (74, .iconst 0, 1) rfl rfl) rfl (by decide),
    st_zret hC (n := 5) hR (dc_X10_isStep 5 (75, .ireturn, 1) rfl rfl), trivial⟩
set_option maxRecDepth 8000 in
theorem vc_X10_isStep : VC P_X10_isStep 1 Pre_X10_isStep Fn_X10_isStep := by
  rintro mm as hom hoa ⟨c, rfl⟩
  refine ⟨Nat.le_of_ble_eq_true rfl, fun X h => ?_⟩
  show X 0 [some (vI c)] [] mm
  refine h (fun _ => false) 3000 0 _ _ _ ?_
  refine And.intro ⟨fun b1 => ?_, fun b1 => ?_, fun b1 => ?_, fun b1 => ?_, fun b1 => ?_, fun b1 => ?_, fun b1 => ?_, fun b1 => ?_, fun b1 => ?_, fun b1 => ?_, fun b1 => ?_, fun b1 => ?_, fun b1 => ?_, fun b1 => ?_, trivial⟩ ?_
  · replace b1 : c = 16 := b1
    refine And.intro (Or.inr rfl) ?_
    show ((some (vI 1) : Option MV), mm) = _
    exact ret_t (by rw [b1]; decide)
  · replace b1 : c = 17 := b1
    refine And.intro (Or.inr rfl) ?_
    show ((some (vI 1) : Option MV), mm) = _
    exact ret_t (by rw [b1]; decide)
  · replace b1 : c = 18 := b1
    refine And.intro (Or.inr rfl) ?_
    show ((some (vI 1) : Option MV), mm) = _
    exact ret_t (by rw [b1]; decide)
  · replace b1 : c = 19 := b1
    refine And.intro (Or.inr rfl) ?_
    show ((some (vI 1) : Option MV), mm) = _
    exact ret_t (by rw [b1]; decide)
  · replace b1 : c = 20 := b1
    refine And.intro (Or.inl rfl) ?_
    show ((some (vI 0) : Option MV), mm) = _
    exact ret_f (by rw [b1]; decide)
  · replace b1 : c = 21 := b1
    refine And.intro (Or.inr rfl) ?_
    show ((some (vI 1) : Option MV), mm) = _
    exact ret_t (by rw [b1]; decide)
  · replace b1 : c = 22 := b1
    refine And.intro (Or.inr rfl) ?_
    show ((some (vI 1) : Option MV), mm) = _
    exact ret_t (by rw [b1]; decide)
  · replace b1 : c = 23 := b1
    refine And.intro (Or.inr rfl) ?_
    show ((some (vI 1) : Option MV), mm) = _
    exact ret_t (by rw [b1]; decide)
  · replace b1 : c = 24 := b1
    refine And.intro (Or.inl rfl) ?_
    show ((some (vI 0) : Option MV), mm) = _
    exact ret_f (by rw [b1]; decide)
  · replace b1 : c = 25 := b1
    refine And.intro (Or.inl rfl) ?_
    show ((some (vI 0) : Option MV), mm) = _
    exact ret_f (by rw [b1]; decide)
  · replace b1 : c = 26 := b1
    refine And.intro (Or.inl rfl) ?_
    show ((some (vI 0) : Option MV), mm) = _
    exact ret_f (by rw [b1]; decide)
  · replace b1 : c = 27 := b1
    refine And.intro (Or.inr rfl) ?_
    show ((some (vI 1) : Option MV), mm) = _
    exact ret_t (by rw [b1]; decide)
  · replace b1 : c = 28 := b1
    refine And.intro (Or.inl rfl) ?_
    show ((some (vI 0) : Option MV), mm) = _
    exact ret_f (by rw [b1]; decide)
  · replace b1 : c = 29 := b1
    refine And.intro (Or.inr rfl) ?_
    show ((some (vI 1) : Option MV), mm) = _
    exact ret_t (by rw [b1]; decide)
  · intro b1
    have n1_16 : ¬ c = 16 := b1 (16, 2) (by decide)
    have n1_17 : ¬ c = 17 := b1 (17, 2) (by decide)
    have n1_18 : ¬ c = 18 := b1 (18, 2) (by decide)
    have n1_19 : ¬ c = 19 := b1 (19, 2) (by decide)
    have n1_20 : ¬ c = 20 := b1 (20, 4) (by decide)
    have n1_21 : ¬ c = 21 := b1 (21, 2) (by decide)
    have n1_22 : ¬ c = 22 := b1 (22, 2) (by decide)
    have n1_23 : ¬ c = 23 := b1 (23, 2) (by decide)
    have n1_24 : ¬ c = 24 := b1 (24, 4) (by decide)
    have n1_25 : ¬ c = 25 := b1 (25, 4) (by decide)
    have n1_26 : ¬ c = 26 := b1 (26, 4) (by decide)
    have n1_27 : ¬ c = 27 := b1 (27, 2) (by decide)
    have n1_28 : ¬ c = 28 := b1 (28, 4) (by decide)
    have n1_29 : ¬ c = 29 := b1 (29, 2) (by decide)
    refine And.intro (Or.inl rfl) ?_
    show ((some (vI 0) : Option MV), mm) = _
    exact ret_f (fun z => z.elim n1_16 (fun z => z.elim n1_17 (fun z => z.elim n1_18 (fun z => z.elim n1_19 (fun z => z.elim n1_21 (fun z => z.elim n1_22 (fun z => z.elim n1_23 (fun z => z.elim n1_27 n1_29))))))))
theorem con_X10_isStep (l : Launch) : CON l y_X10_isStep prog_12_method_5_code 1 (some .boolean) rm_X10_isStep Pre_X10_isStep Fn_X10_isStep := CON_of (by decide) rfl rfl (sa_X10_isStep l) vc_X10_isStep
/-- the years' reader: open whens and loops, lines -/
def YJc (m : MM) (g o L : Nat) : Prop := TXp m ∧ (m.1 10 0 2 = nI o ∧ o ≤ 3) ∧ (m.1 9 g 8 = nI L ∧ L ≤ 60) ∧ ∀ i, i < o → ∃ j, m.1 49 0 i = nI j ∧ j < L
theorem YJc_s {m m' : MM} {g o L : Nat} (h : YJc m g o L) (hs : SMo m m') (hT : TXp m') : YJc m' g o L := by
  unfold YJc
  rw [hs.1 10 0 (by decide), hs.1 9 g (by decide), hs.1 49 0 (by decide)]
  exact ⟨hT, h.2⟩
def c10F (m : MM) : Int32 := m.1 49 0 (m.1 10 0 2 - 1).toNatClampNeg
def c10M1 (m : MM) (g : Nat) : MM := mRow (mRow (mI m 10 0 2 (m.1 10 0 2 - 1)) 43 g (upd (m.1 43 g) (m.1 9 g 8).toNatClampNeg 28)) 48 g (upd (m.1 48 g) (m.1 9 g 8).toNatClampNeg (c10F m))
def c10M (m : MM) (g : Nat) : MM := mI (mRow (c10M1 m g) 48 g (upd ((c10M1 m g).1 48 g) (c10F m).toNatClampNeg (m.1 9 g 8))) 9 g 8 (m.1 9 g 8 + 1)
def c10eB (g : Nat) (m : MM) : PR := (true, c10M m g)
def c10e (g : Nat) (m : MM) : PR := if 0 < m.1 10 0 2 ∧ m.1 9 g 8 < 60 then pBd (skC (spM m) 33) (c10eB g) else (false, miC m)

--tpl ⟨_, _, _, by assumption, rfl⟩ || bI ((c10e {g1} {m}).1 = true) || (c10e {g1} {m}).2
def Pre_X10_readEnd : PreT := fun m as => ∃ g o L : Nat, YJc m g o L ∧ as = [vR 10 0, vR 9 g]
def Fn_X10_readEnd : FnT := fun m as => match as with
  | [_, Sum.inr (Sum.inr q)] => (some (vI (bI ((c10e q.2 m).1 = true))), (c10e q.2 m).2)
  | _ => (none, m)
abbrev y_X10_readEnd : MethodName := ⟨"GivenUp$YearsReader", "readEnd", "(LGivenUp$Years;)Z"⟩
def P_X10_readEnd : List StpT := [s_aload 0, s_getI 10 2, s_ifle 7, s_aload 1, s_getI 9 8, s_ic (60), s_iclt 11, s_aload 0, s_getC 10 0 4 0, s_callV 4 0 Pre_X4_misplaced Fn_X4_misplaced, s_zret, s_aload 0, s_getC 10 0 4 0, s_callV 4 0 Pre_X4_step Fn_X4_step, s_aload 0, s_getC 10 0 4 0, s_ic (33), s_callV 4 1 Pre_X4_skip Fn_X4_skip, s_ifne 21, s_ic (0), s_zret, s_aload 0, s_dup, s_getI 10 2, s_ic (1), s_isub, s_putI 10 2, s_aload 0, s_getR 10 1 49, s_aload 0, s_getI 10 2, s_iald, s_istore 2, s_aload 1, s_getR 9 0 43, s_aload 1, s_getI 9 8, s_ic (28), s_iast, s_aload 1, s_getR 9 5 48, s_aload 1, s_getI 9 8, s_iload 2, s_iast, s_aload 1, s_getR 9 5 48, s_iload 2, s_aload 1, s_getI 9 8, s_iast, s_aload 1, s_dup, s_getI 9 8, s_ic (1), s_iadd, s_putI 9 8, s_ic (1), s_zret]
def pc_X10_readEnd : Nat → Nat := fun i => [0, 1, 4, 7, 8, 11, 13, 16, 17, 20, 23, 24, 25, 28, 31, 32, 35, 37, 40, 43, 44, 45, 46, 47, 50, 51, 52, 55, 56, 59, 60, 63, 64, 65, 66, 69, 70, 73, 75, 76, 77, 80, 81, 84, 85, 86, 87, 90, 91, 92, 95, 96, 97, 98, 101, 102, 103, 106, 107].getD i 0
def dl_X10_readEnd : List (Nat × Instr × Nat) := [(0, .aload_n 0, 1), (1, .getfield 15, 3), (4, .ifCond .le 12, 3), (7, .aload_n 1, 1), (8, .getfield 53, 3), (11, .bipush 60, 2), (13, .if_icmp .lt 11, 3), (16, .aload_n 0, 1), (17, .getfield 19, 3), (20, .invokevirtual 45, 3), (23, .ireturn, 1), (24, .aload_n 0, 1), (25, .getfield 19, 3), (28, .invokevirtual 56, 3), (31, .aload_n 0, 1), (32, .getfield 19, 3), (35, .bipush 33, 2), (37, .invokevirtual 59, 3), (40, .ifCond .ne 5, 3), (43, .iconst 0, 1), (44, .ireturn, 1), (45, .aload_n 0, 1), (46, .dup, 1), (47, .getfield 15, 3), (50, .iconst 1, 1), (51, .isub, 1), (52, .putfield 15, 3), (55, .aload_n 0, 1), (56, .getfield 9, 3), (59, .aload_n 0, 1), (60, .getfield 15, 3), (63, .iaload, 1), (64, .istore_n 2, 1), (65, .aload_n 1, 1), (66, .getfield 63, 3), (69, .aload_n 1, 1), (70, .getfield 53, 3), (73, .bipush 28, 2), (75, .iastore, 1), (76, .aload_n 1, 1), (77, .getfield 66, 3), (80, .aload_n 1, 1), (81, .getfield 53, 3), (84, .iload_n 2, 1), (85, .iastore, 1), (86, .aload_n 1, 1), (87, .getfield 66, 3), (90, .iload_n 2, 1), (91, .aload_n 1, 1), (92, .getfield 53, 3), (95, .iastore, 1), (96, .aload_n 1, 1), (97, .dup, 1), (98, .getfield 53, 3), (101, .iconst 1, 1), (102, .iadd, 1), (103, .putfield 53, 3), (106, .iconst 1, 1), (107, .ireturn, 1)]
theorem dc_X10_readEnd : DEC prog_12_method_3_code pc_X10_readEnd dl_X10_readEnd := DEC_of (by decide +kernel)
abbrev rm_X10_readEnd : Room := { frames := 3, cells := 0, slots := 0, locals := 62 }
set_option maxRecDepth 20000 in
theorem sa_X10_readEnd (l : Launch) : SNDALL l prog_12_method_3_code "GivenUp$YearsReader" 3 (some .boolean) rm_X10_readEnd P_X10_readEnd pc_X10_readEnd := fun p e s m args below meth c cells slots Q D dA ad A RR hC hR => by
  have hM := RTX_room (R := rm_X10_readEnd) hR
  exact ⟨st_aload_n hC (n := 0) (k := 0) (dc_X10_readEnd 0 (0, .aload_n 0, 1) rfl rfl) rfl rfl,
    st_getI hC (n := 1) (k := 10) (j := 2) (dc_X10_readEnd 1 (1, .getfield 15, 3) rfl rfl) rfl clf_10 (by decide) rfl wd_295,
    st_ifle hC (n := 2) (dc_X10_readEnd 2 (4, .ifCond .le 12, 3) rfl rfl) rfl (by decide),
    st_aload_n hC (n := 3) (k := 1) (dc_X10_readEnd 3 (7, .aload_n 1, 1) rfl rfl) rfl rfl,
    st_getI hC (n := 4) (k := 9) (j := 8) (dc_X10_readEnd 4 (8, .getfield 53, 3) rfl rfl) rfl clf_9 (by decide) rfl wd_536,
    st_bipush hC (n := 5) (x := 60) (dc_X10_readEnd 5 (11, .bipush 60, 2) rfl rfl) rfl (by decide),
    st_iclt hC (n := 6) (dc_X10_readEnd 6 (13, .if_icmp .lt 11, 3) rfl rfl) rfl (by decide),
    st_aload_n hC (n := 7) (k := 0) (dc_X10_readEnd 7 (16, .aload_n 0, 1) rfl rfl) rfl rfl,
    st_getC hC (n := 8) (k := 10) (j := 0) (dc_X10_readEnd 8 (17, .getfield 19, 3) rfl rfl) rfl clf_10 (by decide) rfl (by decide) wd_293,
    st_callV hC (n := 9) (k := 4) (na := 0) (con_X4_misplaced l) (dc_X10_readEnd 9 (20, .invokevirtual 45, 3) rfl rfl) rfl wd_887 wd_144 (by decide) ⟨rfl, rfl, by decide, by decide⟩ hM wd_982 wd_885 wd_886 clf_4,
    st_zret hC (n := 10) hR (dc_X10_readEnd 10 (23, .ireturn, 1) rfl rfl),
    st_aload_n hC (n := 11) (k := 0) (dc_X10_readEnd 11 (24, .aload_n 0, 1) rfl rfl) rfl rfl,
    st_getC hC (n := 12) (k := 10) (j := 0) (dc_X10_readEnd 12 (25, .getfield 19, 3) rfl rfl) rfl clf_10 (by decide) rfl (by decide) wd_293,
    st_callV hC (n := 13) (k := 4) (na := 0) (con_X4_step l) (dc_X10_readEnd 13 (28, .invokevirtual 56, 3) rfl rfl) rfl wd_859 wd_144 (by decide) ⟨rfl, rfl, by decide, by decide⟩ hM wd_983 wd_857 wd_858 clf_4,
    st_aload_n hC (n := 14) (k := 0) (dc_X10_readEnd 14 (31, .aload_n 0, 1) rfl rfl) rfl rfl,
    st_getC hC (n := 15) (k := 10) (j := 0) (dc_X10_readEnd 15 (32, .getfield 19, 3) rfl rfl) rfl clf_10 (by decide) rfl (by decide) wd_293,
    st_bipush hC (n := 16) (x := 33) (dc_X10_readEnd 16 (35, .bipush 33, 2) rfl rfl) rfl (by decide),
    st_callV hC (n := 17) (k := 4) (na := 1) (con_X4_skip l) (dc_X10_readEnd 17 (37, .invokevirtual 59, 3) rfl rfl) rfl wd_900 wd_144 (by decide) ⟨rfl, rfl, by decide, by decide⟩ hM wd_984 wd_898 wd_899 clf_4,
    st_ifne hC (n := 18) (dc_X10_readEnd 18 (40, .ifCond .ne 5, 3) rfl rfl) rfl (by decide),
    st_iconst hC (n := 19) (x := 0) (dc_X10_readEnd 19 (43, .iconst 0, 1) rfl rfl) rfl (by decide),
    st_zret hC (n := 20) hR (dc_X10_readEnd 20 (44, .ireturn, 1) rfl rfl),
    st_aload_n hC (n := 21) (k := 0) (dc_X10_readEnd 21 (45, .aload_n 0, 1) rfl rfl) rfl rfl,
    st_dup hC (n := 22) (dc_X10_readEnd 22 (46, .dup, 1) rfl rfl) rfl,
    st_getI hC (n := 23) (k := 10) (j := 2) (dc_X10_readEnd 23 (47, .getfield 15, 3) rfl rfl) rfl clf_10 (by decide) rfl wd_295,
    st_iconst hC (n := 24) (x := 1) (dc_X10_readEnd 24 (50, .iconst 1, 1) rfl rfl) rfl (by decide),
    st_isub hC (n := 25) (dc_X10_readEnd 25 (51, .isub, 1) rfl rfl) rfl,
    st_putI hC (n := 26) (k := 10) (j := 2) (dc_X10_readEnd 26 (52, .putfield 15, 3) rfl rfl) rfl clf_10 (by decide) rfl rfl rfl wd_295,
    st_aload_n hC (n := 27) (k := 0) (dc_X10_readEnd 27 (55, .aload_n 0, 1) rfl rfl) rfl rfl,
    st_getR hC (n := 28) (k := 10) (j := 1) (dc_X10_readEnd 28 (56, .getfield 9, 3) rfl rfl) rfl clf_10 (by decide) rfl (by decide) wd_294,
    st_aload_n hC (n := 29) (k := 0) (dc_X10_readEnd 29 (59, .aload_n 0, 1) rfl rfl) rfl rfl,
    st_getI hC (n := 30) (k := 10) (j := 2) (dc_X10_readEnd 30 (60, .getfield 15, 3) rfl rfl) rfl clf_10 (by decide) rfl wd_295,
    st_iald hC (n := 31) (dc_X10_readEnd 31 (63, .iaload, 1) rfl rfl) rfl,
    st_istore_n hC (n := 32) (k := 2) (dc_X10_readEnd 32 (64, .istore_n 2, 1) rfl rfl) rfl rfl (by decide),
    st_aload_n hC (n := 33) (k := 1) (dc_X10_readEnd 33 (65, .aload_n 1, 1) rfl rfl) rfl rfl,
    st_getR hC (n := 34) (k := 9) (j := 0) (dc_X10_readEnd 34 (66, .getfield 63, 3) rfl rfl) rfl clf_9 (by decide) rfl (by decide) wd_512,
    st_aload_n hC (n := 35) (k := 1) (dc_X10_readEnd 35 (69, .aload_n 1, 1) rfl rfl) rfl rfl,
    st_getI hC (n := 36) (k := 9) (j := 8) (dc_X10_readEnd 36 (70, .getfield 53, 3) rfl rfl) rfl clf_9 (by decide) rfl wd_536,
    st_bipush hC (n := 37) (x := 28) (dc_X10_readEnd 37 (73, .bipush 28, 2) rfl rfl) rfl (by decide),
    st_iast hC (n := 38) (dc_X10_readEnd 38 (75, .iastore, 1) rfl rfl) rfl,
    st_aload_n hC (n := 39) (k := 1) (dc_X10_readEnd 39 (76, .aload_n 1, 1) rfl rfl) rfl rfl,
    st_getR hC (n := 40) (k := 9) (j := 5) (dc_X10_readEnd 40 (77, .getfield 66, 3) rfl rfl) rfl clf_9 (by decide) rfl (by decide) wd_527,
    st_aload_n hC (n := 41) (k := 1) (dc_X10_readEnd 41 (80, .aload_n 1, 1) rfl rfl) rfl rfl,
    st_getI hC (n := 42) (k := 9) (j := 8) (dc_X10_readEnd 42 (81, .getfield 53, 3) rfl rfl) rfl clf_9 (by decide) rfl wd_536,
    st_iload_n hC (n := 43) (k := 2) (dc_X10_readEnd 43 (84, .iload_n 2, 1) rfl rfl) rfl rfl,
    st_iast hC (n := 44) (dc_X10_readEnd 44 (85, .iastore, 1) rfl rfl) rfl,
    st_aload_n hC (n := 45) (k := 1) (dc_X10_readEnd 45 (86, .aload_n 1, 1) rfl rfl) rfl rfl,
    st_getR hC (n := 46) (k := 9) (j := 5) (dc_X10_readEnd 46 (87, .getfield 66, 3) rfl rfl) rfl clf_9 (by decide) rfl (by decide) wd_527,
    st_iload_n hC (n := 47) (k := 2) (dc_X10_readEnd 47 (90, .iload_n 2, 1) rfl rfl) rfl rfl,
    st_aload_n hC (n := 48) (k := 1) (dc_X10_readEnd 48 (91, .aload_n 1, 1) rfl rfl) rfl rfl,
    st_getI hC (n := 49) (k := 9) (j := 8) (dc_X10_readEnd 49 (92, .getfield 53, 3) rfl rfl) rfl clf_9 (by decide) rfl wd_536,
    st_iast hC (n := 50) (dc_X10_readEnd 50 (95, .iastore, 1) rfl rfl) rfl,
    st_aload_n hC (n := 51) (k := 1) (dc_X10_readEnd 51 (96, .aload_n 1, 1) rfl rfl) rfl rfl,
    st_dup hC (n := 52) (dc_X10_readEnd 52 (97, .dup, 1) rfl rfl) rfl,
    st_getI hC (n := 53) (k := 9) (j := 8) (dc_X10_readEnd 53 (98, .getfield 53, 3) rfl rfl) rfl clf_9 (by decide) rfl wd_536,
    st_iconst hC (n := 54) (x := 1) (dc_X10_readEnd 54 (101, .iconst 1, 1) rfl rfl) rfl (by decide),
    st_iadd hC (n := 55) (dc_X10_readEnd 55 (102, .iadd, 1) rfl rfl) rfl,
    st_putI hC (n := 56) (k := 9) (j := 8) (dc_X10_readEnd 56 (103, .putfield 53, 3) rfl rfl) rfl clf_9 (by decide) rfl rfl rfl wd_536,
    st_iconst hC (n := 57) (x := 1) (dc_X10_readEnd 57 (106, .iconst 1, 1) rfl rfl) rfl (by decide),
    st_zret hC (n := 58) hR (dc_X10_readEnd 58 (107, .ireturn, 1) rfl rfl), trivial⟩
set_option maxRecDepth 8000 in
theorem vc_X10_readEnd : VC P_X10_readEnd 3 Pre_X10_readEnd Fn_X10_readEnd := by
  rintro mm as hom hoa ⟨g, o, L, hJ, rfl⟩
  refine ⟨Nat.le_of_ble_eq_true rfl, fun X h => ?_⟩
  replace h : RUN P_X10_readEnd (RT (c10e g mm)) X := h
  have s21 : ∀ M p, YJc M g o L → 0 < o → L < 60 → p = c10eB g M → RUN P_X10_readEnd (RT p) X → X 21 [some (vR 10 0), some (vR 9 g), none] [] (M) := by
    intro M p hM ho hL hp h
    have e2 : M.1 10 0 2 = nI o := hM.2.1.1
    have e8 : M.1 9 g 8 = nI L := hM.2.2.1.1
    have o3 := hM.2.1.2
    have eo : M.1 10 0 2 - 1 = nI (o - 1) := by rw [e2, show (1 : Int32) = nI 1 from rfl, nI_sb (by omega)]
    obtain ⟨j, ej, hj⟩ := hM.2.2.2 (o - 1) (by omega)
    have ef : M.1 49 0 (M.1 10 0 2 - 1).toNatClampNeg = nI j := by rw [eo, nI_clamp (by omega)]; exact ej
    show X 21 [some (vR 10 0), some (vR 9 g), none] [] M
    refine h (fun _ => false) 3000 21 _ _ _ ?_
    refine And.intro (show inb ((M.1 10 0 2) - 1) (alen 49) = true from (inb_o 3 rfl rfl eo (by omega))) ?_
    refine And.intro (show inb (M.1 9 g 8) (alen 43) = true from (inb_o 60 rfl rfl e8 (by omega))) ?_
    refine And.intro (show inb (M.1 9 g 8) (alen 48) = true from (inb_o 60 rfl rfl e8 (by omega))) ?_
    refine And.intro (show inb (M.1 49 0 (((M.1 10 0 2) - 1).toNatClampNeg)) (alen 48) = true from (inb_o 60 rfl rfl ef (by omega))) ?_
    refine And.intro (Or.inr rfl) ?_
    show ((some (vI 1) : Option MV), mI (mRow (mRow (mRow (mI M 10 0 2 ((M.1 10 0 2) - 1)) 43 g (upd (M.1 43 g) (M.1 9 g 8).toNatClampNeg 28)) 48 g (upd (M.1 48 g) (M.1 9 g 8).toNatClampNeg (M.1 49 0 (((M.1 10 0 2) - 1).toNatClampNeg)))) 48 g (upd ((mRow (mRow (mI M 10 0 2 ((M.1 10 0 2) - 1)) 43 g (upd (M.1 43 g) (M.1 9 g 8).toNatClampNeg 28)) 48 g (upd (M.1 48 g) (M.1 9 g 8).toNatClampNeg (M.1 49 0 (((M.1 10 0 2) - 1).toNatClampNeg)))).1 48 g) (M.1 49 0 (((M.1 10 0 2) - 1).toNatClampNeg)).toNatClampNeg (M.1 9 g 8))) 9 g 8 ((M.1 9 g 8) + 1)) = _
    exact PR_t hp
  have s11 : ∀ p, 0 < o → L < 60 → p = pBd (skC (spM mm) 33) (c10eB g) → RUN P_X10_readEnd (RT p) X → X 11 [some (vR 10 0), some (vR 9 g), none] [] mm := by
    intro p ho hL hp h
    show X 11 [some (vR 10 0), some (vR 9 g), none] [] mm
    refine h (fun i => Nat.beq i 21) 3000 11 _ _ _ ?_
    refine And.intro (show Pre_X4_step mm [vR 4 0] from ⟨hJ.1, rfl⟩) ?_
    refine And.intro (show Pre_X4_skip (spM mm) [vR 4 0, vI 33] from ⟨TXp_sp hJ.1, _, rfl⟩) ?_
    refine brn_c (fun b18 => ?_) (fun b18 => ?_)
    · -- 18: bI ((skC (spM mm) 33).1 = true) = 0 taken
      replace b18 : (skC (spM mm) 33).1 = true := bI_n0.mp b18
      show X 21 [some (vR 10 0), some (vR 9 g), none] [] ((skC (spM mm) 33).2)
      exact s21 _ _ (YJc_s hJ (SMo_t (SMo_sp mm) (SMo_sk _ _)) (TXp_sk (TXp_sp hJ.1))) ho hL (by rw [hp, pBd_t b18]) h
    · -- 18: bI ((skC (spM mm) 33).1 = true) = 0 on
      replace b18 : ¬ ((skC (spM mm) 33).1 = true) := bI_0.mp b18
      refine And.intro (Or.inl rfl) ?_
      show ((some (vI 0) : Option MV), (skC (spM mm) 33).2) = _
      exact PR_f (by rw [hp, pBd_f b18])
  unfold c10e at h
  have o3 := hJ.2.1.2
  have L60 := hJ.2.2.1.2
  show X 0 [some (vR 10 0), some (vR 9 g), none] [] mm
  refine h (fun i => Nat.beq i 11) 3000 0 _ _ _ ?_
  refine br_c (fun b2 => ?_) (fun b2 => ?_)
  · -- 2: mm.1 10 0 2 ≤ 0 taken
    replace b2 : mm.1 10 0 2 ≤ 0 := b2
    refine And.intro (show Pre_X4_misplaced mm [vR 4 0] from rfl) ?_
    refine And.intro (Or.inl rfl) ?_
    show ((some (vI 0) : Option MV), miC mm) = _
    exact PR_f (by rw [if_neg (fun z => Int32.not_lt.mpr b2 z.1)])
  · -- 2: mm.1 10 0 2 ≤ 0 on
    replace b2 : ¬ (mm.1 10 0 2 ≤ 0) := b2
    refine br_c (fun b6 => ?_) (fun b6 => ?_)
    · -- 6: mm.1 9 g 8 < 60 taken
      replace b6 : mm.1 9 g 8 < 60 := b6
      show X 11 [some (vR 10 0), some (vR 9 g), none] [] mm
      rw [if_pos ⟨Int32.not_le.mp b2, b6⟩] at h
      rw [hJ.2.1.1, show (0 : Int32) = nI 0 from rfl, nI_leI (by omega) (by omega)] at b2 
      rw [hJ.2.2.1.1, show (60 : Int32) = nI 60 from rfl, nI_ltI (by omega) (by omega)] at b6 
      exact s11 _ (by omega) b6 rfl h
    · -- 6: mm.1 9 g 8 < 60 on
      replace b6 : ¬ (mm.1 9 g 8 < 60) := b6
      refine And.intro (show Pre_X4_misplaced mm [vR 4 0] from rfl) ?_
      refine And.intro (Or.inl rfl) ?_
      show ((some (vI 0) : Option MV), miC mm) = _
      exact PR_f (by rw [if_neg (fun z => b6 z.2)])
theorem con_X10_readEnd (l : Launch) : CON l y_X10_readEnd prog_12_method_3_code 3 (some .boolean) rm_X10_readEnd Pre_X10_readEnd Fn_X10_readEnd := CON_of (by decide) rfl rfl (sa_X10_readEnd l) vc_X10_readEnd
