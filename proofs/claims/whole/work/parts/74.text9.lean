/-! PART 74: the class: a valley's text is taken -/

def c7v1 (g : Nat) (m : MM) : PR := if m.1 4 0 6 = 0 then c7sC g m else if m.1 4 0 6 = 3 then c7mC g m else if m.1 4 0 6 = 7 then c7tC g m else if m.1 4 0 6 = 10 then c7yC g m else if m.1 4 0 6 = 12 then c7aC g m else if m.1 4 0 6 = 13 then c7lC g m else if m.1 4 0 6 = 14 then c7wC g m else if m.1 4 0 6 = 15 then c7fC g m else (false, miC m)
theorem c7v1_ok {m : MM} {g : Nat} (h : CJx m g) (t : (c7v1 g m).1 = true) : CJx (c7v1 g m).2 g := by
  unfold c7v1 at t ⊢
  split at t
  · rename_i c; rw [if_pos c]; exact c7s_ok h t
  rename_i c; rw [if_neg c]
  split at t
  · rename_i c; rw [if_pos c]; exact c7m_ok h t
  rename_i c; rw [if_neg c]
  split at t
  · rename_i c; rw [if_pos c]; exact c7t_ok h t
  rename_i c; rw [if_neg c]
  split at t
  · rename_i c; rw [if_pos c]; exact c7y_ok h t
  rename_i c; rw [if_neg c]
  split at t
  · rename_i c; rw [if_pos c]; exact c7a_ok h t
  rename_i c; rw [if_neg c]
  split at t
  · rename_i c; rw [if_pos c]; exact c7l_ok h t
  rename_i c; rw [if_neg c]
  split at t
  · rename_i c; rw [if_pos c]; exact c7w_ok h t
  rename_i c; rw [if_neg c]
  split at t
  · rename_i c; rw [if_pos c]; exact c7f_ok h t
  · exact absurd t Bool.false_ne_true
theorem kk_0 {m : MM} {g : Nat} (e : m.1 4 0 6 = 0) : c7v1 g m = c7sC g m := by
  unfold c7v1
  rw [if_pos e]
theorem kk_3 {m : MM} {g : Nat} (e : m.1 4 0 6 = 3) : c7v1 g m = c7mC g m := by
  unfold c7v1
  rw [if_neg (show ¬ m.1 4 0 6 = 0 by rw [e]; decide), if_pos e]
theorem kk_7 {m : MM} {g : Nat} (e : m.1 4 0 6 = 7) : c7v1 g m = c7tC g m := by
  unfold c7v1
  rw [if_neg (show ¬ m.1 4 0 6 = 0 by rw [e]; decide), if_neg (show ¬ m.1 4 0 6 = 3 by rw [e]; decide), if_pos e]
theorem kk_10 {m : MM} {g : Nat} (e : m.1 4 0 6 = 10) : c7v1 g m = c7yC g m := by
  unfold c7v1
  rw [if_neg (show ¬ m.1 4 0 6 = 0 by rw [e]; decide), if_neg (show ¬ m.1 4 0 6 = 3 by rw [e]; decide), if_neg (show ¬ m.1 4 0 6 = 7 by rw [e]; decide), if_pos e]
theorem kk_12 {m : MM} {g : Nat} (e : m.1 4 0 6 = 12) : c7v1 g m = c7aC g m := by
  unfold c7v1
  rw [if_neg (show ¬ m.1 4 0 6 = 0 by rw [e]; decide), if_neg (show ¬ m.1 4 0 6 = 3 by rw [e]; decide), if_neg (show ¬ m.1 4 0 6 = 7 by rw [e]; decide), if_neg (show ¬ m.1 4 0 6 = 10 by rw [e]; decide), if_pos e]
theorem kk_13 {m : MM} {g : Nat} (e : m.1 4 0 6 = 13) : c7v1 g m = c7lC g m := by
  unfold c7v1
  rw [if_neg (show ¬ m.1 4 0 6 = 0 by rw [e]; decide), if_neg (show ¬ m.1 4 0 6 = 3 by rw [e]; decide), if_neg (show ¬ m.1 4 0 6 = 7 by rw [e]; decide), if_neg (show ¬ m.1 4 0 6 = 10 by rw [e]; decide), if_neg (show ¬ m.1 4 0 6 = 12 by rw [e]; decide), if_pos e]
theorem kk_14 {m : MM} {g : Nat} (e : m.1 4 0 6 = 14) : c7v1 g m = c7wC g m := by
  unfold c7v1
  rw [if_neg (show ¬ m.1 4 0 6 = 0 by rw [e]; decide), if_neg (show ¬ m.1 4 0 6 = 3 by rw [e]; decide), if_neg (show ¬ m.1 4 0 6 = 7 by rw [e]; decide), if_neg (show ¬ m.1 4 0 6 = 10 by rw [e]; decide), if_neg (show ¬ m.1 4 0 6 = 12 by rw [e]; decide), if_neg (show ¬ m.1 4 0 6 = 13 by rw [e]; decide), if_pos e]
theorem kk_15 {m : MM} {g : Nat} (e : m.1 4 0 6 = 15) : c7v1 g m = c7fC g m := by
  unfold c7v1
  rw [if_neg (show ¬ m.1 4 0 6 = 0 by rw [e]; decide), if_neg (show ¬ m.1 4 0 6 = 3 by rw [e]; decide), if_neg (show ¬ m.1 4 0 6 = 7 by rw [e]; decide), if_neg (show ¬ m.1 4 0 6 = 10 by rw [e]; decide), if_neg (show ¬ m.1 4 0 6 = 12 by rw [e]; decide), if_neg (show ¬ m.1 4 0 6 = 13 by rw [e]; decide), if_neg (show ¬ m.1 4 0 6 = 14 by rw [e]; decide), if_pos e]
theorem kk_m {m : MM} {g : Nat} (n0 : ¬ m.1 4 0 6 = 0) (n3 : ¬ m.1 4 0 6 = 3) (n7 : ¬ m.1 4 0 6 = 7) (n10 : ¬ m.1 4 0 6 = 10) (n12 : ¬ m.1 4 0 6 = 12) (n13 : ¬ m.1 4 0 6 = 13) (n14 : ¬ m.1 4 0 6 = 14) (n15 : ¬ m.1 4 0 6 = 15) : c7v1 g m = (false, miC m) := by
  unfold c7v1
  rw [if_neg n0, if_neg n3, if_neg n7, if_neg n10, if_neg n12, if_neg n13, if_neg n14, if_neg n15]
def c7vL (g : Nat) : Nat → MM → PR
  | 0, m => (true, m)
  | f + 1, m => if m.1 4 0 6 = 37 then (true, m) else pBd (c7v1 g m) (c7vL g f)
def c7v0 (g : Nat) (m : MM) (n : Int32) : MM := bgC (mI (mI (vlM3 m g) 7 0 1 0) 7 0 2 0) n
def c7vE (g : Nat) (p : PR) : PR := (p.1, if p.1 = true then coM p.2 g else p.2)
def c7vC (g : Nat) (m : MM) (n : Int32) : PR := c7vE g (c7vL g 900 (c7v0 g m n))
theorem vl_n (m : MM) (g : Nat) : (vlM3 m g).1 6 g 13 = 0 ∧ (vlM3 m g).1 6 g 14 = 0 ∧ (vlM3 m g).1 6 g 15 = 0 ∧ (vlM3 m g).1 6 g 16 = 0 := by
  unfold vlM3 vlM2
  refine ⟨?_, ?_, ?_, ?_⟩
  · rw [mI_ne (by decide), mI_ne (by decide), mI_ne (by decide), mI_ne (by decide), mI_ne (by decide), mI_eq2]
  · rw [mI_ne (by decide), mI_ne (by decide), mI_ne (by decide), mI_ne (by decide), mI_eq2]
  · rw [mI_ne (by decide), mI_ne (by decide), mI_ne (by decide), mI_eq2]
  · rw [mI_ne (by decide), mI_ne (by decide), mI_eq2]

--tpl ⟨_, _, _, by assumption, by assumption, by omega, rfl⟩ || bI ((c7vC {g1} {m} {2}).1 = true) || (c7vC {g1} {m} {2}).2
def Pre_X7_take : PreT := fun m as => ∃ g n F : Nat, m.1 4 0 5 = nI F ∧ F ≤ 900 ∧ n < 2 ^ 31 ∧ as = [vR 7 0, vR 6 g, vI (nI n)]
def Fn_X7_take : FnT := fun m as => match as with
  | [_, Sum.inr (Sum.inr q), Sum.inl n] => (some (vI (bI ((c7vC q.2 m n).1 = true))), (c7vC q.2 m n).2)
  | _ => (none, m)
abbrev y_X7_take : MethodName := ⟨"GivenUp$ValleyReader", "take", "(LGivenUp$Valley;I)Z"⟩
def P_X7_take : List StpT := [s_aload 1, s_callV 6 0 Pre_X6_clear Fn_X6_clear, s_aload 0, s_ic (0), s_putZ 7 1, s_aload 0, s_ic (0), s_putZ 7 2, s_aload 0, s_getC 7 0 4 0, s_iload 2, s_callV 4 1 Pre_X4_begin Fn_X4_begin, s_ic (1), s_istore 3, s_ic (0), s_istore 4, s_iload 4, s_ic (900), s_icge 76, s_iload 3, s_ifeq 76, s_aload 0, s_getC 7 0 4 0, s_getI 4 6, s_ic (37), s_iceq 76, s_aload 0, s_getC 7 0 4 0, s_getI 4 6, s_sw (tsw (0) [30, 70, 70, 35, 70, 70, 70, 40, 70, 70, 45, 70, 50, 55, 60, 65]) 70, s_aload 0, s_aload 1, s_callV 7 1 Pre_X7_readSuitor Fn_X7_readSuitor, s_istore 3, s_goto 74, s_aload 0, s_aload 1, s_callV 7 1 Pre_X7_readMaid Fn_X7_readMaid, s_istore 3, s_goto 74, s_aload 0, s_aload 1, s_callV 7 1 Pre_X7_readThing Fn_X7_readThing, s_istore 3, s_goto 74, s_aload 0, s_aload 1, s_callV 7 1 Pre_X7_readSays Fn_X7_readSays, s_istore 3, s_goto 74, s_aload 0, s_aload 1, s_callV 7 1 Pre_X7_readAfter Fn_X7_readAfter, s_istore 3, s_goto 74, s_aload 0, s_aload 1, s_callV 7 1 Pre_X7_readLikes Fn_X7_readLikes, s_istore 3, s_goto 74, s_aload 0, s_aload 1, s_callV 7 1 Pre_X7_readWeekly Fn_X7_readWeekly, s_istore 3, s_goto 74, s_aload 0, s_aload 1, s_callV 7 1 Pre_X7_readFair Fn_X7_readFair, s_istore 3, s_goto 74, s_aload 0, s_getC 7 0 4 0, s_callV 4 0 Pre_X4_misplaced Fn_X4_misplaced, s_istore 3, s_iinc 4 (1), s_goto 16, s_iload 3, s_ifeq 80, s_aload 1, s_callV 6 0 Pre_X6_complete Fn_X6_complete, s_iload 3, s_zret]
def pc_X7_take : Nat → Nat := fun i => [0, 1, 4, 5, 6, 9, 10, 11, 14, 15, 18, 19, 22, 23, 24, 25, 27, 29, 32, 35, 36, 39, 40, 43, 46, 48, 51, 52, 55, 58, 136, 137, 138, 141, 142, 145, 146, 147, 150, 151, 154, 155, 156, 159, 160, 163, 164, 165, 168, 169, 172, 173, 174, 177, 178, 181, 182, 183, 186, 187, 190, 191, 192, 195, 196, 199, 200, 201, 204, 205, 208, 209, 212, 215, 216, 219, 222, 223, 226, 227, 230, 231].getD i 0
def dl_X7_take : List (Nat × Instr × Nat) := [(0, .aload_n 1, 1), (1, .invokevirtual 22, 3), (4, .aload_n 0, 1), (5, .iconst 0, 1), (6, .putfield 9, 3), (9, .aload_n 0, 1), (10, .iconst 0, 1), (11, .putfield 15, 3), (14, .aload_n 0, 1), (15, .getfield 18, 3), (18, .iload_n 2, 1), (19, .invokevirtual 27, 3), (22, .iconst 1, 1), (23, .istore_n 3, 1), (24, .iconst 0, 1), (25, .istore 4, 2), (27, .iload 4, 2), (29, .sipush 900, 3), (32, .if_icmp .ge 190, 3), (35, .iload_n 3, 1), (36, .ifCond .eq 186, 3), (39, .aload_n 0, 1), (40, .getfield 18, 3), (43, .getfield 33, 3), (46, .bipush 37, 2), (48, .if_icmp .eq 174, 3), (51, .aload_n 0, 1), (52, .getfield 18, 3), (55, .getfield 33, 3), (58, .tableswitch 150 0 15 #[78, 150, 150, 87, 150, 150, 150, 96, 150, 150, 105, 150, 114, 123, 132, 141], 78), (136, .aload_n 0, 1), (137, .aload_n 1, 1), (138, .invokevirtual 37, 3), (141, .istore_n 3, 1), (142, .goto 74, 3), (145, .aload_n 0, 1), (146, .aload_n 1, 1), (147, .invokevirtual 41, 3), (150, .istore_n 3, 1), (151, .goto 65, 3), (154, .aload_n 0, 1), (155, .aload_n 1, 1), (156, .invokevirtual 44, 3), (159, .istore_n 3, 1), (160, .goto 56, 3), (163, .aload_n 0, 1), (164, .aload_n 1, 1), (165, .invokevirtual 47, 3), (168, .istore_n 3, 1), (169, .goto 47, 3), (172, .aload_n 0, 1), (173, .aload_n 1, 1), (174, .invokevirtual 50, 3), (177, .istore_n 3, 1), (178, .goto 38, 3), (181, .aload_n 0, 1), (182, .aload_n 1, 1), (183, .invokevirtual 53, 3), (186, .istore_n 3, 1), (187, .goto 29, 3), (190, .aload_n 0, 1), (191, .aload_n 1, 1), (192, .invokevirtual 56, 3), (195, .istore_n 3, 1), (196, .goto 20, 3), (199, .aload_n 0, 1), (200, .aload_n 1, 1), (201, .invokevirtual 59, 3), (204, .istore_n 3, 1), (205, .goto 11, 3), (208, .aload_n 0, 1), (209, .getfield 18, 3), (212, .invokevirtual 62, 3), (215, .istore_n 3, 1), (216, .iinc 4 1, 3), (219, .goto (-192), 3), (222, .iload_n 3, 1), (223, .ifCond .eq 7, 3), (226, .aload_n 1, 1), (227, .invokevirtual 66, 3), (230, .iload_n 3, 1), (231, .ireturn, 1)]
theorem dc_X7_take : DEC prog_9_method_2_code pc_X7_take dl_X7_take := DEC_of (by decide +kernel)
abbrev rm_X7_take : Room := { frames := 5, cells := 0, slots := 0, locals := 114 }
set_option maxRecDepth 20000 in
theorem sa_X7_take (l : Launch) : SNDALL l prog_9_method_2_code "GivenUp$ValleyReader" 5 (some .boolean) rm_X7_take P_X7_take pc_X7_take := fun p e s m args below meth c cells slots Q D dA ad A RR hC hR => by
  have hM := RTX_room (R := rm_X7_take) hR
  exact ⟨st_aload_n hC (n := 0) (k := 1) (dc_X7_take 0 (0, .aload_n 1, 1) rfl rfl) rfl rfl,
    st_callV hC (n := 1) (k := 6) (na := 0) (con_X6_clear l) (dc_X7_take 1 (1, .invokevirtual 22, 3) rfl rfl) rfl wd_559 wd_155 (by decide) ⟨rfl, rfl, by decide, by decide⟩ hM wd_848 wd_557 wd_558 clf_6,
    st_aload_n hC (n := 2) (k := 0) (dc_X7_take 2 (4, .aload_n 0, 1) rfl rfl) rfl rfl,
    st_iconst hC (n := 3) (x := 0) (dc_X7_take 3 (5, .iconst 0, 1) rfl rfl) rfl (by decide),
    st_putZ hC (n := 4) (k := 7) (j := 1) (dc_X7_take 4 (6, .putfield 9, 3) rfl rfl) rfl clf_7 (by decide) rfl rfl rfl wd_278,
    st_aload_n hC (n := 5) (k := 0) (dc_X7_take 5 (9, .aload_n 0, 1) rfl rfl) rfl rfl,
    st_iconst hC (n := 6) (x := 0) (dc_X7_take 6 (10, .iconst 0, 1) rfl rfl) rfl (by decide),
    st_putZ hC (n := 7) (k := 7) (j := 2) (dc_X7_take 7 (11, .putfield 15, 3) rfl rfl) rfl clf_7 (by decide) rfl rfl rfl wd_279,
    st_aload_n hC (n := 8) (k := 0) (dc_X7_take 8 (14, .aload_n 0, 1) rfl rfl) rfl rfl,
    st_getC hC (n := 9) (k := 7) (j := 0) (dc_X7_take 9 (15, .getfield 18, 3) rfl rfl) rfl clf_7 (by decide) rfl (by decide) wd_277,
    st_iload_n hC (n := 10) (k := 2) (dc_X7_take 10 (18, .iload_n 2, 1) rfl rfl) rfl rfl,
    st_callV hC (n := 11) (k := 4) (na := 1) (con_X4_begin l) (dc_X7_take 11 (19, .invokevirtual 27, 3) rfl rfl) rfl wd_852 wd_144 (by decide) ⟨rfl, rfl, by decide, by decide⟩ hM wd_849 wd_850 wd_851 clf_4,
    st_iconst hC (n := 12) (x := 1) (dc_X7_take 12 (22, .iconst 1, 1) rfl rfl) rfl (by decide),
    st_istore_n hC (n := 13) (k := 3) (dc_X7_take 13 (23, .istore_n 3, 1) rfl rfl) rfl rfl (by decide),
    st_iconst hC (n := 14) (x := 0) (dc_X7_take 14 (24, .iconst 0, 1) rfl rfl) rfl (by decide),
    st_istore hC (n := 15) (dc_X7_take 15 (25, .istore 4, 2) rfl rfl) rfl (by decide),
    st_iload hC (n := 16) (dc_X7_take 16 (27, .iload 4, 2) rfl rfl) rfl,
    st_sipush hC (n := 17) (x := 900) (dc_X7_take 17 (29, .sipush 900, 3) rfl rfl) rfl (by decide),
    st_icge hC (n := 18) (dc_X7_take 18 (32, .if_icmp .ge 190, 3) rfl rfl) rfl (by decide),
    st_iload_n hC (n := 19) (k := 3) (dc_X7_take 19 (35, .iload_n 3, 1) rfl rfl) rfl rfl,
    st_ifeq hC (n := 20) (dc_X7_take 20 (36, .ifCond .eq 186, 3) rfl rfl) rfl (by decide),
    st_aload_n hC (n := 21) (k := 0) (dc_X7_take 21 (39, .aload_n 0, 1) rfl rfl) rfl rfl,
    st_getC hC (n := 22) (k := 7) (j := 0) (dc_X7_take 22 (40, .getfield 18, 3) rfl rfl) rfl clf_7 (by decide) rfl (by decide) wd_277,
    st_getI hC (n := 23) (k := 4) (j := 6) (dc_X7_take 23 (43, .getfield 33, 3) rfl rfl) rfl clf_4 (by decide) rfl wd_239,
    st_bipush hC (n := 24) (x := 37) (dc_X7_take 24 (46, .bipush 37, 2) rfl rfl) rfl (by decide),
    st_iceq hC (n := 25) (dc_X7_take 25 (48, .if_icmp .eq 174, 3) rfl rfl) rfl (by decide),
    st_aload_n hC (n := 26) (k := 0) (dc_X7_take 26 (51, .aload_n 0, 1) rfl rfl) rfl rfl,
    st_getC hC (n := 27) (k := 7) (j := 0) (dc_X7_take 27 (52, .getfield 18, 3) rfl rfl) rfl clf_7 (by decide) rfl (by decide) wd_277,
    st_getI hC (n := 28) (k := 4) (j := 6) (dc_X7_take 28 (55, .getfield 33, 3) rfl rfl) rfl clf_4 (by decide) rfl wd_239,
    st_table hC (n := 29) (ts := [30, 70, 70, 35, 70, 70, 70, 40, 70, 70, 45, 70, 50, 55, 60, 65]) (dc_X7_take 29 (58, .tableswitch 150 0 15 #[78, 150, 150, 87, 150, 150, 150, 96, 150, 150, 105, 150, 114, 123, 132, 141], 78) rfl rfl) (by decide) (by decide) (by decide) (by decide) (swt_of _ _ _ (by decide +kernel)),
    st_aload_n hC (n := 30) (k := 0) (dc_X7_take 30 (136, .aload_n 0, 1) rfl rfl) rfl rfl,
    st_aload_n hC (n := 31) (k := 1) (dc_X7_take 31 (137, .aload_n 1, 1) rfl rfl) rfl rfl,
    st_callV hC (n := 32) (k := 7) (na := 1) (con_X7_readSuitor l) (dc_X7_take 32 (138, .invokevirtual 37, 3) rfl rfl) rfl wd_874 wd_149 (by decide) ⟨rfl, rfl, by decide, by decide⟩ hM wd_871 wd_873 wd_6 clf_7,
    st_istore_n hC (n := 33) (k := 3) (dc_X7_take 33 (141, .istore_n 3, 1) rfl rfl) rfl rfl (by decide),
    st_goto hC (n := 34) (dc_X7_take 34 (142, .goto 74, 3) rfl rfl) (by decide),
    st_aload_n hC (n := 35) (k := 0) (dc_X7_take 35 (145, .aload_n 0, 1) rfl rfl) rfl rfl,
    st_aload_n hC (n := 36) (k := 1) (dc_X7_take 36 (146, .aload_n 1, 1) rfl rfl) rfl rfl,
    st_callV hC (n := 37) (k := 7) (na := 1) (con_X7_readMaid l) (dc_X7_take 37 (147, .invokevirtual 41, 3) rfl rfl) rfl wd_904 wd_149 (by decide) ⟨rfl, rfl, by decide, by decide⟩ hM wd_901 wd_903 wd_7 clf_7,
    st_istore_n hC (n := 38) (k := 3) (dc_X7_take 38 (150, .istore_n 3, 1) rfl rfl) rfl rfl (by decide),
    st_goto hC (n := 39) (dc_X7_take 39 (151, .goto 65, 3) rfl rfl) (by decide),
    st_aload_n hC (n := 40) (k := 0) (dc_X7_take 40 (154, .aload_n 0, 1) rfl rfl) rfl rfl,
    st_aload_n hC (n := 41) (k := 1) (dc_X7_take 41 (155, .aload_n 1, 1) rfl rfl) rfl rfl,
    st_callV hC (n := 42) (k := 7) (na := 1) (con_X7_readThing l) (dc_X7_take 42 (156, .invokevirtual 44, 3) rfl rfl) rfl wd_909 wd_149 (by decide) ⟨rfl, rfl, by decide, by decide⟩ hM wd_906 wd_908 wd_8 clf_7,
    st_istore_n hC (n := 43) (k := 3) (dc_X7_take 43 (159, .istore_n 3, 1) rfl rfl) rfl rfl (by decide),
    st_goto hC (n := 44) (dc_X7_take 44 (160, .goto 56, 3) rfl rfl) (by decide),
    st_aload_n hC (n := 45) (k := 0) (dc_X7_take 45 (163, .aload_n 0, 1) rfl rfl) rfl rfl,
    st_aload_n hC (n := 46) (k := 1) (dc_X7_take 46 (164, .aload_n 1, 1) rfl rfl) rfl rfl,
    st_callV hC (n := 47) (k := 7) (na := 1) (con_X7_readSays l) (dc_X7_take 47 (165, .invokevirtual 47, 3) rfl rfl) rfl wd_925 wd_149 (by decide) ⟨rfl, rfl, by decide, by decide⟩ hM wd_922 wd_924 wd_9 clf_7,
    st_istore_n hC (n := 48) (k := 3) (dc_X7_take 48 (168, .istore_n 3, 1) rfl rfl) rfl rfl (by decide),
    st_goto hC (n := 49) (dc_X7_take 49 (169, .goto 47, 3) rfl rfl) (by decide),
    st_aload_n hC (n := 50) (k := 0) (dc_X7_take 50 (172, .aload_n 0, 1) rfl rfl) rfl rfl,
    st_aload_n hC (n := 51) (k := 1) (dc_X7_take 51 (173, .aload_n 1, 1) rfl rfl) rfl rfl,
    st_callV hC (n := 52) (k := 7) (na := 1) (con_X7_readAfter l) (dc_X7_take 52 (174, .invokevirtual 50, 3) rfl rfl) rfl wd_929 wd_149 (by decide) ⟨rfl, rfl, by decide, by decide⟩ hM wd_926 wd_928 wd_10 clf_7,
    st_istore_n hC (n := 53) (k := 3) (dc_X7_take 53 (177, .istore_n 3, 1) rfl rfl) rfl rfl (by decide),
    st_goto hC (n := 54) (dc_X7_take 54 (178, .goto 38, 3) rfl rfl) (by decide),
    st_aload_n hC (n := 55) (k := 0) (dc_X7_take 55 (181, .aload_n 0, 1) rfl rfl) rfl rfl,
    st_aload_n hC (n := 56) (k := 1) (dc_X7_take 56 (182, .aload_n 1, 1) rfl rfl) rfl rfl,
    st_callV hC (n := 57) (k := 7) (na := 1) (con_X7_readLikes l) (dc_X7_take 57 (183, .invokevirtual 53, 3) rfl rfl) rfl wd_934 wd_149 (by decide) ⟨rfl, rfl, by decide, by decide⟩ hM wd_931 wd_933 wd_11 clf_7,
    st_istore_n hC (n := 58) (k := 3) (dc_X7_take 58 (186, .istore_n 3, 1) rfl rfl) rfl rfl (by decide),
    st_goto hC (n := 59) (dc_X7_take 59 (187, .goto 29, 3) rfl rfl) (by decide),
    st_aload_n hC (n := 60) (k := 0) (dc_X7_take 60 (190, .aload_n 0, 1) rfl rfl) rfl rfl,
    st_aload_n hC (n := 61) (k := 1) (dc_X7_take 61 (191, .aload_n 1, 1) rfl rfl) rfl rfl,
    st_callV hC (n := 62) (k := 7) (na := 1) (con_X7_readWeekly l) (dc_X7_take 62 (192, .invokevirtual 56, 3) rfl rfl) rfl wd_938 wd_149 (by decide) ⟨rfl, rfl, by decide, by decide⟩ hM wd_935 wd_937 wd_12 clf_7,
    st_istore_n hC (n := 63) (k := 3) (dc_X7_take 63 (195, .istore_n 3, 1) rfl rfl) rfl rfl (by decide),
    st_goto hC (n := 64) (dc_X7_take 64 (196, .goto 20, 3) rfl rfl) (by decide),
    st_aload_n hC (n := 65) (k := 0) (dc_X7_take 65 (199, .aload_n 0, 1) rfl rfl) rfl rfl,
    st_aload_n hC (n := 66) (k := 1) (dc_X7_take 66 (200, .aload_n 1, 1) rfl rfl) rfl rfl,
    st_callV hC (n := 67) (k := 7) (na := 1) (con_X7_readFair l) (dc_X7_take 67 (201, .invokevirtual 59, 3) rfl rfl) rfl wd_942 wd_149 (by decide) ⟨rfl, rfl, by decide, by decide⟩ hM wd_939 wd_941 wd_13 clf_7,
    st_istore_n hC (n := 68) (k := 3) (dc_X7_take 68 (204, .istore_n 3, 1) rfl rfl) rfl rfl (by decide),
    st_goto hC (n := 69) (dc_X7_take 69 (205, .goto 11, 3) rfl rfl) (by decide),
    st_aload_n hC (n := 70) (k := 0) (dc_X7_take 70 (208, .aload_n 0, 1) rfl rfl) rfl rfl,
    st_getC hC (n := 71) (k := 7) (j := 0) (dc_X7_take 71 (209, .getfield 18, 3) rfl rfl) rfl clf_7 (by decide) rfl (by decide) wd_277,
    st_callV hC (n := 72) (k := 4) (na := 0) (con_X4_misplaced l) (dc_X7_take 72 (212, .invokevirtual 62, 3) rfl rfl) rfl wd_887 wd_144 (by decide) ⟨rfl, rfl, by decide, by decide⟩ hM wd_943 wd_885 wd_886 clf_4,
    st_istore_n hC (n := 73) (k := 3) (dc_X7_take 73 (215, .istore_n 3, 1) rfl rfl) rfl rfl (by decide),
    st_iinc hC (n := 74) (x := 1) (dc_X7_take 74 (216, .iinc 4 1, 3) rfl rfl) rfl (by decide) (by decide),
    st_goto hC (n := 75) (dc_X7_take 75 (219, .goto (-192), 3) rfl rfl) (by decide),
    st_iload_n hC (n := 76) (k := 3) (dc_X7_take 76 (222, .iload_n 3, 1) rfl rfl) rfl rfl,
    st_ifeq hC (n := 77) (dc_X7_take 77 (223, .ifCond .eq 7, 3) rfl rfl) rfl (by decide),
    st_aload_n hC (n := 78) (k := 1) (dc_X7_take 78 (226, .aload_n 1, 1) rfl rfl) rfl rfl,
    st_callV hC (n := 79) (k := 6) (na := 0) (con_X6_complete l) (dc_X7_take 79 (227, .invokevirtual 66, 3) rfl rfl) rfl wd_947 wd_155 (by decide) ⟨rfl, rfl, by decide, by decide⟩ hM wd_944 wd_945 wd_946 clf_6,
    st_iload_n hC (n := 80) (k := 3) (dc_X7_take 80 (230, .iload_n 3, 1) rfl rfl) rfl rfl,
    st_zret hC (n := 81) hR (dc_X7_take 81 (231, .ireturn, 1) rfl rfl), trivial⟩
set_option maxRecDepth 8000 in
theorem vc_X7_take : VC P_X7_take 5 Pre_X7_take Fn_X7_take := by
  rintro mm as hom hoa ⟨g, n, F, hF, hF9, hn, rfl⟩
  refine ⟨Nat.le_of_ble_eq_true rfl, fun X h => ?_⟩
  replace h : RUN P_X7_take (RT (c7vC g mm (nI n))) X := h
  have hT0 : TXp (bg1 (mI (mI (vlM3 mm g) 7 0 1 0) 7 0 2 0) (nI n)) := TXp_b1 (F := F) hF hF9 hn
  have h0 : CJx (c7v0 g mm (nI n)) g := by
    obtain ⟨a, b, c, d⟩ := vl_n mm g
    exact ⟨0, 0, 0, 0, CJ_sp ⟨hT0, ⟨a, by decide⟩, ⟨b, by decide⟩, ⟨c, by decide⟩, ⟨d, by decide⟩⟩⟩
  unfold c7vC at h
  obtain ⟨M0, e0⟩ : ∃ M0, M0 = c7v0 g mm (nI n) := ⟨_, rfl⟩
  rw [← e0] at h h0
  have out : ∀ P p' M i, P = c7vE g p' → p' = (true, M) → CJx M g → RUN P_X7_take (RT P) X → X 76 [some (vR 7 0), some (vR 6 g), some (vI (nI n)), some (vI (1)), some (vI (i))] [] (M) := by
    intro P p' M i hP hp hM h
    obtain ⟨ns, nm, nt, na, hM⟩ := hM
    show X 76 [some (vR 7 0), some (vR 6 g), some (vI (nI n)), some (vI 1), some (vI i)] [] M
    refine h (fun _ => false) 3000 76 _ _ _ ?_
    refine br_f (show ¬ (1 = 0) from by decide) ?_
    refine And.intro (show Pre_X6_complete M [vR 6 g] from ⟨g, nt, hM.2.2.2.1.1, hM.2.2.2.1.2, rfl⟩) ?_
    refine And.intro (Or.inr rfl) ?_
    show ((some (vI 1) : Option MV), coM M g) = _
    exact PR_t (by rw [hP, hp]; rfl)
  have bad : ∀ P p' M i, P = c7vE g p' → p' = (false, M) → RUN P_X7_take (RT P) X → X 16 [some (vR 7 0), some (vR 6 g), some (vI (nI n)), some (vI (0)), some (vI (i))] [] (M) := by
    intro P p' M i hP hp h
    have s76 : ∀ i, X 76 [some (vR 7 0), some (vR 6 g), some (vI (nI n)), some (vI (0)), some (vI (i))] [] (M) := by
      intro i
      show X 76 [some (vR 7 0), some (vR 6 g), some (vI (nI n)), some (vI 0), some (vI i)] [] M
      refine h (fun _ => false) 3000 76 _ _ _ ?_
      refine br_t (show 0 = 0 from by decide) ?_
      refine And.intro (Or.inl rfl) ?_
      show ((some (vI 0) : Option MV), M) = _
      exact PR_f (by rw [hP, hp]; rfl)
    show X 16 [some (vR 7 0), some (vR 6 g), some (vI (nI n)), some (vI 0), some (vI i)] [] M
    refine h (fun i => Nat.beq i 76) 3000 16 _ _ _ ?_
    refine br_c (fun b18 => ?_) (fun b18 => ?_)
    · -- 18: 900 ≤ i taken
      replace b18 : 900 ≤ i := b18
      show X 76 [some (vR 7 0), some (vR 6 g), some (vI (nI n)), some (vI 0), some (vI i)] [] M
      exact s76 _
    · -- 18: 900 ≤ i on
      replace b18 : ¬ (900 ≤ i) := b18
      refine br_t (show 0 = 0 from by decide) ?_
      show X 76 [some (vR 7 0), some (vR 6 g), some (vI (nI n)), some (vI 0), some (vI i)] [] M
      exact s76 _
  have loop : ∀ i, i ≤ 900 → ∀ P p' M, CJx M g → P = c7vE g p' → p' = c7vL g (900 - i) M → RUN P_X7_take (RT P) X → X 16 [some (vR 7 0), some (vR 6 g), some (vI (nI n)), some (vI (1)), some (vI (nI i))] [] (M) := by
    refine up_ind 900 ?_ (fun i hi ih => ?_)
    · intro P p' M hM hP hp h
      rw [Nat.sub_self] at hp
      show X 16 [some (vR 7 0), some (vR 6 g), some (vI (nI n)), some (vI 1), some (vI (nI 900))] [] M
      refine h (fun i => Nat.beq i 76) 3000 16 _ _ _ ?_
      refine br_t (show 900 ≤ nI 900 from Int32.le_refl _) ?_
      show X 76 [some (vR 7 0), some (vR 6 g), some (vI (nI n)), some (vI 1), some (vI (nI 900))] [] M
      exact out _ _ _ _ hP hp hM h
    · intro P p' M hM hP hp h
      rw [show 900 - i = (900 - (i + 1)) + 1 by omega, c7vL] at hp
      have s74 : ∀ q : PR, p' = pBd q (c7vL g (900 - (i + 1))) → (q.1 = true → CJx q.2 g) → X 74 [some (vR 7 0), some (vR 6 g), some (vI (nI n)), some (vI (bI (q.1 = true))), some (vI (nI i))] [] (q.2) := by
        intro q hq hok
        by_cases c : q.1 = true
        · rw [pBd_t c] at hq
          have z := ih P p' q.2 (hok c) hP hq h
          rw [show bI (q.1 = true) = 1 from if_pos c]
          show X 74 [some (vR 7 0), some (vR 6 g), some (vI (nI n)), some (vI 1), some (vI (nI i))] [] q.2
          refine h (fun i => Nat.beq i 16) 3000 74 _ _ _ ?_
          show X 16 [some (vR 7 0), some (vR 6 g), some (vI (nI n)), some (vI 1), some (vI ((nI i) + 1))] [] q.2
          rw [nI_1]
          exact z
        · rw [pBd_f c] at hq
          have z := bad P p' q.2 (nI i + 1) hP hq h
          rw [show bI (q.1 = true) = 0 from if_neg c]
          show X 74 [some (vR 7 0), some (vR 6 g), some (vI (nI n)), some (vI 0), some (vI (nI i))] [] q.2
          refine h (fun i => Nat.beq i 16) 3000 74 _ _ _ ?_
          show X 16 [some (vR 7 0), some (vR 6 g), some (vI (nI n)), some (vI 0), some (vI ((nI i) + 1))] [] q.2
          exact z
      have s29 : p' = pBd (c7v1 g M) (c7vL g (900 - (i + 1))) → X 26 [some (vR 7 0), some (vR 6 g), some (vI (nI n)), some (vI (1)), some (vI (nI i))] [] (M) := by
        intro hq
        obtain ⟨ns, nm, nt, na, hJ⟩ := hM
        have mis : c7v1 g M = (false, miC M) → X 70 [some (vR 7 0), some (vR 6 g), some (vI (nI n)), some (vI (1)), some (vI (nI i))] [] (M) := by
          intro e
          have z := s74 _ hq (c7v1_ok ⟨ns, nm, nt, na, hJ⟩)
          rw [e] at z
          show X 70 [some (vR 7 0), some (vR 6 g), some (vI (nI n)), some (vI 1), some (vI (nI i))] [] M
          refine h (fun i => Nat.beq i 74) 3000 70 _ _ _ ?_
          refine And.intro (show Pre_X4_misplaced M [vR 4 0] from rfl) ?_
          show X 74 [some (vR 7 0), some (vR 6 g), some (vI (nI n)), some (vI 0), some (vI (nI i))] [] (miC M)
          exact z
        have z := s74 _ hq (c7v1_ok ⟨ns, nm, nt, na, hJ⟩)
        show X 26 [some (vR 7 0), some (vR 6 g), some (vI (nI n)), some (vI 1), some (vI (nI i))] [] M
        refine h (fun i => Nat.beq i 70 || Nat.beq i 74) 3000 26 _ _ _ ?_
        refine And.intro ⟨fun b29 => ?_, fun b29 => ?_, fun b29 => ?_, fun b29 => ?_, fun b29 => ?_, fun b29 => ?_, fun b29 => ?_, fun b29 => ?_, fun b29 => ?_, fun b29 => ?_, fun b29 => ?_, fun b29 => ?_, fun b29 => ?_, fun b29 => ?_, fun b29 => ?_, fun b29 => ?_, trivial⟩ ?_
        · replace b29 : M.1 4 0 6 = 0 := b29
          rw [kk_0 b29] at z
          refine And.intro (show Pre_X7_readSuitor M [vR 7 0, vR 6 g] from ⟨g, ns, nm, nt, na, hJ, rfl⟩) ?_
          show X 74 [some (vR 7 0), some (vR 6 g), some (vI (nI n)), some (vI (bI ((c7sC g M).1 = true))), some (vI (nI i))] [] ((c7sC g M).2)
          exact z
        · replace b29 : M.1 4 0 6 = 1 := b29
          have e := kk_m (g := g) (show ¬ M.1 4 0 6 = 0 by rw [b29]; decide) (show ¬ M.1 4 0 6 = 3 by rw [b29]; decide) (show ¬ M.1 4 0 6 = 7 by rw [b29]; decide) (show ¬ M.1 4 0 6 = 10 by rw [b29]; decide) (show ¬ M.1 4 0 6 = 12 by rw [b29]; decide) (show ¬ M.1 4 0 6 = 13 by rw [b29]; decide) (show ¬ M.1 4 0 6 = 14 by rw [b29]; decide) (show ¬ M.1 4 0 6 = 15 by rw [b29]; decide)
          show X 70 [some (vR 7 0), some (vR 6 g), some (vI (nI n)), some (vI 1), some (vI (nI i))] [] M
          exact mis e
        · replace b29 : M.1 4 0 6 = 2 := b29
          have e := kk_m (g := g) (show ¬ M.1 4 0 6 = 0 by rw [b29]; decide) (show ¬ M.1 4 0 6 = 3 by rw [b29]; decide) (show ¬ M.1 4 0 6 = 7 by rw [b29]; decide) (show ¬ M.1 4 0 6 = 10 by rw [b29]; decide) (show ¬ M.1 4 0 6 = 12 by rw [b29]; decide) (show ¬ M.1 4 0 6 = 13 by rw [b29]; decide) (show ¬ M.1 4 0 6 = 14 by rw [b29]; decide) (show ¬ M.1 4 0 6 = 15 by rw [b29]; decide)
          show X 70 [some (vR 7 0), some (vR 6 g), some (vI (nI n)), some (vI 1), some (vI (nI i))] [] M
          exact mis e
        · replace b29 : M.1 4 0 6 = 3 := b29
          rw [kk_3 b29] at z
          refine And.intro (show Pre_X7_readMaid M [vR 7 0, vR 6 g] from ⟨g, ns, nm, nt, na, hJ, rfl⟩) ?_
          show X 74 [some (vR 7 0), some (vR 6 g), some (vI (nI n)), some (vI (bI ((c7mC g M).1 = true))), some (vI (nI i))] [] ((c7mC g M).2)
          exact z
        · replace b29 : M.1 4 0 6 = 4 := b29
          have e := kk_m (g := g) (show ¬ M.1 4 0 6 = 0 by rw [b29]; decide) (show ¬ M.1 4 0 6 = 3 by rw [b29]; decide) (show ¬ M.1 4 0 6 = 7 by rw [b29]; decide) (show ¬ M.1 4 0 6 = 10 by rw [b29]; decide) (show ¬ M.1 4 0 6 = 12 by rw [b29]; decide) (show ¬ M.1 4 0 6 = 13 by rw [b29]; decide) (show ¬ M.1 4 0 6 = 14 by rw [b29]; decide) (show ¬ M.1 4 0 6 = 15 by rw [b29]; decide)
          show X 70 [some (vR 7 0), some (vR 6 g), some (vI (nI n)), some (vI 1), some (vI (nI i))] [] M
          exact mis e
        · replace b29 : M.1 4 0 6 = 5 := b29
          have e := kk_m (g := g) (show ¬ M.1 4 0 6 = 0 by rw [b29]; decide) (show ¬ M.1 4 0 6 = 3 by rw [b29]; decide) (show ¬ M.1 4 0 6 = 7 by rw [b29]; decide) (show ¬ M.1 4 0 6 = 10 by rw [b29]; decide) (show ¬ M.1 4 0 6 = 12 by rw [b29]; decide) (show ¬ M.1 4 0 6 = 13 by rw [b29]; decide) (show ¬ M.1 4 0 6 = 14 by rw [b29]; decide) (show ¬ M.1 4 0 6 = 15 by rw [b29]; decide)
          show X 70 [some (vR 7 0), some (vR 6 g), some (vI (nI n)), some (vI 1), some (vI (nI i))] [] M
          exact mis e
        · replace b29 : M.1 4 0 6 = 6 := b29
          have e := kk_m (g := g) (show ¬ M.1 4 0 6 = 0 by rw [b29]; decide) (show ¬ M.1 4 0 6 = 3 by rw [b29]; decide) (show ¬ M.1 4 0 6 = 7 by rw [b29]; decide) (show ¬ M.1 4 0 6 = 10 by rw [b29]; decide) (show ¬ M.1 4 0 6 = 12 by rw [b29]; decide) (show ¬ M.1 4 0 6 = 13 by rw [b29]; decide) (show ¬ M.1 4 0 6 = 14 by rw [b29]; decide) (show ¬ M.1 4 0 6 = 15 by rw [b29]; decide)
          show X 70 [some (vR 7 0), some (vR 6 g), some (vI (nI n)), some (vI 1), some (vI (nI i))] [] M
          exact mis e
        · replace b29 : M.1 4 0 6 = 7 := b29
          rw [kk_7 b29] at z
          refine And.intro (show Pre_X7_readThing M [vR 7 0, vR 6 g] from ⟨g, ns, nm, nt, na, hJ, rfl⟩) ?_
          show X 74 [some (vR 7 0), some (vR 6 g), some (vI (nI n)), some (vI (bI ((c7tC g M).1 = true))), some (vI (nI i))] [] ((c7tC g M).2)
          exact z
        · replace b29 : M.1 4 0 6 = 8 := b29
          have e := kk_m (g := g) (show ¬ M.1 4 0 6 = 0 by rw [b29]; decide) (show ¬ M.1 4 0 6 = 3 by rw [b29]; decide) (show ¬ M.1 4 0 6 = 7 by rw [b29]; decide) (show ¬ M.1 4 0 6 = 10 by rw [b29]; decide) (show ¬ M.1 4 0 6 = 12 by rw [b29]; decide) (show ¬ M.1 4 0 6 = 13 by rw [b29]; decide) (show ¬ M.1 4 0 6 = 14 by rw [b29]; decide) (show ¬ M.1 4 0 6 = 15 by rw [b29]; decide)
          show X 70 [some (vR 7 0), some (vR 6 g), some (vI (nI n)), some (vI 1), some (vI (nI i))] [] M
          exact mis e
        · replace b29 : M.1 4 0 6 = 9 := b29
          have e := kk_m (g := g) (show ¬ M.1 4 0 6 = 0 by rw [b29]; decide) (show ¬ M.1 4 0 6 = 3 by rw [b29]; decide) (show ¬ M.1 4 0 6 = 7 by rw [b29]; decide) (show ¬ M.1 4 0 6 = 10 by rw [b29]; decide) (show ¬ M.1 4 0 6 = 12 by rw [b29]; decide) (show ¬ M.1 4 0 6 = 13 by rw [b29]; decide) (show ¬ M.1 4 0 6 = 14 by rw [b29]; decide) (show ¬ M.1 4 0 6 = 15 by rw [b29]; decide)
          show X 70 [some (vR 7 0), some (vR 6 g), some (vI (nI n)), some (vI 1), some (vI (nI i))] [] M
          exact mis e
        · replace b29 : M.1 4 0 6 = 10 := b29
          rw [kk_10 b29] at z
          refine And.intro (show Pre_X7_readSays M [vR 7 0, vR 6 g] from ⟨g, ns, nm, nt, na, hJ, rfl⟩) ?_
          show X 74 [some (vR 7 0), some (vR 6 g), some (vI (nI n)), some (vI (bI ((c7yC g M).1 = true))), some (vI (nI i))] [] ((c7yC g M).2)
          exact z
        · replace b29 : M.1 4 0 6 = 11 := b29
          have e := kk_m (g := g) (show ¬ M.1 4 0 6 = 0 by rw [b29]; decide) (show ¬ M.1 4 0 6 = 3 by rw [b29]; decide) (show ¬ M.1 4 0 6 = 7 by rw [b29]; decide) (show ¬ M.1 4 0 6 = 10 by rw [b29]; decide) (show ¬ M.1 4 0 6 = 12 by rw [b29]; decide) (show ¬ M.1 4 0 6 = 13 by rw [b29]; decide) (show ¬ M.1 4 0 6 = 14 by rw [b29]; decide) (show ¬ M.1 4 0 6 = 15 by rw [b29]; decide)
          show X 70 [some (vR 7 0), some (vR 6 g), some (vI (nI n)), some (vI 1), some (vI (nI i))] [] M
          exact mis e
        · replace b29 : M.1 4 0 6 = 12 := b29
          rw [kk_12 b29] at z
          refine And.intro (show Pre_X7_readAfter M [vR 7 0, vR 6 g] from ⟨g, ns, nm, nt, na, hJ, rfl⟩) ?_
          show X 74 [some (vR 7 0), some (vR 6 g), some (vI (nI n)), some (vI (bI ((c7aC g M).1 = true))), some (vI (nI i))] [] ((c7aC g M).2)
          exact z
        · replace b29 : M.1 4 0 6 = 13 := b29
          rw [kk_13 b29] at z
          refine And.intro (show Pre_X7_readLikes M [vR 7 0, vR 6 g] from ⟨g, ns, nm, nt, na, hJ, rfl⟩) ?_
          show X 74 [some (vR 7 0), some (vR 6 g), some (vI (nI n)), some (vI (bI ((c7lC g M).1 = true))), some (vI (nI i))] [] ((c7lC g M).2)
          exact z
        · replace b29 : M.1 4 0 6 = 14 := b29
          rw [kk_14 b29] at z
          refine And.intro (show Pre_X7_readWeekly M [vR 7 0, vR 6 g] from ⟨hJ.1, g, rfl⟩) ?_
          show X 74 [some (vR 7 0), some (vR 6 g), some (vI (nI n)), some (vI (bI ((c7wC g M).1 = true))), some (vI (nI i))] [] ((c7wC g M).2)
          exact z
        · replace b29 : M.1 4 0 6 = 15 := b29
          rw [kk_15 b29] at z
          refine And.intro (show Pre_X7_readFair M [vR 7 0, vR 6 g] from ⟨hJ.1, g, rfl⟩) ?_
          show X 74 [some (vR 7 0), some (vR 6 g), some (vI (nI n)), some (vI (bI ((c7fC g M).1 = true))), some (vI (nI i))] [] ((c7fC g M).2)
          exact z
        · intro b29
          have n29_0 : ¬ M.1 4 0 6 = 0 := b29 (0, 30) (by decide)
          have n29_1 : ¬ M.1 4 0 6 = 1 := b29 (1, 70) (by decide)
          have n29_2 : ¬ M.1 4 0 6 = 2 := b29 (2, 70) (by decide)
          have n29_3 : ¬ M.1 4 0 6 = 3 := b29 (3, 35) (by decide)
          have n29_4 : ¬ M.1 4 0 6 = 4 := b29 (4, 70) (by decide)
          have n29_5 : ¬ M.1 4 0 6 = 5 := b29 (5, 70) (by decide)
          have n29_6 : ¬ M.1 4 0 6 = 6 := b29 (6, 70) (by decide)
          have n29_7 : ¬ M.1 4 0 6 = 7 := b29 (7, 40) (by decide)
          have n29_8 : ¬ M.1 4 0 6 = 8 := b29 (8, 70) (by decide)
          have n29_9 : ¬ M.1 4 0 6 = 9 := b29 (9, 70) (by decide)
          have n29_10 : ¬ M.1 4 0 6 = 10 := b29 (10, 45) (by decide)
          have n29_11 : ¬ M.1 4 0 6 = 11 := b29 (11, 70) (by decide)
          have n29_12 : ¬ M.1 4 0 6 = 12 := b29 (12, 50) (by decide)
          have n29_13 : ¬ M.1 4 0 6 = 13 := b29 (13, 55) (by decide)
          have n29_14 : ¬ M.1 4 0 6 = 14 := b29 (14, 60) (by decide)
          have n29_15 : ¬ M.1 4 0 6 = 15 := b29 (15, 65) (by decide)
          show X 70 [some (vR 7 0), some (vR 6 g), some (vI (nI n)), some (vI 1), some (vI (nI i))] [] M
          exact mis (kk_m n29_0 n29_3 n29_7 n29_10 n29_12 n29_13 n29_14 n29_15)
      show X 16 [some (vR 7 0), some (vR 6 g), some (vI (nI n)), some (vI 1), some (vI (nI i))] [] M
      refine h (fun i => Nat.beq i 26 || Nat.beq i 76) 3000 16 _ _ _ ?_
      refine br_f (show ¬ (900 ≤ nI i) from show ¬ nI 900 ≤ nI i from nI_ge hi (by omega)) ?_
      refine br_f (show ¬ (1 = 0) from by decide) ?_
      refine br_c (fun b25 => ?_) (fun b25 => ?_)
      · -- 25: M.1 4 0 6 = 37 taken
        replace b25 : M.1 4 0 6 = 37 := b25
        show X 76 [some (vR 7 0), some (vR 6 g), some (vI (nI n)), some (vI 1), some (vI (nI i))] [] M
        rw [if_pos b25] at hp
        exact out _ _ _ _ hP hp hM h
      · -- 25: M.1 4 0 6 = 37 on
        replace b25 : ¬ (M.1 4 0 6 = 37) := b25
        show X 26 [some (vR 7 0), some (vR 6 g), some (vI (nI n)), some (vI 1), some (vI (nI i))] [] M
        rw [if_neg b25] at hp
        exact s29 hp
  have l0 := loop 0 (by omega) _ _ M0 h0 rfl rfl h
  rw [e0] at l0
  show X 0 [some (vR 7 0), some (vR 6 g), some (vI (nI n)), none, none] [] mm
  refine h (fun i => Nat.beq i 16) 3000 0 _ _ _ ?_
  refine And.intro (show Pre_X6_clear mm [vR 6 g] from ⟨g, rfl⟩) ?_
  refine And.intro (Or.inl rfl) ?_
  refine And.intro (Or.inl rfl) ?_
  refine And.intro (show Pre_X4_begin (mI (mI (vlM3 mm g) 7 0 1 0) 7 0 2 0) [vR 4 0, vI (nI n)] from ⟨n, F, hF, hF9, hn, rfl⟩) ?_
  show X 16 [some (vR 7 0), some (vR 6 g), some (vI (nI n)), some (vI 1), some (vI 0)] [] (bgC (mI (mI (vlM3 mm g) 7 0 1 0) 7 0 2 0) (nI n))
  exact l0
theorem con_X7_take (l : Launch) : CON l y_X7_take prog_9_method_2_code 5 (some .boolean) rm_X7_take Pre_X7_take Fn_X7_take := CON_of (by decide) rfl rfl (sa_X7_take l) vc_X7_take
