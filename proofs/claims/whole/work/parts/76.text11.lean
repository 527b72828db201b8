/-! PART 76: the class: deeds of years -/

/-- what was read into a column of a line -/
def c10P (k g L : Nat) (p : Int32 × MM) : PR := (!decide (p.1 < 0), mRow p.2 k g (upd (p.2.1 k g) L p.1))
theorem c10P_t {k g L : Nat} {p : Int32 × MM} (h : ¬ p.1 < 0) : c10P k g L p = (true, mRow p.2 k g (upd (p.2.1 k g) L p.1)) := by unfold c10P; rw [decide_eq_false h]; rfl
theorem c10P_f {k g L : Nat} {p : Int32 × MM} (h : p.1 < 0) : c10P k g L p = (false, mRow p.2 k g (upd (p.2.1 k g) L p.1)) := by unfold c10P; rw [decide_eq_true h]; rfl
def c10d3 (g v L : Nat) (m : MM) : PR := c10P 45 g L (meC m v 4 (m.1 6 v 14).toNatClampNeg)
def c10d2 (g v L : Nat) (m : MM) : PR := pBd (skC m 20) (c10d3 g v L)
def c10d1 (g v L : Nat) (m : MM) (a : Int32) : PR := if a = 16 ∨ a = 21 ∨ a = 22 then c10P 44 g L (meC m v 8 (m.1 6 v 15).toNatClampNeg) else if a = 17 then c10P 44 g L (meC m v 0 (m.1 6 v 13).toNatClampNeg) else if a = 19 then pBd (c10P 44 g L (meC m v 0 (m.1 6 v 13).toNatClampNeg)) (c10d2 g v L) else if a = 27 then c10P 47 g L (amC m 1 99) else (true, m)
theorem c10_16 {g v L : Nat} {m : MM} {a : Int32} (e : a = 16 ∨ a = 21 ∨ a = 22) : c10d1 g v L m a = c10P 44 g L (meC m v 8 (m.1 6 v 15).toNatClampNeg) := if_pos e
theorem c10_17 {g v L : Nat} {m : MM} {a : Int32} (e : a = 17) : c10d1 g v L m a = c10P 44 g L (meC m v 0 (m.1 6 v 13).toNatClampNeg) := by
  unfold c10d1; rw [if_neg (by rw [e]; decide), if_pos e]
theorem c10_19 {g v L : Nat} {m : MM} {a : Int32} (e : a = 19) : c10d1 g v L m a = pBd (c10P 44 g L (meC m v 0 (m.1 6 v 13).toNatClampNeg)) (c10d2 g v L) := by
  unfold c10d1; rw [if_neg (by rw [e]; decide), if_neg (by rw [e]; decide), if_pos e]
theorem c10_27 {g v L : Nat} {m : MM} {a : Int32} (e : a = 27) : c10d1 g v L m a = c10P 47 g L (amC m 1 99) := by
  unfold c10d1; rw [if_neg (by rw [e]; decide), if_neg (by rw [e]; decide), if_neg (by rw [e]; decide), if_pos e]
theorem c10_o {g v L : Nat} {m : MM} {a : Int32} (n1 : ¬ (a = 16 ∨ a = 21 ∨ a = 22)) (n2 : ¬ a = 17) (n3 : ¬ a = 19) (n4 : ¬ a = 27) : c10d1 g v L m a = (true, m) := by
  unfold c10d1; rw [if_neg n1, if_neg n2, if_neg n3, if_neg n4]
def c10d (g v : Nat) (m : MM) : PR := c10d1 g v (m.1 9 g 8).toNatClampNeg m (m.1 43 g (m.1 9 g 8).toNatClampNeg)

--tpl ⟨_, _, _, _, _, _, by assumption, by assumption, by omega, rfl⟩ || bI ((c10d {g1} {g2} {m}).1 = true) || (c10d {g1} {g2} {m}).2
def Pre_X10_readDeed : PreT := fun m as => ∃ g v ns nm nt na L : Nat, CJ m v ns nm nt na ∧ m.1 9 g 8 = nI L ∧ L < 60 ∧ as = [vR 10 0, vR 9 g, vR 6 v]
def Fn_X10_readDeed : FnT := fun m as => match as with
  | [_, Sum.inr (Sum.inr q), Sum.inr (Sum.inr r)] => (some (vI (bI ((c10d q.2 r.2 m).1 = true))), (c10d q.2 r.2 m).2)
  | _ => (none, m)
abbrev y_X10_readDeed : MethodName := ⟨"GivenUp$YearsReader", "readDeed", "(LGivenUp$Years;LGivenUp$Valley;)Z"⟩
def P_X10_readDeed : List StpT := [s_aload 1, s_getI 9 8, s_istore 3, s_aload 1, s_getR 9 0 43, s_iload 3, s_iald, s_sw (tsw (16) [8, 29, 113, 50, 113, 8, 8, 113, 113, 113, 113, 95]) 113, s_aload 1, s_getR 9 1 44, s_iload 3, s_aload 0, s_getC 10 0 4 0, s_aload 2, s_getR 6 0 29, s_ic (8), s_aload 2, s_getI 6 15, s_callV 4 3 Pre_X4_member Fn_X4_member, s_iast, s_aload 1, s_getR 9 1 44, s_iload 3, s_iald, s_iflt 27, s_ic (1), s_goto 28, s_ic (0), s_zret, s_aload 1, s_getR 9 1 44, s_iload 3, s_aload 0, s_getC 10 0 4 0, s_aload 2, s_getR 6 0 29, s_ic (0), s_aload 2, s_getI 6 13, s_callV 4 3 Pre_X4_member Fn_X4_member, s_iast, s_aload 1, s_getR 9 1 44, s_iload 3, s_iald, s_iflt 48, s_ic (1), s_goto 49, s_ic (0), s_zret, s_aload 1, s_getR 9 1 44, s_iload 3, s_aload 0, s_getC 10 0 4 0, s_aload 2, s_getR 6 0 29, s_ic (0), s_aload 2, s_getI 6 13, s_callV 4 3 Pre_X4_member Fn_X4_member, s_iast, s_aload 1, s_getR 9 1 44, s_iload 3, s_iald, s_iflt 72, s_aload 0, s_getC 10 0 4 0, s_ic (20), s_callV 4 1 Pre_X4_skip Fn_X4_skip, s_ifne 74, s_ic (0), s_zret, s_aload 1, s_getR 9 2 45, s_iload 3, s_aload 0, s_getC 10 0 4 0, s_aload 2, s_getR 6 0 29, s_ic (4), s_aload 2, s_getI 6 14, s_callV 4 3 Pre_X4_member Fn_X4_member, s_iast, s_aload 1, s_getR 9 2 45, s_iload 3, s_iald, s_iflt 93, s_ic (1), s_goto 94, s_ic (0), s_zret, s_aload 1, s_getR 9 4 47, s_iload 3, s_aload 0, s_getC 10 0 4 0, s_ic (1), s_ic (99), s_callV 4 2 Pre_X4_amount Fn_X4_amount, s_iast, s_aload 1, s_getR 9 4 47, s_iload 3, s_iald, s_iflt 111, s_ic (1), s_goto 112, s_ic (0), s_zret, s_ic (1), s_zret]
def pc_X10_readDeed : Nat → Nat := fun i => [0, 1, 4, 5, 6, 9, 10, 11, 72, 73, 76, 77, 78, 81, 82, 85, 87, 88, 91, 94, 95, 96, 99, 100, 101, 104, 105, 108, 109, 110, 111, 114, 115, 116, 119, 120, 123, 124, 125, 128, 131, 132, 133, 136, 137, 138, 141, 142, 145, 146, 147, 148, 151, 152, 153, 156, 157, 160, 161, 162, 165, 168, 169, 170, 173, 174, 175, 178, 179, 182, 184, 187, 190, 191, 192, 193, 196, 197, 198, 201, 202, 205, 206, 207, 210, 213, 214, 215, 218, 219, 220, 223, 224, 227, 228, 229, 230, 233, 234, 235, 238, 239, 241, 244, 245, 246, 249, 250, 251, 254, 255, 258, 259, 260, 261].getD i 0
def dl_X10_readDeed : List (Nat × Instr × Nat) := [(0, .aload_n 1, 1), (1, .getfield 53, 3), (4, .istore_n 3, 1), (5, .aload_n 1, 1), (6, .getfield 63, 3), (9, .iload_n 3, 1), (10, .iaload, 1), (11, .tableswitch 249 16 27 #[61, 99, 249, 136, 249, 61, 61, 249, 249, 249, 249, 218], 61), (72, .aload_n 1, 1), (73, .getfield 84, 3), (76, .iload_n 3, 1), (77, .aload_n 0, 1), (78, .getfield 19, 3), (81, .aload_n 2, 1), (82, .getfield 87, 3), (85, .bipush 8, 2), (87, .aload_n 2, 1), (88, .getfield 93, 3), (91, .invokevirtual 96, 3), (94, .iastore, 1), (95, .aload_n 1, 1), (96, .getfield 84, 3), (99, .iload_n 3, 1), (100, .iaload, 1), (101, .ifCond .lt 7, 3), (104, .iconst 1, 1), (105, .goto 4, 3), (108, .iconst 0, 1), (109, .ireturn, 1), (110, .aload_n 1, 1), (111, .getfield 84, 3), (114, .iload_n 3, 1), (115, .aload_n 0, 1), (116, .getfield 19, 3), (119, .aload_n 2, 1), (120, .getfield 87, 3), (123, .iconst 0, 1), (124, .aload_n 2, 1), (125, .getfield 100, 3), (128, .invokevirtual 96, 3), (131, .iastore, 1), (132, .aload_n 1, 1), (133, .getfield 84, 3), (136, .iload_n 3, 1), (137, .iaload, 1), (138, .ifCond .lt 7, 3), (141, .iconst 1, 1), (142, .goto 4, 3), (145, .iconst 0, 1), (146, .ireturn, 1), (147, .aload_n 1, 1), (148, .getfield 84, 3), (151, .iload_n 3, 1), (152, .aload_n 0, 1), (153, .getfield 19, 3), (156, .aload_n 2, 1), (157, .getfield 87, 3), (160, .iconst 0, 1), (161, .aload_n 2, 1), (162, .getfield 100, 3), (165, .invokevirtual 96, 3), (168, .iastore, 1), (169, .aload_n 1, 1), (170, .getfield 84, 3), (173, .iload_n 3, 1), (174, .iaload, 1), (175, .ifCond .lt 15, 3), (178, .aload_n 0, 1), (179, .getfield 19, 3), (182, .bipush 20, 2), (184, .invokevirtual 59, 3), (187, .ifCond .ne 5, 3), (190, .iconst 0, 1), (191, .ireturn, 1), (192, .aload_n 1, 1), (193, .getfield 103, 3), (196, .iload_n 3, 1), (197, .aload_n 0, 1), (198, .getfield 19, 3), (201, .aload_n 2, 1), (202, .getfield 87, 3), (205, .iconst 4, 1), (206, .aload_n 2, 1), (207, .getfield 106, 3), (210, .invokevirtual 96, 3), (213, .iastore, 1), (214, .aload_n 1, 1), (215, .getfield 103, 3), (218, .iload_n 3, 1), (219, .iaload, 1), (220, .ifCond .lt 7, 3), (223, .iconst 1, 1), (224, .goto 4, 3), (227, .iconst 0, 1), (228, .ireturn, 1), (229, .aload_n 1, 1), (230, .getfield 109, 3), (233, .iload_n 3, 1), (234, .aload_n 0, 1), (235, .getfield 19, 3), (238, .iconst 1, 1), (239, .bipush 99, 2), (241, .invokevirtual 112, 3), (244, .iastore, 1), (245, .aload_n 1, 1), (246, .getfield 109, 3), (249, .iload_n 3, 1), (250, .iaload, 1), (251, .ifCond .lt 7, 3), (254, .iconst 1, 1), (255, .goto 4, 3), (258, .iconst 0, 1), (259, .ireturn, 1), (260, .iconst 1, 1), (261, .ireturn, 1)]
theorem dc_X10_readDeed : DEC prog_12_method_6_code pc_X10_readDeed dl_X10_readDeed := DEC_of (by decide +kernel)
abbrev rm_X10_readDeed : Room := { frames := 4, cells := 0, slots := 0, locals := 89 }
set_option maxRecDepth 20000 in
theorem sa_X10_readDeed (l : Launch) : SNDALL l prog_12_method_6_code "GivenUp$YearsReader" 4 (some .boolean) rm_X10_readDeed P_X10_readDeed pc_X10_readDeed := fun p e s m args below meth c cells slots Q D dA ad A RR hC hR => by
  have hM := RTX_room (R := rm_X10_readDeed) hR
  exact ⟨st_aload_n hC (n := 0) (k := 1) (dc_X10_readDeed 0 (0, .aload_n 1, 1) rfl rfl) rfl rfl,
    st_getI hC (n := 1) (k := 9) (j := 8) (dc_X10_readDeed 1 (1, .getfield 53, 3) rfl rfl) rfl clf_9 (by decide) rfl wd_536,
    st_istore_n hC (n := 2) (k := 3) (dc_X10_readDeed 2 (4, .istore_n 3, 1) rfl rfl) rfl rfl (by decide),
    st_aload_n hC (n := 3) (k := 1) (dc_X10_readDeed 3 (5, .aload_n 1, 1) rfl rfl) rfl rfl,
    st_getR hC (n := 4) (k := 9) (j := 0) (dc_X10_readDeed 4 (6, .getfield 63, 3) rfl rfl) rfl clf_9 (by decide) rfl (by decide) wd_512,
    st_iload_n hC (n := 5) (k := 3) (dc_X10_readDeed 5 (9, .iload_n 3, 1) rfl rfl) rfl rfl,
    st_iald hC (n := 6) (dc_X10_readDeed 6 (10, .iaload, 1) rfl rfl) rfl,
    st_table hC (n := 7) (ts := [8, 29, 113, 50, 113, 8, 8, 113, 113, 113, 113, 95]) (dc_X10_readDeed 7 (11, .tableswitch 249 16 27 #[61, 99, 249, 136, 249, 61, 61, 249, 249, 249, 249, 218], 61) rfl rfl) (by decide) (by decide) (by decide) (by decide) (swt_of _ _ _ (by decide +kernel)),
    st_aload_n hC (n := 8) (k := 1) (dc_X10_readDeed 8 (72, .aload_n 1, 1) rfl rfl) rfl rfl,
    st_getR hC (n := 9) (k := 9) (j := 1) (dc_X10_readDeed 9 (73, .getfield 84, 3) rfl rfl) rfl clf_9 (by decide) rfl (by decide) wd_515,
    st_iload_n hC (n := 10) (k := 3) (dc_X10_readDeed 10 (76, .iload_n 3, 1) rfl rfl) rfl rfl,
    st_aload_n hC (n := 11) (k := 0) (dc_X10_readDeed 11 (77, .aload_n 0, 1) rfl rfl) rfl rfl,
    st_getC hC (n := 12) (k := 10) (j := 0) (dc_X10_readDeed 12 (78, .getfield 19, 3) rfl rfl) rfl clf_10 (by decide) rfl (by decide) wd_293,
    st_aload_n hC (n := 13) (k := 2) (dc_X10_readDeed 13 (81, .aload_n 2, 1) rfl rfl) rfl rfl,
    st_getR hC (n := 14) (k := 6) (j := 0) (dc_X10_readDeed 14 (82, .getfield 87, 3) rfl rfl) rfl clf_6 (by decide) rfl (by decide) wd_577,
    st_bipush hC (n := 15) (x := 8) (dc_X10_readDeed 15 (85, .bipush 8, 2) rfl rfl) rfl (by decide),
    st_aload_n hC (n := 16) (k := 2) (dc_X10_readDeed 16 (87, .aload_n 2, 1) rfl rfl) rfl rfl,
    st_getI hC (n := 17) (k := 6) (j := 15) (dc_X10_readDeed 17 (88, .getfield 93, 3) rfl rfl) rfl clf_6 (by decide) rfl wd_632,
    st_callV hC (n := 18) (k := 4) (na := 3) (con_X4_member l) (dc_X10_readDeed 18 (91, .invokevirtual 96, 3) rfl rfl) rfl wd_913 wd_144 (by decide) ⟨rfl, rfl, by decide, by decide⟩ hM wd_997 wd_911 wd_912 clf_4,
    st_iast hC (n := 19) (dc_X10_readDeed 19 (94, .iastore, 1) rfl rfl) rfl,
    st_aload_n hC (n := 20) (k := 1) (dc_X10_readDeed 20 (95, .aload_n 1, 1) rfl rfl) rfl rfl,
    st_getR hC (n := 21) (k := 9) (j := 1) (dc_X10_readDeed 21 (96, .getfield 84, 3) rfl rfl) rfl clf_9 (by decide) rfl (by decide) wd_515,
    st_iload_n hC (n := 22) (k := 3) (dc_X10_readDeed 22 (99, .iload_n 3, 1) rfl rfl) rfl rfl,
    st_iald hC (n := 23) (dc_X10_readDeed 23 (100, .iaload, 1) rfl rfl) rfl,
    st_iflt hC (n := 24) (dc_X10_readDeed 24 (101, .ifCond .lt 7, 3) rfl rfl) rfl (by decide),
    st_iconst hC (n := 25) (x := 1) (dc_X10_readDeed 25 (104, .iconst 1, 1) rfl rfl) rfl (by decide),
    st_goto hC (n := 26) (dc_X10_readDeed 26 (105, .goto 4, 3) rfl rfl) (by decide),
    st_iconst hC (n := 27) (x := 0) (dc_X10_readDeed 27 (108, .iconst 0, 1) rfl rfl) rfl (by decide),
    st_zret hC (n := 28) hR (dc_X10_readDeed 28 (109, .ireturn, 1) rfl rfl),
    st_aload_n hC (n := 29) (k := 1) (dc_X10_readDeed 29 (110, .aload_n 1, 1) rfl rfl) rfl rfl,
    st_getR hC (n := 30) (k := 9) (j := 1) (dc_X10_readDeed 30 (111, .getfield 84, 3) rfl rfl) rfl clf_9 (by decide) rfl (by decide) wd_515,
    st_iload_n hC (n := 31) (k := 3) (dc_X10_readDeed 31 (114, .iload_n 3, 1) rfl rfl) rfl rfl,
    st_aload_n hC (n := 32) (k := 0) (dc_X10_readDeed 32 (115, .aload_n 0, 1) rfl rfl) rfl rfl,
    st_getC hC (n := 33) (k := 10) (j := 0) (dc_X10_readDeed 33 (116, .getfield 19, 3) rfl rfl) rfl clf_10 (by decide) rfl (by decide) wd_293,
    st_aload_n hC (n := 34) (k := 2) (dc_X10_readDeed 34 (119, .aload_n 2, 1) rfl rfl) rfl rfl,
    st_getR hC (n := 35) (k := 6) (j := 0) (dc_X10_readDeed 35 (120, .getfield 87, 3) rfl rfl) rfl clf_6 (by decide) rfl (by decide) wd_577,
    st_iconst hC (n := 36) (x := 0) (dc_X10_readDeed 36 (123, .iconst 0, 1) rfl rfl) rfl (by decide),
    st_aload_n hC (n := 37) (k := 2) (dc_X10_readDeed 37 (124, .aload_n 2, 1) rfl rfl) rfl rfl,
    st_getI hC (n := 38) (k := 6) (j := 13) (dc_X10_readDeed 38 (125, .getfield 100, 3) rfl rfl) rfl clf_6 (by decide) rfl wd_621,
    st_callV hC (n := 39) (k := 4) (na := 3) (con_X4_member l) (dc_X10_readDeed 39 (128, .invokevirtual 96, 3) rfl rfl) rfl wd_913 wd_144 (by decide) ⟨rfl, rfl, by decide, by decide⟩ hM wd_997 wd_911 wd_912 clf_4,
    st_iast hC (n := 40) (dc_X10_readDeed 40 (131, .iastore, 1) rfl rfl) rfl,
    st_aload_n hC (n := 41) (k := 1) (dc_X10_readDeed 41 (132, .aload_n 1, 1) rfl rfl) rfl rfl,
    st_getR hC (n := 42) (k := 9) (j := 1) (dc_X10_readDeed 42 (133, .getfield 84, 3) rfl rfl) rfl clf_9 (by decide) rfl (by decide) wd_515,
    st_iload_n hC (n := 43) (k := 3) (dc_X10_readDeed 43 (136, .iload_n 3, 1) rfl rfl) rfl rfl,
    st_iald hC (n := 44) (dc_X10_readDeed 44 (137, .iaload, 1) rfl rfl) rfl,
    st_iflt hC (n := 45) (dc_X10_readDeed 45 (138, .ifCond .lt 7, 3) rfl rfl) rfl (by decide),
    st_iconst hC (n := 46) (x := 1) (dc_X10_readDeed 46 (141, .iconst 1, 1) rfl rfl) rfl (by decide),
    st_goto hC (n := 47) (dc_X10_readDeed 47 (142, .goto 4, 3) rfl rfl) (by decide),
    st_iconst hC (n := 48) (x := 0) (dc_X10_readDeed 48 (145, .iconst 0, 1) rfl rfl) rfl (by decide),
    st_zret hC (n := 49) hR (dc_X10_readDeed 49 (146, .ireturn, 1) rfl rfl),
    st_aload_n hC (n := 50) (k := 1) (dc_X10_readDeed 50 (147, .aload_n 1, 1) rfl rfl) rfl rfl,
    st_getR hC (n := 51) (k := 9) (j := 1) (dc_X10_readDeed 51 (148, .getfield 84, 3) rfl rfl) rfl clf_9 (by decide) rfl (by decide) wd_515,
    st_iload_n hC (n := 52) (k := 3) (dc_X10_readDeed 52 (151, .iload_n 3, 1) rfl rfl) rfl rfl,
    st_aload_n hC (n := 53) (k := 0) (dc_X10_readDeed 53 (152, .aload_n 0, 1) rfl rfl) rfl rfl,
    st_getC hC (n := 54) (k := 10) (j := 0) (dc_X10_readDeed 54 (153, .getfield 19, 3) rfl rfl) rfl clf_10 (by decide) rfl (by decide) wd_293,
    st_aload_n hC (n := 55) (k := 2) (dc_X10_readDeed 55 (156, .aload_n 2, 1) rfl rfl) rfl rfl,
    st_getR hC (n := 56) (k := 6) (j := 0) (dc_X10_readDeed 56 (157, .getfield 87, 3) rfl rfl) rfl clf_6 (by decide) rfl (by decide) wd_577,
    st_iconst hC (n := 57) (x := 0) (dc_X10_readDeed 57 (160, .iconst 0, 1) rfl rfl) rfl (by decide),
    st_aload_n hC (n := 58) (k := 2) (dc_X10_readDeed 58 (161, .aload_n 2, 1) rfl rfl) rfl rfl,
    st_getI hC (n := 59) (k := 6) (j := 13) (dc_X10_readDeed 59 (162, .getfield 100, 3) rfl rfl) rfl clf_6 (by decide) rfl wd_621,
    st_callV hC (n := 60) (k := 4) (na := 3) (con_X4_member l) (dc_X10_readDeed 60 (165, .invokevirtual 96, 3) rfl rfl) rfl wd_913 wd_144 (by decide) ⟨rfl, rfl, by decide, by decide⟩ hM wd_997 wd_911 wd_912 clf_4,
    st_iast hC (n := 61) (dc_X10_readDeed 61 (168, .iastore, 1) rfl rfl) rfl,
    st_aload_n hC (n := 62) (k := 1) (dc_X10_readDeed 62 (169, .aload_n 1, 1) rfl rfl) rfl rfl,
    st_getR hC (n := 63) (k := 9) (j := 1) (dc_X10_readDeed 63 (170, .getfield 84, 3) rfl rfl) rfl clf_9 (by decide) rfl (by decide) wd_515,
    st_iload_n hC (n := 64) (k := 3) (dc_X10_readDeed 64 (173, .iload_n 3, 1) rfl rfl) rfl rfl,
    st_iald hC (n := 65) (dc_X10_readDeed 65 (174, .iaload, 1) rfl rfl) rfl,
    st_iflt hC (n := 66) (dc_X10_readDeed 66 (175, .ifCond .lt 15, 3) rfl rfl) rfl (by decide),
    st_aload_n hC (n := 67) (k := 0) (dc_X10_readDeed 67 (178, .aload_n 0, 1) rfl rfl) rfl rfl,
    st_getC hC (n := 68) (k := 10) (j := 0) (dc_X10_readDeed 68 (179, .getfield 19, 3) rfl rfl) rfl clf_10 (by decide) rfl (by decide) wd_293,
    st_bipush hC (n := 69) (x := 20) (dc_X10_readDeed 69 (182, .bipush 20, 2) rfl rfl) rfl (by decide),
    st_callV hC (n := 70) (k := 4) (na := 1) (con_X4_skip l) (dc_X10_readDeed 70 (184, .invokevirtual 59, 3) rfl rfl) rfl wd_900 wd_144 (by decide) ⟨rfl, rfl, by decide, by decide⟩ hM wd_984 wd_898 wd_899 clf_4,
    st_ifne hC (n := 71) (dc_X10_readDeed 71 (187, .ifCond .ne 5, 3) rfl rfl) rfl (by decide),
    st_iconst hC (n := 72) (x := 0) (dc_X10_readDeed 72 (190, .iconst 0, 1) rfl rfl) rfl (by decide),
    st_zret hC (n := 73) hR (dc_X10_readDeed 73 (191, .ireturn, 1) rfl rfl),
    st_aload_n hC (n := 74) (k := 1) (dc_X10_readDeed 74 (192, .aload_n 1, 1) rfl rfl) rfl rfl,
    st_getR hC (n := 75) (k := 9) (j := 2) (dc_X10_readDeed 75 (193, .getfield 103, 3) rfl rfl) rfl clf_9 (by decide) rfl (by decide) wd_518,
    st_iload_n hC (n := 76) (k := 3) (dc_X10_readDeed 76 (196, .iload_n 3, 1) rfl rfl) rfl rfl,
    st_aload_n hC (n := 77) (k := 0) (dc_X10_readDeed 77 (197, .aload_n 0, 1) rfl rfl) rfl rfl,
    st_getC hC (n := 78) (k := 10) (j := 0) (dc_X10_readDeed 78 (198, .getfield 19, 3) rfl rfl) rfl clf_10 (by decide) rfl (by decide) wd_293,
    st_aload_n hC (n := 79) (k := 2) (dc_X10_readDeed 79 (201, .aload_n 2, 1) rfl rfl) rfl rfl,
    st_getR hC (n := 80) (k := 6) (j := 0) (dc_X10_readDeed 80 (202, .getfield 87, 3) rfl rfl) rfl clf_6 (by decide) rfl (by decide) wd_577,
    st_iconst hC (n := 81) (x := 4) (dc_X10_readDeed 81 (205, .iconst 4, 1) rfl rfl) rfl (by decide),
    st_aload_n hC (n := 82) (k := 2) (dc_X10_readDeed 82 (206, .aload_n 2, 1) rfl rfl) rfl rfl,
    st_getI hC (n := 83) (k := 6) (j := 14) (dc_X10_readDeed 83 (207, .getfield 106, 3) rfl rfl) rfl clf_6 (by decide) rfl wd_627,
    st_callV hC (n := 84) (k := 4) (na := 3) (con_X4_member l) (dc_X10_readDeed 84 (210, .invokevirtual 96, 3) rfl rfl) rfl wd_913 wd_144 (by decide) ⟨rfl, rfl, by decide, by decide⟩ hM wd_997 wd_911 wd_912 clf_4,
    st_iast hC (n := 85) (dc_X10_readDeed 85 (213, .iastore, 1) rfl rfl) rfl,
    st_aload_n hC (n := 86) (k := 1) (dc_X10_readDeed 86 (214, .aload_n 1, 1) rfl rfl) rfl rfl,
    st_getR hC (n := 87) (k := 9) (j := 2) (dc_X10_readDeed 87 (215, .getfield 103, 3) rfl rfl) rfl clf_9 (by decide) rfl (by decide) wd_518,
    st_iload_n hC (n := 88) (k := 3) (dc_X10_readDeed 88 (218, .iload_n 3, 1) rfl rfl) rfl rfl,
    st_iald hC (n := 89) (dc_X10_readDeed 89 (219, .iaload, 1) rfl rfl) rfl,
    st_iflt hC (n := 90) (dc_X10_readDeed 90 (220, .ifCond .lt 7, 3) rfl rfl) rfl (by decide),
    st_iconst hC (n := 91) (x := 1) (dc_X10_readDeed 91 (223, .iconst 1, 1) rfl rfl) rfl (by decide),
    st_goto hC (n := 92) (dc_X10_readDeed 92 (224, .goto 4, 3) rfl rfl) (by decide),
    st_iconst hC (n := 93) (x := 0) (dc_X10_readDeed 93 (227, .iconst 0, 1) rfl rfl) rfl (by decide),
    st_zret hC (n := 94) hR (dc_X10_readDeed 94 (228, .ireturn, 1) rfl rfl),
    st_aload_n hC (n := 95) (k := 1) (dc_X10_readDeed 95 (229, .aload_n 1, 1) rfl rfl) rfl rfl,
    st_getR hC (n := 96) (k := 9) (j := 4) (dc_X10_readDeed 96 (230, .getfield 109, 3) rfl rfl) rfl clf_9 (by decide) rfl (by decide) wd_524,
    st_iload_n hC (n := 97) (k := 3) (dc_X10_readDeed 97 (233, .iload_n 3, 1) rfl rfl) rfl rfl,
    st_aload_n hC (n := 98) (k := 0) (dc_X10_readDeed 98 (234, .aload_n 0, 1) rfl rfl) rfl rfl,
    st_getC hC (n := 99) (k := 10) (j := 0) (dc_X10_readDeed 99 (235, .getfield 19, 3) rfl rfl) rfl clf_10 (by decide) rfl (by decide) wd_293,
    st_iconst hC (n := 100) (x := 1) (dc_X10_readDeed 100 (238, .iconst 1, 1) rfl rfl) rfl (by decide),
    st_bipush hC (n := 101) (x := 99) (dc_X10_readDeed 101 (239, .bipush 99, 2) rfl rfl) rfl (by decide),
    st_callV hC (n := 102) (k := 4) (na := 2) (con_X4_amount l) (dc_X10_readDeed 102 (241, .invokevirtual 112, 3) rfl rfl) rfl wd_896 wd_144 (by decide) ⟨rfl, rfl, by decide, by decide⟩ hM wd_998 wd_894 wd_895 clf_4,
    st_iast hC (n := 103) (dc_X10_readDeed 103 (244, .iastore, 1) rfl rfl) rfl,
    st_aload_n hC (n := 104) (k := 1) (dc_X10_readDeed 104 (245, .aload_n 1, 1) rfl rfl) rfl rfl,
    st_getR hC (n := 105) (k := 9) (j := 4) (dc_X10_readDeed 105 (246, .getfield 109, 3) rfl rfl) rfl clf_9 (by decide) rfl (by decide) wd_524,
    st_iload_n hC (n := 106) (k := 3) (dc_X10_readDeed 106 (249, .iload_n 3, 1) rfl rfl) rfl rfl,
    st_iald hC (n := 107) (dc_X10_readDeed 107 (250, .iaload, 1) rfl rfl) rfl,
    st_iflt hC (n := 108) (dc_X10_readDeed 108 (251, .ifCond .lt 7, 3) rfl rfl) rfl (by decide),
    st_iconst hC (n := 109) (x := 1) (dc_X10_readDeed 109 (254, .iconst 1, 1) rfl rfl) rfl (by decide),
    st_goto hC (n := 110) (dc_X10_readDeed 110 (255, .goto 4, 3) rfl rfl) (by decide),
    st_iconst hC (n := 111) (x := 0) (dc_X10_readDeed 111 (258, .iconst 0, 1) rfl rfl) rfl (by decide),
    st_zret hC (n := 112) hR (dc_X10_readDeed 112 (259, .ireturn, 1) rfl rfl),
    st_iconst hC (n := 113) (x := 1) (dc_X10_readDeed 113 (260, .iconst 1, 1) rfl rfl) rfl (by decide),
    st_zret hC (n := 114) hR (dc_X10_readDeed 114 (261, .ireturn, 1) rfl rfl), trivial⟩
set_option maxRecDepth 8000 in
theorem vc_X10_readDeed : VC P_X10_readDeed 4 Pre_X10_readDeed Fn_X10_readDeed := by
  rintro mm as hom hoa ⟨g, v, ns, nm, nt, na, L, hJ, e8, hL, rfl⟩
  refine ⟨Nat.le_of_ble_eq_true rfl, fun X h => ?_⟩
  replace h : RUN P_X10_readDeed (RT (c10d g v mm)) X := h
  have ns4 := hJ.2.1.2
  have nm4 := hJ.2.2.1.2
  have nt12 := hJ.2.2.2.1.2
  have eL : (nI L).toNatClampNeg = L := nI_clamp (by omega)
  unfold c10d at h
  rw [e8, eL] at h
  obtain ⟨a, ha⟩ : ∃ a, a = mm.1 43 g L := ⟨_, rfl⟩
  rw [← ha] at h
  have s29 : ∀ p, p = c10P 44 g L (meC mm v 0 (mm.1 6 v 13).toNatClampNeg) → RUN P_X10_readDeed (RT p) X → X 29 [some (vR 10 0), some (vR 9 g), some (vR 6 v), some (vI (nI L))] [] mm := by
    intro p hp h
    show X 29 [some (vR 10 0), some (vR 9 g), some (vR 6 v), some (vI (nI L))] [] mm
    refine h (fun _ => false) 3000 29 _ _ _ ?_
    refine And.intro (show Pre_X4_member mm [vR 4 0, vR 29 v, vI 0, vI (mm.1 6 v 13)] from ⟨hJ.1, v, 0, ns, by omega, congrArg (fun z => [vR 4 0, vR 29 v, vI 0, vI z]) hJ.2.1.1⟩) ?_
    refine And.intro (show inb (nI L) (alen 44) = true from (inb_o 60 rfl rfl rfl (by omega))) ?_
    refine And.intro (show inb (nI L) (alen 44) = true from (inb_o 60 rfl rfl rfl (by omega))) ?_
    refine br_c (fun b45 => ?_) (fun b45 => ?_)
    · -- 45: (mRow ((meC mm v 0 (mm.1 6 v 13).toNatClampNeg).2) 44 g (upd (((meC mm v 0 (mm.1 6 v 13).toNatClampNeg).2).1 44 g) (nI L).toNatClampNeg ((meC mm v 0 (mm.1 6 v 13).toNatClampNeg).1))).1 44 g ((nI L).toNatClampNeg) < 0 taken
      replace b45 : (mRow ((meC mm v 0 (mm.1 6 v 13).toNatClampNeg).2) 44 g (upd (((meC mm v 0 (mm.1 6 v 13).toNatClampNeg).2).1 44 g) (nI L).toNatClampNeg ((meC mm v 0 (mm.1 6 v 13).toNatClampNeg).1))).1 44 g ((nI L).toNatClampNeg) < 0 := b45
      (try simp only [mRow_row, eL, upd_eq] at b45)
      refine And.intro (Or.inl rfl) ?_
      show ((some (vI 0) : Option MV), mRow ((meC mm v 0 (mm.1 6 v 13).toNatClampNeg).2) 44 g (upd (((meC mm v 0 (mm.1 6 v 13).toNatClampNeg).2).1 44 g) (nI L).toNatClampNeg ((meC mm v 0 (mm.1 6 v 13).toNatClampNeg).1))) = _
      (try simp only [mRow_row, eL, upd_eq])
      exact PR_f (by rw [hp, c10P_f b45])
    · -- 45: (mRow ((meC mm v 0 (mm.1 6 v 13).toNatClampNeg).2) 44 g (upd (((meC mm v 0 (mm.1 6 v 13).toNatClampNeg).2).1 44 g) (nI L).toNatClampNeg ((meC mm v 0 (mm.1 6 v 13).toNatClampNeg).1))).1 44 g ((nI L).toNatClampNeg) < 0 on
      replace b45 : ¬ ((mRow ((meC mm v 0 (mm.1 6 v 13).toNatClampNeg).2) 44 g (upd (((meC mm v 0 (mm.1 6 v 13).toNatClampNeg).2).1 44 g) (nI L).toNatClampNeg ((meC mm v 0 (mm.1 6 v 13).toNatClampNeg).1))).1 44 g ((nI L).toNatClampNeg) < 0) := b45
      (try simp only [mRow_row, eL, upd_eq] at b45)
      refine And.intro (Or.inr rfl) ?_
      show ((some (vI 1) : Option MV), mRow ((meC mm v 0 (mm.1 6 v 13).toNatClampNeg).2) 44 g (upd (((meC mm v 0 (mm.1 6 v 13).toNatClampNeg).2).1 44 g) (nI L).toNatClampNeg ((meC mm v 0 (mm.1 6 v 13).toNatClampNeg).1))) = _
      (try simp only [mRow_row, eL, upd_eq])
      exact PR_t (by rw [hp, c10P_t b45])
  have s8 : ∀ p, p = c10P 44 g L (meC mm v 8 (mm.1 6 v 15).toNatClampNeg) → RUN P_X10_readDeed (RT p) X → X 8 [some (vR 10 0), some (vR 9 g), some (vR 6 v), some (vI (nI L))] [] mm := by
    intro p hp h
    show X 8 [some (vR 10 0), some (vR 9 g), some (vR 6 v), some (vI (nI L))] [] mm
    refine h (fun _ => false) 3000 8 _ _ _ ?_
    refine And.intro (show Pre_X4_member mm [vR 4 0, vR 29 v, vI 8, vI (mm.1 6 v 15)] from ⟨hJ.1, v, 8, nt, by omega, congrArg (fun z => [vR 4 0, vR 29 v, vI 8, vI z]) hJ.2.2.2.1.1⟩) ?_
    refine And.intro (show inb (nI L) (alen 44) = true from (inb_o 60 rfl rfl rfl (by omega))) ?_
    refine And.intro (show inb (nI L) (alen 44) = true from (inb_o 60 rfl rfl rfl (by omega))) ?_
    refine br_c (fun b24 => ?_) (fun b24 => ?_)
    · -- 24: (mRow ((meC mm v 8 (mm.1 6 v 15).toNatClampNeg).2) 44 g (upd (((meC mm v 8 (mm.1 6 v 15).toNatClampNeg).2).1 44 g) (nI L).toNatClampNeg ((meC mm v 8 (mm.1 6 v 15).toNatClampNeg).1))).1 44 g ((nI L).toNatClampNeg) < 0 taken
      replace b24 : (mRow ((meC mm v 8 (mm.1 6 v 15).toNatClampNeg).2) 44 g (upd (((meC mm v 8 (mm.1 6 v 15).toNatClampNeg).2).1 44 g) (nI L).toNatClampNeg ((meC mm v 8 (mm.1 6 v 15).toNatClampNeg).1))).1 44 g ((nI L).toNatClampNeg) < 0 := b24
      (try simp only [mRow_row, eL, upd_eq] at b24)
      refine And.intro (Or.inl rfl) ?_
      show ((some (vI 0) : Option MV), mRow ((meC mm v 8 (mm.1 6 v 15).toNatClampNeg).2) 44 g (upd (((meC mm v 8 (mm.1 6 v 15).toNatClampNeg).2).1 44 g) (nI L).toNatClampNeg ((meC mm v 8 (mm.1 6 v 15).toNatClampNeg).1))) = _
      (try simp only [mRow_row, eL, upd_eq])
      exact PR_f (by rw [hp, c10P_f b24])
    · -- 24: (mRow ((meC mm v 8 (mm.1 6 v 15).toNatClampNeg).2) 44 g (upd (((meC mm v 8 (mm.1 6 v 15).toNatClampNeg).2).1 44 g) (nI L).toNatClampNeg ((meC mm v 8 (mm.1 6 v 15).toNatClampNeg).1))).1 44 g ((nI L).toNatClampNeg) < 0 on
      replace b24 : ¬ ((mRow ((meC mm v 8 (mm.1 6 v 15).toNatClampNeg).2) 44 g (upd (((meC mm v 8 (mm.1 6 v 15).toNatClampNeg).2).1 44 g) (nI L).toNatClampNeg ((meC mm v 8 (mm.1 6 v 15).toNatClampNeg).1))).1 44 g ((nI L).toNatClampNeg) < 0) := b24
      (try simp only [mRow_row, eL, upd_eq] at b24)
      refine And.intro (Or.inr rfl) ?_
      show ((some (vI 1) : Option MV), mRow ((meC mm v 8 (mm.1 6 v 15).toNatClampNeg).2) 44 g (upd (((meC mm v 8 (mm.1 6 v 15).toNatClampNeg).2).1 44 g) (nI L).toNatClampNeg ((meC mm v 8 (mm.1 6 v 15).toNatClampNeg).1))) = _
      (try simp only [mRow_row, eL, upd_eq])
      exact PR_t (by rw [hp, c10P_t b24])
  have s95 : ∀ p, p = c10P 47 g L (amC mm 1 99) → RUN P_X10_readDeed (RT p) X → X 95 [some (vR 10 0), some (vR 9 g), some (vR 6 v), some (vI (nI L))] [] mm := by
    intro p hp h
    show X 95 [some (vR 10 0), some (vR 9 g), some (vR 6 v), some (vI (nI L))] [] mm
    refine h (fun _ => false) 3000 95 _ _ _ ?_
    refine And.intro (show Pre_X4_amount mm [vR 4 0, vI 1, vI 99] from ⟨hJ.1, _, _, rfl⟩) ?_
    refine And.intro (show inb (nI L) (alen 47) = true from (inb_o 60 rfl rfl rfl (by omega))) ?_
    refine And.intro (show inb (nI L) (alen 47) = true from (inb_o 60 rfl rfl rfl (by omega))) ?_
    refine br_c (fun b108 => ?_) (fun b108 => ?_)
    · -- 108: (mRow ((amC mm 1 99).2) 47 g (upd (((amC mm 1 99).2).1 47 g) (nI L).toNatClampNeg ((amC mm 1 99).1))).1 47 g ((nI L).toNatClampNeg) < 0 taken
      replace b108 : (mRow ((amC mm 1 99).2) 47 g (upd (((amC mm 1 99).2).1 47 g) (nI L).toNatClampNeg ((amC mm 1 99).1))).1 47 g ((nI L).toNatClampNeg) < 0 := b108
      (try simp only [mRow_row, eL, upd_eq] at b108)
      refine And.intro (Or.inl rfl) ?_
      show ((some (vI 0) : Option MV), mRow ((amC mm 1 99).2) 47 g (upd (((amC mm 1 99).2).1 47 g) (nI L).toNatClampNeg ((amC mm 1 99).1))) = _
      (try simp only [mRow_row, eL, upd_eq])
      exact PR_f (by rw [hp, c10P_f b108])
    · -- 108: (mRow ((amC mm 1 99).2) 47 g (upd (((amC mm 1 99).2).1 47 g) (nI L).toNatClampNeg ((amC mm 1 99).1))).1 47 g ((nI L).toNatClampNeg) < 0 on
      replace b108 : ¬ ((mRow ((amC mm 1 99).2) 47 g (upd (((amC mm 1 99).2).1 47 g) (nI L).toNatClampNeg ((amC mm 1 99).1))).1 47 g ((nI L).toNatClampNeg) < 0) := b108
      (try simp only [mRow_row, eL, upd_eq] at b108)
      refine And.intro (Or.inr rfl) ?_
      show ((some (vI 1) : Option MV), mRow ((amC mm 1 99).2) 47 g (upd (((amC mm 1 99).2).1 47 g) (nI L).toNatClampNeg ((amC mm 1 99).1))) = _
      (try simp only [mRow_row, eL, upd_eq])
      exact PR_t (by rw [hp, c10P_t b108])
  have s74 : ∀ M p, CJ M v ns nm nt na → p = c10d3 g v L M → RUN P_X10_readDeed (RT p) X → X 74 [some (vR 10 0), some (vR 9 g), some (vR 6 v), some (vI (nI L))] [] (M) := by
    intro M p hM hp h
    unfold c10d3 at hp
    show X 74 [some (vR 10 0), some (vR 9 g), some (vR 6 v), some (vI (nI L))] [] M
    refine h (fun _ => false) 3000 74 _ _ _ ?_
    refine And.intro (show Pre_X4_member M [vR 4 0, vR 29 v, vI 4, vI (M.1 6 v 14)] from ⟨hM.1, v, 4, nm, by omega, congrArg (fun z => [vR 4 0, vR 29 v, vI 4, vI z]) hM.2.2.1.1⟩) ?_
    refine And.intro (show inb (nI L) (alen 45) = true from (inb_o 60 rfl rfl rfl (by omega))) ?_
    refine And.intro (show inb (nI L) (alen 45) = true from (inb_o 60 rfl rfl rfl (by omega))) ?_
    refine br_c (fun b90 => ?_) (fun b90 => ?_)
    · -- 90: (mRow ((meC M v 4 (M.1 6 v 14).toNatClampNeg).2) 45 g (upd (((meC M v 4 (M.1 6 v 14).toNatClampNeg).2).1 45 g) (nI L).toNatClampNeg ((meC M v 4 (M.1 6 v 14).toNatClampNeg).1))).1 45 g ((nI L).toNatClampNeg) < 0 taken
      replace b90 : (mRow ((meC M v 4 (M.1 6 v 14).toNatClampNeg).2) 45 g (upd (((meC M v 4 (M.1 6 v 14).toNatClampNeg).2).1 45 g) (nI L).toNatClampNeg ((meC M v 4 (M.1 6 v 14).toNatClampNeg).1))).1 45 g ((nI L).toNatClampNeg) < 0 := b90
      (try simp only [mRow_row, eL, upd_eq] at b90)
      refine And.intro (Or.inl rfl) ?_
      show ((some (vI 0) : Option MV), mRow ((meC M v 4 (M.1 6 v 14).toNatClampNeg).2) 45 g (upd (((meC M v 4 (M.1 6 v 14).toNatClampNeg).2).1 45 g) (nI L).toNatClampNeg ((meC M v 4 (M.1 6 v 14).toNatClampNeg).1))) = _
      (try simp only [mRow_row, eL, upd_eq])
      exact PR_f (by rw [hp, c10P_f b90])
    · -- 90: (mRow ((meC M v 4 (M.1 6 v 14).toNatClampNeg).2) 45 g (upd (((meC M v 4 (M.1 6 v 14).toNatClampNeg).2).1 45 g) (nI L).toNatClampNeg ((meC M v 4 (M.1 6 v 14).toNatClampNeg).1))).1 45 g ((nI L).toNatClampNeg) < 0 on
      replace b90 : ¬ ((mRow ((meC M v 4 (M.1 6 v 14).toNatClampNeg).2) 45 g (upd (((meC M v 4 (M.1 6 v 14).toNatClampNeg).2).1 45 g) (nI L).toNatClampNeg ((meC M v 4 (M.1 6 v 14).toNatClampNeg).1))).1 45 g ((nI L).toNatClampNeg) < 0) := b90
      (try simp only [mRow_row, eL, upd_eq] at b90)
      refine And.intro (Or.inr rfl) ?_
      show ((some (vI 1) : Option MV), mRow ((meC M v 4 (M.1 6 v 14).toNatClampNeg).2) 45 g (upd (((meC M v 4 (M.1 6 v 14).toNatClampNeg).2).1 45 g) (nI L).toNatClampNeg ((meC M v 4 (M.1 6 v 14).toNatClampNeg).1))) = _
      (try simp only [mRow_row, eL, upd_eq])
      exact PR_t (by rw [hp, c10P_t b90])
  have s67 : ∀ M p, CJ M v ns nm nt na → p = c10d2 g v L M → RUN P_X10_readDeed (RT p) X → X 67 [some (vR 10 0), some (vR 9 g), some (vR 6 v), some (vI (nI L))] [] (M) := by
    intro M p hM hp h
    unfold c10d2 at hp
    show X 67 [some (vR 10 0), some (vR 9 g), some (vR 6 v), some (vI (nI L))] [] M
    refine h (fun i => Nat.beq i 74) 3000 67 _ _ _ ?_
    refine And.intro (show Pre_X4_skip M [vR 4 0, vI 20] from ⟨hM.1, _, rfl⟩) ?_
    refine brn_c (fun b71 => ?_) (fun b71 => ?_)
    · -- 71: bI ((skC M 20).1 = true) = 0 taken
      replace b71 : (skC M 20).1 = true := bI_n0.mp b71
      show X 74 [some (vR 10 0), some (vR 9 g), some (vR 6 v), some (vI (nI L))] [] ((skC M 20).2)
      exact s74 _ _ (CJ_sk hM) (by rw [hp, pBd_t b71]) h
    · -- 71: bI ((skC M 20).1 = true) = 0 on
      replace b71 : ¬ ((skC M 20).1 = true) := bI_0.mp b71
      refine And.intro (Or.inl rfl) ?_
      show ((some (vI 0) : Option MV), (skC M 20).2) = _
      exact PR_f (by rw [hp, pBd_f b71])
  have s50 : ∀ p, p = pBd (c10P 44 g L (meC mm v 0 (mm.1 6 v 13).toNatClampNeg)) (c10d2 g v L) → RUN P_X10_readDeed (RT p) X → X 50 [some (vR 10 0), some (vR 9 g), some (vR 6 v), some (vI (nI L))] [] mm := by
    intro p hp h
    show X 50 [some (vR 10 0), some (vR 9 g), some (vR 6 v), some (vI (nI L))] [] mm
    refine h (fun i => Nat.beq i 67) 3000 50 _ _ _ ?_
    refine And.intro (show Pre_X4_member mm [vR 4 0, vR 29 v, vI 0, vI (mm.1 6 v 13)] from ⟨hJ.1, v, 0, ns, by omega, congrArg (fun z => [vR 4 0, vR 29 v, vI 0, vI z]) hJ.2.1.1⟩) ?_
    refine And.intro (show inb (nI L) (alen 44) = true from (inb_o 60 rfl rfl rfl (by omega))) ?_
    refine And.intro (show inb (nI L) (alen 44) = true from (inb_o 60 rfl rfl rfl (by omega))) ?_
    refine br_c (fun b66 => ?_) (fun b66 => ?_)
    · -- 66: (mRow ((meC mm v 0 (mm.1 6 v 13).toNatClampNeg).2) 44 g (upd (((meC mm v 0 (mm.1 6 v 13).toNatClampNeg).2).1 44 g) (nI L).toNatClampNeg ((meC mm v 0 (mm.1 6 v 13).toNatClampNeg).1))).1 44 g ((nI L).toNatClampNeg) < 0 taken
      replace b66 : (mRow ((meC mm v 0 (mm.1 6 v 13).toNatClampNeg).2) 44 g (upd (((meC mm v 0 (mm.1 6 v 13).toNatClampNeg).2).1 44 g) (nI L).toNatClampNeg ((meC mm v 0 (mm.1 6 v 13).toNatClampNeg).1))).1 44 g ((nI L).toNatClampNeg) < 0 := b66
      (try simp only [mRow_row, eL, upd_eq] at b66)
      refine And.intro (Or.inl rfl) ?_
      show ((some (vI 0) : Option MV), mRow ((meC mm v 0 (mm.1 6 v 13).toNatClampNeg).2) 44 g (upd (((meC mm v 0 (mm.1 6 v 13).toNatClampNeg).2).1 44 g) (nI L).toNatClampNeg ((meC mm v 0 (mm.1 6 v 13).toNatClampNeg).1))) = _
      (try simp only [mRow_row, eL, upd_eq])
      exact PR_f (by rw [hp, c10P_f b66]; rfl)
    · -- 66: (mRow ((meC mm v 0 (mm.1 6 v 13).toNatClampNeg).2) 44 g (upd (((meC mm v 0 (mm.1 6 v 13).toNatClampNeg).2).1 44 g) (nI L).toNatClampNeg ((meC mm v 0 (mm.1 6 v 13).toNatClampNeg).1))).1 44 g ((nI L).toNatClampNeg) < 0 on
      replace b66 : ¬ ((mRow ((meC mm v 0 (mm.1 6 v 13).toNatClampNeg).2) 44 g (upd (((meC mm v 0 (mm.1 6 v 13).toNatClampNeg).2).1 44 g) (nI L).toNatClampNeg ((meC mm v 0 (mm.1 6 v 13).toNatClampNeg).1))).1 44 g ((nI L).toNatClampNeg) < 0) := b66
      (try simp only [mRow_row, eL, upd_eq] at b66)
      show X 67 [some (vR 10 0), some (vR 9 g), some (vR 6 v), some (vI (nI L))] [] (mRow ((meC mm v 0 (mm.1 6 v 13).toNatClampNeg).2) 44 g (upd (((meC mm v 0 (mm.1 6 v 13).toNatClampNeg).2).1 44 g) (nI L).toNatClampNeg ((meC mm v 0 (mm.1 6 v 13).toNatClampNeg).1)))
      (try simp only [mRow_row, eL, upd_eq])
      rw [c10P_t b66] at hp
      exact s67 _ _ (CJ_row (by decide) (CJ_me hJ)) hp h
  obtain ⟨p, hp⟩ : ∃ p, p = c10d1 g v L mm a := ⟨_, rfl⟩
  rw [← hp] at h
  show X 0 [some (vR 10 0), some (vR 9 g), some (vR 6 v), none] [] mm
  refine h (fun i => Nat.beq i 8 || Nat.beq i 29 || Nat.beq i 50 || Nat.beq i 95) 3000 0 _ _ _ ?_
  refine And.intro (show inb (mm.1 9 g 8) (alen 43) = true from (by rw [e8]; exact inb_o 60 rfl rfl rfl (by omega))) ?_
  refine And.intro ⟨fun b7 => ?_, fun b7 => ?_, fun b7 => ?_, fun b7 => ?_, fun b7 => ?_, fun b7 => ?_, fun b7 => ?_, fun b7 => ?_, fun b7 => ?_, fun b7 => ?_, fun b7 => ?_, fun b7 => ?_, trivial⟩ ?_
  · replace b7 : mm.1 43 g ((mm.1 9 g 8).toNatClampNeg) = 16 := b7
    (try simp only [e8, eL, ← ha] at b7)
    show X 8 [some (vR 10 0), some (vR 9 g), some (vR 6 v), some (vI (mm.1 9 g 8))] [] mm
    (try simp only [e8, eL, ← ha])
    exact s8 p (hp.trans (c10_16 (by rw [b7]; decide))) h
  · replace b7 : mm.1 43 g ((mm.1 9 g 8).toNatClampNeg) = 17 := b7
    (try simp only [e8, eL, ← ha] at b7)
    show X 29 [some (vR 10 0), some (vR 9 g), some (vR 6 v), some (vI (mm.1 9 g 8))] [] mm
    (try simp only [e8, eL, ← ha])
    exact s29 p (hp.trans (c10_17 b7)) h
  · replace b7 : mm.1 43 g ((mm.1 9 g 8).toNatClampNeg) = 18 := b7
    (try simp only [e8, eL, ← ha] at b7)
    refine And.intro (Or.inr rfl) ?_
    show ((some (vI 1) : Option MV), mm) = _
    (try simp only [e8, eL, ← ha])
    exact PR_t (hp.trans (c10_o (by rw [b7]; decide) (by rw [b7]; decide) (by rw [b7]; decide) (by rw [b7]; decide)))
  · replace b7 : mm.1 43 g ((mm.1 9 g 8).toNatClampNeg) = 19 := b7
    (try simp only [e8, eL, ← ha] at b7)
    show X 50 [some (vR 10 0), some (vR 9 g), some (vR 6 v), some (vI (mm.1 9 g 8))] [] mm
    (try simp only [e8, eL, ← ha])
    exact s50 p (hp.trans (c10_19 b7)) h
  · replace b7 : mm.1 43 g ((mm.1 9 g 8).toNatClampNeg) = 20 := b7
    (try simp only [e8, eL, ← ha] at b7)
    refine And.intro (Or.inr rfl) ?_
    show ((some (vI 1) : Option MV), mm) = _
    (try simp only [e8, eL, ← ha])
    exact PR_t (hp.trans (c10_o (by rw [b7]; decide) (by rw [b7]; decide) (by rw [b7]; decide) (by rw [b7]; decide)))
  · replace b7 : mm.1 43 g ((mm.1 9 g 8).toNatClampNeg) = 21 := b7
    (try simp only [e8, eL, ← ha] at b7)
    show X 8 [some (vR 10 0), some (vR 9 g), some (vR 6 v), some (vI (mm.1 9 g 8))] [] mm
    (try simp only [e8, eL, ← ha])
    exact s8 p (hp.trans (c10_16 (by rw [b7]; decide))) h
  · replace b7 : mm.1 43 g ((mm.1 9 g 8).toNatClampNeg) = 22 := b7
    (try simp only [e8, eL, ← ha] at b7)
    show X 8 [some (vR 10 0), some (vR 9 g), some (vR 6 v), some (vI (mm.1 9 g 8))] [] mm
    (try simp only [e8, eL, ← ha])
    exact s8 p (hp.trans (c10_16 (by rw [b7]; decide))) h
  · replace b7 : mm.1 43 g ((mm.1 9 g 8).toNatClampNeg) = 23 := b7
    (try simp only [e8, eL, ← ha] at b7)
    refine And.intro (Or.inr rfl) ?_
    show ((some (vI 1) : Option MV), mm) = _
    (try simp only [e8, eL, ← ha])
    exact PR_t (hp.trans (c10_o (by rw [b7]; decide) (by rw [b7]; decide) (by rw [b7]; decide) (by rw [b7]; decide)))
  · replace b7 : mm.1 43 g ((mm.1 9 g 8).toNatClampNeg) = 24 := b7
    (try simp only [e8, eL, ← ha] at b7)
    refine And.intro (Or.inr rfl) ?_
    show ((some (vI 1) : Option MV), mm) = _
    (try simp only [e8, eL, ← ha])
    exact PR_t (hp.trans (c10_o (by rw [b7]; decide) (by rw [b7]; decide) (by rw [b7]; decide) (by rw [b7]; decide)))
  · replace b7 : mm.1 43 g ((mm.1 9 g 8).toNatClampNeg) = 25 := b7
    (try simp only [e8, eL, ← ha] at b7)
    refine And.intro (Or.inr rfl) ?_
    show ((some (vI 1) : Option MV), mm) = _
    (try simp only [e8, eL, ← ha])
    exact PR_t (hp.trans (c10_o (by rw [b7]; decide) (by rw [b7]; decide) (by rw [b7]; decide) (by rw [b7]; decide)))
  · replace b7 : mm.1 43 g ((mm.1 9 g 8).toNatClampNeg) = 26 := b7
    (try simp only [e8, eL, ← ha] at b7)
    refine And.intro (Or.inr rfl) ?_
    show ((some (vI 1) : Option MV), mm) = _
    (try simp only [e8, eL, ← ha])
    exact PR_t (hp.trans (c10_o (by rw [b7]; decide) (by rw [b7]; decide) (by rw [b7]; decide) (by rw [b7]; decide)))
  · replace b7 : mm.1 43 g ((mm.1 9 g 8).toNatClampNeg) = 27 := b7
    (try simp only [e8, eL, ← ha] at b7)
    show X 95 [some (vR 10 0), some (vR 9 g), some (vR 6 v), some (vI (mm.1 9 g 8))] [] mm
    (try simp only [e8, eL, ← ha])
    exact s95 p (hp.trans (c10_27 b7)) h
  · intro b7
    have n7_16 : ¬ mm.1 43 g ((mm.1 9 g 8).toNatClampNeg) = 16 := b7 (16, 8) (by decide)
    have n7_17 : ¬ mm.1 43 g ((mm.1 9 g 8).toNatClampNeg) = 17 := b7 (17, 29) (by decide)
    have n7_18 : ¬ mm.1 43 g ((mm.1 9 g 8).toNatClampNeg) = 18 := b7 (18, 113) (by decide)
    have n7_19 : ¬ mm.1 43 g ((mm.1 9 g 8).toNatClampNeg) = 19 := b7 (19, 50) (by decide)
    have n7_20 : ¬ mm.1 43 g ((mm.1 9 g 8).toNatClampNeg) = 20 := b7 (20, 113) (by decide)
    have n7_21 : ¬ mm.1 43 g ((mm.1 9 g 8).toNatClampNeg) = 21 := b7 (21, 8) (by decide)
    have n7_22 : ¬ mm.1 43 g ((mm.1 9 g 8).toNatClampNeg) = 22 := b7 (22, 8) (by decide)
    have n7_23 : ¬ mm.1 43 g ((mm.1 9 g 8).toNatClampNeg) = 23 := b7 (23, 113) (by decide)
    have n7_24 : ¬ mm.1 43 g ((mm.1 9 g 8).toNatClampNeg) = 24 := b7 (24, 113) (by decide)
    have n7_25 : ¬ mm.1 43 g ((mm.1 9 g 8).toNatClampNeg) = 25 := b7 (25, 113) (by decide)
    have n7_26 : ¬ mm.1 43 g ((mm.1 9 g 8).toNatClampNeg) = 26 := b7 (26, 113) (by decide)
    have n7_27 : ¬ mm.1 43 g ((mm.1 9 g 8).toNatClampNeg) = 27 := b7 (27, 95) (by decide)
    (try simp only [e8, eL, ← ha] at n7_16)
    (try simp only [e8, eL, ← ha] at n7_17)
    (try simp only [e8, eL, ← ha] at n7_18)
    (try simp only [e8, eL, ← ha] at n7_19)
    (try simp only [e8, eL, ← ha] at n7_20)
    (try simp only [e8, eL, ← ha] at n7_21)
    (try simp only [e8, eL, ← ha] at n7_22)
    (try simp only [e8, eL, ← ha] at n7_23)
    (try simp only [e8, eL, ← ha] at n7_24)
    (try simp only [e8, eL, ← ha] at n7_25)
    (try simp only [e8, eL, ← ha] at n7_26)
    (try simp only [e8, eL, ← ha] at n7_27)
    refine And.intro (Or.inr rfl) ?_
    show ((some (vI 1) : Option MV), mm) = _
    (try simp only [e8, eL, ← ha])
    exact PR_t (hp.trans (c10_o (fun z => z.elim n7_16 (fun z => z.elim n7_21 n7_22)) n7_17 n7_19 n7_27))
theorem con_X10_readDeed (l : Launch) : CON l y_X10_readDeed prog_12_method_6_code 4 (some .boolean) rm_X10_readDeed Pre_X10_readDeed Fn_X10_readDeed := CON_of (by decide) rfl rfl (sa_X10_readDeed l) vc_X10_readDeed
