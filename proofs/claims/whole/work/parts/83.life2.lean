/-! PART 83: the class: tests, a step is done -/

/-- a lookupswitch's targets, by program -/
def swl_chk (b : Int) (pc : Nat → Nat) : List (Int × Int) → List (Int32 × Nat) → Bool
  | [], [] => true
  | (a, o) :: ps, (c, t) :: cs => decide (a = c.toInt) && decide (b + o = (pc t : Int)) && swl_chk b pc ps cs
  | _, _ => false
theorem swl_of {b dflt : Int} {pc : Nat → Nat} : ∀ (ps : List (Int × Int)) (cs : List (Int32 × Nat)), swl_chk b pc ps cs = true → ∀ x : Int32, (∃ t, (x, t) ∈ cs ∧ b + Op.lookupswitch.offset ps dflt x.toInt = (pc t : Int)) ∨ ((∀ q ∈ cs, ¬ x = q.1) ∧ Op.lookupswitch.offset ps dflt x.toInt = dflt)
  | [], [], _, x => Or.inr ⟨fun q hq => (List.not_mem_nil hq).elim, rfl⟩
  | (a, o) :: ps, (c, t) :: cs, h, x => by
    unfold swl_chk at h
    obtain ⟨h1, h3⟩ := Bool.and_eq_true_iff.mp h
    obtain ⟨h1, h2⟩ := Bool.and_eq_true_iff.mp h1
    have h1 := of_decide_eq_true h1
    have h2 := of_decide_eq_true h2
    by_cases e : x = c
    · refine Or.inl ⟨t, by rw [e]; exact List.mem_cons_self, ?_⟩
      rw [Op.lookupswitch.offset_cons, if_pos (by rw [e]; exact h1)]
      exact h2
    · have ne : ¬ a = x.toInt := fun z => e (Int32.toInt_inj.mp (z.symm.trans h1))
      rw [Op.lookupswitch.offset_cons, if_neg ne]
      rcases swl_of ps cs h3 x with ⟨t', hm, ho⟩ | ⟨h4, h5⟩
      · exact Or.inl ⟨t', List.mem_cons_of_mem _ hm, ho⟩
      · refine Or.inr ⟨fun q hq => ?_, h5⟩
        rcases List.mem_cons.mp hq with rfl | hq
        · exact e
        · exact h4 q hq
/-- a line of the class's years -/
def YLc (m : MM) (g ns nm nt L k : Nat) : Prop :=
  (m.1 43 g k = 16 ∨ m.1 43 g k = 21 ∨ m.1 43 g k = 22 → ∃ t, t < nt ∧ m.1 44 g k = nI t) ∧
  (m.1 43 g k = 17 ∨ m.1 43 g k = 19 ∨ m.1 43 g k = 24 ∨ m.1 43 g k = 25 ∨ m.1 43 g k = 26 → ∃ s, s < ns ∧ m.1 44 g k = nI s) ∧
  (m.1 43 g k = 19 ∨ m.1 43 g k = 24 ∨ m.1 43 g k = 25 → ∃ d, d < nm ∧ m.1 45 g k = nI d) ∧
  (m.1 43 g k = 28 → ∃ o, o < k ∧ m.1 48 g k = nI o) ∧
  (m.1 43 g k = 24 ∨ m.1 43 g k = 25 ∨ m.1 43 g k = 26 → ∃ e, e < L ∧ m.1 48 g k = nI e)
abbrev cpC (v c w : Int32) : Prop := if c = 34 then v < w else if c = 35 then w < v else v = w
abbrev c2t (m : MM) (g k : Nat) : Prop := if m.1 43 g k = 26 then thA (abV m g) (m.1 44 g k) &&& (abV m g 8 ^^^ (-1)) = 0 else if m.1 43 g k = 25 then ysA (abV m g) (m.1 44 g k).toNatClampNeg (m.1 45 g k).toNatClampNeg else cpC (hdA (abV m g) (m.1 44 g k) (m.1 45 g k).toNatClampNeg) (m.1 46 g k) (m.1 47 g k)
theorem c2t_26 {m : MM} {g k : Nat} (e : m.1 43 g k = 26) : c2t m g k ↔ thA (abV m g) (m.1 44 g k) &&& (abV m g 8 ^^^ (-1)) = 0 := by unfold c2t; rw [if_pos e]
theorem c2t_25 {m : MM} {g k : Nat} (n : ¬ m.1 43 g k = 26) (e : m.1 43 g k = 25) : c2t m g k ↔ ysA (abV m g) (m.1 44 g k).toNatClampNeg (m.1 45 g k).toNatClampNeg := by unfold c2t; rw [if_neg n, if_pos e]
theorem c2t_24 {m : MM} {g k : Nat} (n : ¬ m.1 43 g k = 26) (n' : ¬ m.1 43 g k = 25) : c2t m g k ↔ cpC (hdA (abV m g) (m.1 44 g k) (m.1 45 g k).toNatClampNeg) (m.1 46 g k) (m.1 47 g k) := by unfold c2t; rw [if_neg n, if_neg n']
theorem bI_iff {p q : Prop} [Decidable p] [Decidable q] (h : p ↔ q) : bI p = bI q := by
  by_cases c : p
  · rw [bI_t c, bI_t (h.mp c)]
  · rw [bI_f c, bI_f (fun z => c (h.mpr z))]

--tpl ⟨_, _, _, _, _, {2N}, by assumption, by assumption, by omega, by assumption, rfl⟩ || bI (c2t {m} {g0} {2n})
def Pre_X2_isTrue : PreT := fun m as => ∃ g ns nm nt L k : Nat, VC2 m g ns nm nt ∧ YLc m g ns nm nt L k ∧ k < 60 ∧ (m.1 43 g k = 24 ∨ m.1 43 g k = 25 ∨ m.1 43 g k = 26) ∧ as = [vR 6 g, vR 9 g, vI (nI k)]
def Fn_X2_isTrue : FnT := fun m as => match as with
  | [Sum.inr (Sum.inr q), _, Sum.inl k] => (some (vI (bI (c2t m q.2 k.toNatClampNeg))), m)
  | _ => (none, m)
abbrev y_X2_isTrue : MethodName := ⟨"GivenUp$Life", "isTrue", "(LGivenUp$Valley;LGivenUp$Years;I)Z"⟩
def P_X2_isTrue : List StpT := [s_aload 1, s_getR 9 0 43, s_iload 2, s_iald, s_ic (26), s_icne 13, s_aload 0, s_aload 1, s_getR 9 1 44, s_iload 2, s_iald, s_callV 6 1 Pre_X6_isBare Fn_X6_isBare, s_zret, s_aload 1, s_getR 9 0 43, s_iload 2, s_iald, s_ic (25), s_icne 30, s_aload 0, s_aload 1, s_getR 9 1 44, s_iload 2, s_iald, s_aload 1, s_getR 9 2 45, s_iload 2, s_iald, s_callV 6 2 Pre_X6_isWilling Fn_X6_isWilling, s_zret, s_aload 0, s_aload 1, s_getR 9 1 44, s_iload 2, s_iald, s_aload 1, s_getR 9 2 45, s_iload 2, s_iald, s_callV 6 2 Pre_X6_hears Fn_X6_hears, s_istore 3, s_aload 1, s_getR 9 3 46, s_iload 2, s_iald, s_sw [(34, 46), (35, 56)] 66, s_iload 3, s_aload 1, s_getR 9 4 47, s_iload 2, s_iald, s_icge 54, s_ic (1), s_goto 55, s_ic (0), s_zret, s_iload 3, s_aload 1, s_getR 9 4 47, s_iload 2, s_iald, s_icle 64, s_ic (1), s_goto 65, s_ic (0), s_zret, s_iload 3, s_aload 1, s_getR 9 4 47, s_iload 2, s_iald, s_icne 74, s_ic (1), s_goto 75, s_ic (0), s_zret]
def pc_X2_isTrue : Nat → Nat := fun i => [0, 1, 4, 5, 6, 8, 11, 12, 13, 16, 17, 18, 21, 22, 23, 26, 27, 28, 30, 33, 34, 35, 38, 39, 40, 41, 44, 45, 46, 49, 50, 51, 52, 55, 56, 57, 58, 61, 62, 63, 66, 67, 68, 71, 72, 73, 100, 101, 102, 105, 106, 107, 110, 111, 114, 115, 116, 117, 118, 121, 122, 123, 126, 127, 130, 131, 132, 133, 134, 137, 138, 139, 142, 143, 146, 147].getD i 0
def dl_X2_isTrue : List (Nat × Instr × Nat) := [(0, .aload_n 1, 1), (1, .getfield 43, 3), (4, .iload_n 2, 1), (5, .iaload, 1), (6, .bipush 26, 2), (8, .if_icmp .ne 14, 3), (11, .aload_n 0, 1), (12, .aload_n 1, 1), (13, .getfield 67, 3), (16, .iload_n 2, 1), (17, .iaload, 1), (18, .invokevirtual 70, 3), (21, .ireturn, 1), (22, .aload_n 1, 1), (23, .getfield 43, 3), (26, .iload_n 2, 1), (27, .iaload, 1), (28, .bipush 25, 2), (30, .if_icmp .ne 20, 3), (33, .aload_n 0, 1), (34, .aload_n 1, 1), (35, .getfield 67, 3), (38, .iload_n 2, 1), (39, .iaload, 1), (40, .aload_n 1, 1), (41, .getfield 74, 3), (44, .iload_n 2, 1), (45, .iaload, 1), (46, .invokevirtual 77, 3), (49, .ireturn, 1), (50, .aload_n 0, 1), (51, .aload_n 1, 1), (52, .getfield 67, 3), (55, .iload_n 2, 1), (56, .iaload, 1), (57, .aload_n 1, 1), (58, .getfield 74, 3), (61, .iload_n 2, 1), (62, .iaload, 1), (63, .invokevirtual 81, 3), (66, .istore_n 3, 1), (67, .aload_n 1, 1), (68, .getfield 85, 3), (71, .iload_n 2, 1), (72, .iaload, 1), (73, .lookupswitch 59 #[(34, 27), (35, 43)], 27), (100, .iload_n 3, 1), (101, .aload_n 1, 1), (102, .getfield 57, 3), (105, .iload_n 2, 1), (106, .iaload, 1), (107, .if_icmp .ge 7, 3), (110, .iconst 1, 1), (111, .goto 4, 3), (114, .iconst 0, 1), (115, .ireturn, 1), (116, .iload_n 3, 1), (117, .aload_n 1, 1), (118, .getfield 57, 3), (121, .iload_n 2, 1), (122, .iaload, 1), (123, .if_icmp .le 7, 3), (126, .iconst 1, 1), (127, .goto 4, 3), (130, .iconst 0, 1), (131, .ireturn, 1), (132, .iload_n 3, 1), (133, .aload_n 1, 1), (134, .getfield 57, 3), (137, .iload_n 2, 1), (138, .iaload, 1), (139, .if_icmp .ne 7, 3), (142, .iconst 1, 1), (143, .goto 4, 3), (146, .iconst 0, 1), (147, .ireturn, 1)]
theorem dc_X2_isTrue : DEC prog_4_method_5_code pc_X2_isTrue dl_X2_isTrue := DEC_of (by decide +kernel)
abbrev rm_X2_isTrue : Room := { frames := 3, cells := 0, slots := 0, locals := 68 }
set_option maxRecDepth 20000 in
theorem sa_X2_isTrue (l : Launch) : SNDALL l prog_4_method_5_code "GivenUp$Life" 4 (some .boolean) rm_X2_isTrue P_X2_isTrue pc_X2_isTrue := fun p e s m args below meth c cells slots Q D dA ad A RR hC hR => by
  have hM := RTX_room (R := rm_X2_isTrue) hR
  exact ⟨st_aload_n hC (n := 0) (k := 1) (dc_X2_isTrue 0 (0, .aload_n 1, 1) rfl rfl) rfl rfl,
    st_getR hC (n := 1) (k := 9) (j := 0) (dc_X2_isTrue 1 (1, .getfield 43, 3) rfl rfl) rfl clf_9 (by decide) rfl (by decide) wd_511,
    st_iload_n hC (n := 2) (k := 2) (dc_X2_isTrue 2 (4, .iload_n 2, 1) rfl rfl) rfl rfl,
    st_iald hC (n := 3) (dc_X2_isTrue 3 (5, .iaload, 1) rfl rfl) rfl,
    st_bipush hC (n := 4) (x := 26) (dc_X2_isTrue 4 (6, .bipush 26, 2) rfl rfl) rfl (by decide),
    st_icne hC (n := 5) (dc_X2_isTrue 5 (8, .if_icmp .ne 14, 3) rfl rfl) rfl (by decide),
    st_aload_n hC (n := 6) (k := 0) (dc_X2_isTrue 6 (11, .aload_n 0, 1) rfl rfl) rfl rfl,
    st_aload_n hC (n := 7) (k := 1) (dc_X2_isTrue 7 (12, .aload_n 1, 1) rfl rfl) rfl rfl,
    st_getR hC (n := 8) (k := 9) (j := 1) (dc_X2_isTrue 8 (13, .getfield 67, 3) rfl rfl) rfl clf_9 (by decide) rfl (by decide) wd_514,
    st_iload_n hC (n := 9) (k := 2) (dc_X2_isTrue 9 (16, .iload_n 2, 1) rfl rfl) rfl rfl,
    st_iald hC (n := 10) (dc_X2_isTrue 10 (17, .iaload, 1) rfl rfl) rfl,
    st_callV hC (n := 11) (k := 6) (na := 1) (con_X6_isBare l) (dc_X2_isTrue 11 (18, .invokevirtual 70, 3) rfl rfl) rfl wd_1206 wd_155 (by decide) ⟨rfl, rfl, by decide, by decide⟩ hM wd_1488 wd_1204 wd_1205 clf_6,
    st_zret hC (n := 12) hR (dc_X2_isTrue 12 (21, .ireturn, 1) rfl rfl),
    st_aload_n hC (n := 13) (k := 1) (dc_X2_isTrue 13 (22, .aload_n 1, 1) rfl rfl) rfl rfl,
    st_getR hC (n := 14) (k := 9) (j := 0) (dc_X2_isTrue 14 (23, .getfield 43, 3) rfl rfl) rfl clf_9 (by decide) rfl (by decide) wd_511,
    st_iload_n hC (n := 15) (k := 2) (dc_X2_isTrue 15 (26, .iload_n 2, 1) rfl rfl) rfl rfl,
    st_iald hC (n := 16) (dc_X2_isTrue 16 (27, .iaload, 1) rfl rfl) rfl,
    st_bipush hC (n := 17) (x := 25) (dc_X2_isTrue 17 (28, .bipush 25, 2) rfl rfl) rfl (by decide),
    st_icne hC (n := 18) (dc_X2_isTrue 18 (30, .if_icmp .ne 20, 3) rfl rfl) rfl (by decide),
    st_aload_n hC (n := 19) (k := 0) (dc_X2_isTrue 19 (33, .aload_n 0, 1) rfl rfl) rfl rfl,
    st_aload_n hC (n := 20) (k := 1) (dc_X2_isTrue 20 (34, .aload_n 1, 1) rfl rfl) rfl rfl,
    st_getR hC (n := 21) (k := 9) (j := 1) (dc_X2_isTrue 21 (35, .getfield 67, 3) rfl rfl) rfl clf_9 (by decide) rfl (by decide) wd_514,
    st_iload_n hC (n := 22) (k := 2) (dc_X2_isTrue 22 (38, .iload_n 2, 1) rfl rfl) rfl rfl,
    st_iald hC (n := 23) (dc_X2_isTrue 23 (39, .iaload, 1) rfl rfl) rfl,
    st_aload_n hC (n := 24) (k := 1) (dc_X2_isTrue 24 (40, .aload_n 1, 1) rfl rfl) rfl rfl,
    st_getR hC (n := 25) (k := 9) (j := 2) (dc_X2_isTrue 25 (41, .getfield 74, 3) rfl rfl) rfl clf_9 (by decide) rfl (by decide) wd_517,
    st_iload_n hC (n := 26) (k := 2) (dc_X2_isTrue 26 (44, .iload_n 2, 1) rfl rfl) rfl rfl,
    st_iald hC (n := 27) (dc_X2_isTrue 27 (45, .iaload, 1) rfl rfl) rfl,
    st_callV hC (n := 28) (k := 6) (na := 2) (con_X6_isWilling l) (dc_X2_isTrue 28 (46, .invokevirtual 77, 3) rfl rfl) rfl wd_1155 wd_155 (by decide) ⟨rfl, rfl, by decide, by decide⟩ hM wd_1489 wd_1153 wd_1154 clf_6,
    st_zret hC (n := 29) hR (dc_X2_isTrue 29 (49, .ireturn, 1) rfl rfl),
    st_aload_n hC (n := 30) (k := 0) (dc_X2_isTrue 30 (50, .aload_n 0, 1) rfl rfl) rfl rfl,
    st_aload_n hC (n := 31) (k := 1) (dc_X2_isTrue 31 (51, .aload_n 1, 1) rfl rfl) rfl rfl,
    st_getR hC (n := 32) (k := 9) (j := 1) (dc_X2_isTrue 32 (52, .getfield 67, 3) rfl rfl) rfl clf_9 (by decide) rfl (by decide) wd_514,
    st_iload_n hC (n := 33) (k := 2) (dc_X2_isTrue 33 (55, .iload_n 2, 1) rfl rfl) rfl rfl,
    st_iald hC (n := 34) (dc_X2_isTrue 34 (56, .iaload, 1) rfl rfl) rfl,
    st_aload_n hC (n := 35) (k := 1) (dc_X2_isTrue 35 (57, .aload_n 1, 1) rfl rfl) rfl rfl,
    st_getR hC (n := 36) (k := 9) (j := 2) (dc_X2_isTrue 36 (58, .getfield 74, 3) rfl rfl) rfl clf_9 (by decide) rfl (by decide) wd_517,
    st_iload_n hC (n := 37) (k := 2) (dc_X2_isTrue 37 (61, .iload_n 2, 1) rfl rfl) rfl rfl,
    st_iald hC (n := 38) (dc_X2_isTrue 38 (62, .iaload, 1) rfl rfl) rfl,
    st_callV hC (n := 39) (k := 6) (na := 2) (con_X6_hears l) (dc_X2_isTrue 39 (63, .invokevirtual 81, 3) rfl rfl) rfl wd_1143 wd_155 (by decide) ⟨rfl, rfl, by decide, by decide⟩ hM wd_1490 wd_1141 wd_1142 clf_6,
    st_istore_n hC (n := 40) (k := 3) (dc_X2_isTrue 40 (66, .istore_n 3, 1) rfl rfl) rfl rfl (by decide),
    st_aload_n hC (n := 41) (k := 1) (dc_X2_isTrue 41 (67, .aload_n 1, 1) rfl rfl) rfl rfl,
    st_getR hC (n := 42) (k := 9) (j := 3) (dc_X2_isTrue 42 (68, .getfield 85, 3) rfl rfl) rfl clf_9 (by decide) rfl (by decide) wd_520,
    st_iload_n hC (n := 43) (k := 2) (dc_X2_isTrue 43 (71, .iload_n 2, 1) rfl rfl) rfl rfl,
    st_iald hC (n := 44) (dc_X2_isTrue 44 (72, .iaload, 1) rfl rfl) rfl,
    st_lookup hC (n := 45) (cs := [(34, 46), (35, 56)]) (d := 66) (dc_X2_isTrue 45 (73, .lookupswitch 59 #[(34, 27), (35, 43)], 27) rfl rfl) (by decide) (by decide) (swl_of _ _ (by decide +kernel)),
    st_iload_n hC (n := 46) (k := 3) (dc_X2_isTrue 46 (100, .iload_n 3, 1) rfl rfl) rfl rfl,
    st_aload_n hC (n := 47) (k := 1) (dc_X2_isTrue 47 (101, .aload_n 1, 1) rfl rfl) rfl rfl,
    st_getR hC (n := 48) (k := 9) (j := 4) (dc_X2_isTrue 48 (102, .getfield 57, 3) rfl rfl) rfl clf_9 (by decide) rfl (by decide) wd_523,
    st_iload_n hC (n := 49) (k := 2) (dc_X2_isTrue 49 (105, .iload_n 2, 1) rfl rfl) rfl rfl,
    st_iald hC (n := 50) (dc_X2_isTrue 50 (106, .iaload, 1) rfl rfl) rfl,
    st_icge hC (n := 51) (dc_X2_isTrue 51 (107, .if_icmp .ge 7, 3) rfl rfl) rfl (by decide),
    st_iconst hC (n := 52) (x := 1) (dc_X2_isTrue 52 (110, .iconst 1, 1) rfl rfl) rfl (by decide),
    st_goto hC (n := 53) (dc_X2_isTrue 53 (111, .goto 4, 3) rfl rfl) (by decide),
    st_iconst hC (n := 54) (x := 0) (dc_X2_isTrue 54 (114, .iconst 0, 1) rfl rfl) rfl (by decide),
    st_zret hC (n := 55) hR (dc_X2_isTrue 55 (115, .ireturn, 1) rfl rfl),
    st_iload_n hC (n := 56) (k := 3) (dc_X2_isTrue 56 (116, .iload_n 3, 1) rfl rfl) rfl rfl,
    st_aload_n hC (n := 57) (k := 1) (dc_X2_isTrue 57 (117, .aload_n 1, 1) rfl rfl) rfl rfl,
    st_getR hC (n := 58) (k := 9) (j := 4) (dc_X2_isTrue 58 (118, .getfield 57, 3) rfl rfl) rfl clf_9 (by decide) rfl (by decide) wd_523,
    st_iload_n hC (n := 59) (k := 2) (dc_X2_isTrue 59 (121, .iload_n 2, 1) rfl rfl) rfl rfl,
    st_iald hC (n := 60) (dc_X2_isTrue 60 (122, .iaload, 1) rfl rfl) rfl,
    st_icle hC (n := 61) (dc_X2_isTrue 61 (123, .if_icmp .le 7, 3) rfl rfl) rfl (by decide),
    st_iconst hC (n := 62) (x := 1) (dc_X2_isTrue 62 (126, .iconst 1, 1) rfl rfl) rfl (by decide),
    st_goto hC (n := 63) (dc_X2_isTrue 63 (127, .goto 4, 3) rfl rfl) (by decide),
    st_iconst hC (n := 64) (x := 0) (dc_X2_isTrue 64 (130, .iconst 0, 1) rfl rfl) rfl (by decide),
    st_zret hC (n := 65) hR (dc_X2_isTrue 65 (131, .ireturn, 1) rfl rfl),
    st_iload_n hC (n := 66) (k := 3) (dc_X2_isTrue 66 (132, .iload_n 3, 1) rfl rfl) rfl rfl,
    st_aload_n hC (n := 67) (k := 1) (dc_X2_isTrue 67 (133, .aload_n 1, 1) rfl rfl) rfl rfl,
    st_getR hC (n := 68) (k := 9) (j := 4) (dc_X2_isTrue 68 (134, .getfield 57, 3) rfl rfl) rfl clf_9 (by decide) rfl (by decide) wd_523,
    st_iload_n hC (n := 69) (k := 2) (dc_X2_isTrue 69 (137, .iload_n 2, 1) rfl rfl) rfl rfl,
    st_iald hC (n := 70) (dc_X2_isTrue 70 (138, .iaload, 1) rfl rfl) rfl,
    st_icne hC (n := 71) (dc_X2_isTrue 71 (139, .if_icmp .ne 7, 3) rfl rfl) rfl (by decide),
    st_iconst hC (n := 72) (x := 1) (dc_X2_isTrue 72 (142, .iconst 1, 1) rfl rfl) rfl (by decide),
    st_goto hC (n := 73) (dc_X2_isTrue 73 (143, .goto 4, 3) rfl rfl) (by decide),
    st_iconst hC (n := 74) (x := 0) (dc_X2_isTrue 74 (146, .iconst 0, 1) rfl rfl) rfl (by decide),
    st_zret hC (n := 75) hR (dc_X2_isTrue 75 (147, .ireturn, 1) rfl rfl), trivial⟩
set_option maxRecDepth 8000 in
theorem vc_X2_isTrue : VC P_X2_isTrue 4 Pre_X2_isTrue Fn_X2_isTrue := by
  rintro mm as hom hoa ⟨g, ns, nm, nt, L, k, hV, ⟨y1, y2, y3, y4, y5⟩, hk, hA, rfl⟩
  refine ⟨Nat.le_of_ble_eq_true rfl, fun X h => ?_⟩
  have ns4 : ns ≤ 4 := hV.1.1.2
  have nm4 : nm ≤ 4 := hV.1.2.1.2
  have ek : (nI k).toNatClampNeg = k := nI_clamp (by omega)
  have hF : Fn_X2_isTrue mm [vR 6 g, vR 9 g, vI (nI k)] = (some (vI (bI (c2t mm g k))), mm) := by
    show (some (vI (bI (c2t mm g (nI k).toNatClampNeg))), mm) = _
    simp only [ek]
  rw [hF] at h
  obtain ⟨s, hs, es⟩ := y2 (by rcases hA with e | e | e <;> simp only [e] <;> decide)
  have esc : (nI s).toNatClampNeg = s := nI_clamp (by omega)
  have s30 : ¬ mm.1 43 g k = 26 → ¬ mm.1 43 g k = 25 → X 30 [some (vR 6 g), some (vR 9 g), some (vI (nI k)), none] [] mm := by
    intro n1 n2
    have z := c2t_24 n1 n2
    have a24 : mm.1 43 g k = 24 := by
      rcases hA with e | e | e
      · exact e
      · exact absurd e n2
      · exact absurd e n1
    obtain ⟨d, hd, ed⟩ := y3 (Or.inr (Or.inl a24))
    have edc : (nI d).toNatClampNeg = d := nI_clamp (by omega)
    rw [bI_iff z, es, ed, edc] at h
    obtain ⟨H, eH⟩ : ∃ H, H = hdA (abV mm g) (nI s) d := ⟨_, rfl⟩
    rw [← eH] at h
    have s41 : X 41 [some (vR 6 g), some (vR 9 g), some (vI (nI k)), some (vI (H))] [] mm := by
      show X 41 [some (vR 6 g), some (vR 9 g), some (vI (nI k)), some (vI H)] [] mm
      refine h (fun _ => false) 3000 41 _ _ _ ?_
      refine And.intro (show inb (nI k) (alen 46) = true from (inb_o 60 rfl rfl rfl (by omega))) ?_
      refine And.intro ⟨fun b45 => ?_, fun b45 => ?_, trivial⟩ ?_
      · replace b45 : mm.1 46 g ((nI k).toNatClampNeg) = 34 := b45
        (try simp only [ek] at b45)
        refine And.intro (show inb (nI k) (alen 47) = true from (inb_o 60 rfl rfl rfl (by omega))) ?_
        refine br_c (fun b51 => ?_) (fun b51 => ?_)
        · -- 51: mm.1 47 g ((nI k).toNatClampNeg) ≤ H taken
          replace b51 : mm.1 47 g ((nI k).toNatClampNeg) ≤ H := b51
          (try simp only [ek] at b51)
          refine And.intro (Or.inl rfl) ?_
          show ((some (vI 0) : Option MV), mm) = _
          (try simp only [ek])
          exact ret_f (fun z => by unfold cpC at z; rw [b45, if_pos rfl] at z; exact Int32.not_lt.mpr b51 z)
        · -- 51: mm.1 47 g ((nI k).toNatClampNeg) ≤ H on
          replace b51 : ¬ (mm.1 47 g ((nI k).toNatClampNeg) ≤ H) := b51
          (try simp only [ek] at b51)
          refine And.intro (Or.inr rfl) ?_
          show ((some (vI 1) : Option MV), mm) = _
          (try simp only [ek])
          exact ret_t (by unfold cpC; rw [b45, if_pos rfl]; exact Int32.not_le.mp b51)
      · replace b45 : mm.1 46 g ((nI k).toNatClampNeg) = 35 := b45
        (try simp only [ek] at b45)
        refine And.intro (show inb (nI k) (alen 47) = true from (inb_o 60 rfl rfl rfl (by omega))) ?_
        refine br_c (fun b61 => ?_) (fun b61 => ?_)
        · -- 61: H ≤ mm.1 47 g ((nI k).toNatClampNeg) taken
          replace b61 : H ≤ mm.1 47 g ((nI k).toNatClampNeg) := b61
          (try simp only [ek] at b61)
          refine And.intro (Or.inl rfl) ?_
          show ((some (vI 0) : Option MV), mm) = _
          (try simp only [ek])
          exact ret_f (fun z => by unfold cpC at z; rw [b45, if_neg (by decide), if_pos rfl] at z; exact Int32.not_lt.mpr b61 z)
        · -- 61: H ≤ mm.1 47 g ((nI k).toNatClampNeg) on
          replace b61 : ¬ (H ≤ mm.1 47 g ((nI k).toNatClampNeg)) := b61
          (try simp only [ek] at b61)
          refine And.intro (Or.inr rfl) ?_
          show ((some (vI 1) : Option MV), mm) = _
          (try simp only [ek])
          exact ret_t (by unfold cpC; rw [b45, if_neg (by decide), if_pos rfl]; exact Int32.not_le.mp b61)
      · intro b45
        have n45_34 : ¬ mm.1 46 g ((nI k).toNatClampNeg) = 34 := b45 (34, 46) (by decide)
        have n45_35 : ¬ mm.1 46 g ((nI k).toNatClampNeg) = 35 := b45 (35, 56) (by decide)
        (try simp only [ek] at n45_34)
        (try simp only [ek] at n45_35)
        refine And.intro (show inb (nI k) (alen 47) = true from (inb_o 60 rfl rfl rfl (by omega))) ?_
        refine brn_c (fun b71 => ?_) (fun b71 => ?_)
        · -- 71: H = mm.1 47 g ((nI k).toNatClampNeg) taken
          replace b71 : ¬ (H = mm.1 47 g ((nI k).toNatClampNeg)) := b71
          (try simp only [ek] at b71)
          refine And.intro (Or.inl rfl) ?_
          show ((some (vI 0) : Option MV), mm) = _
          (try simp only [ek])
          exact ret_f (fun z => by unfold cpC at z; rw [if_neg n45_34, if_neg n45_35] at z; exact b71 z)
        · -- 71: H = mm.1 47 g ((nI k).toNatClampNeg) on
          replace b71 : H = mm.1 47 g ((nI k).toNatClampNeg) := b71
          (try simp only [ek] at b71)
          refine And.intro (Or.inr rfl) ?_
          show ((some (vI 1) : Option MV), mm) = _
          (try simp only [ek])
          exact ret_t (by unfold cpC; rw [if_neg n45_34, if_neg n45_35]; exact b71)
    show X 30 [some (vR 6 g), some (vR 9 g), some (vI (nI k)), none] [] mm
    refine h (fun i => Nat.beq i 41) 3000 30 _ _ _ ?_
    refine And.intro (show inb (nI k) (alen 44) = true from (inb_o 60 rfl rfl rfl (by omega))) ?_
    refine And.intro (show inb (nI k) (alen 45) = true from (inb_o 60 rfl rfl rfl (by omega))) ?_
    refine And.intro (show Pre_X6_hears mm [vR 6 g, vI (mm.1 44 g ((nI k).toNatClampNeg)), vI (mm.1 45 g ((nI k).toNatClampNeg))] from ⟨g, ns, nm, nt, d, hV, by omega, _, by rw [ek, ed]⟩) ?_
    show X 41 [some (vR 6 g), some (vR 9 g), some (vI (nI k)), some (vI (hdA (abV mm g) (mm.1 44 g ((nI k).toNatClampNeg)) (mm.1 45 g ((nI k).toNatClampNeg)).toNatClampNeg))] [] mm
    rw [ek, es, ed, edc, ← eH]
    exact s41
  show X 0 [some (vR 6 g), some (vR 9 g), some (vI (nI k)), none] [] mm
  refine h (fun i => Nat.beq i 30) 3000 0 _ _ _ ?_
  refine And.intro (show inb (nI k) (alen 43) = true from (inb_o 60 rfl rfl rfl (by omega))) ?_
  refine brn_c (fun b5 => ?_) (fun b5 => ?_)
  · -- 5: mm.1 43 g ((nI k).toNatClampNeg) = 26 taken
    replace b5 : ¬ (mm.1 43 g ((nI k).toNatClampNeg) = 26) := b5
    (try simp only [ek] at b5)
    refine And.intro (show inb (nI k) (alen 43) = true from (inb_o 60 rfl rfl rfl (by omega))) ?_
    refine brn_c (fun b18 => ?_) (fun b18 => ?_)
    · -- 18: mm.1 43 g ((nI k).toNatClampNeg) = 25 taken
      replace b18 : ¬ (mm.1 43 g ((nI k).toNatClampNeg) = 25) := b18
      (try simp only [ek] at b18)
      show X 30 [some (vR 6 g), some (vR 9 g), some (vI (nI k)), none] [] mm
      (try simp only [ek])
      exact s30 b5 b18
    · -- 18: mm.1 43 g ((nI k).toNatClampNeg) = 25 on
      replace b18 : mm.1 43 g ((nI k).toNatClampNeg) = 25 := b18
      (try simp only [ek] at b18)
      refine And.intro (show inb (nI k) (alen 44) = true from (inb_o 60 rfl rfl rfl (by omega))) ?_
      refine And.intro (show inb (nI k) (alen 45) = true from (inb_o 60 rfl rfl rfl (by omega))) ?_
      refine And.intro (show Pre_X6_isWilling mm [vR 6 g, vI (mm.1 44 g ((nI k).toNatClampNeg)), vI (mm.1 45 g ((nI k).toNatClampNeg))] from (by obtain ⟨d, hd, ed⟩ := y3 (Or.inr (Or.inr b18)); exact ⟨g, ns, nm, nt, s, d, hV, by omega, by omega, by rw [ek, es, ed]⟩)) ?_
      refine And.intro bI_in ?_
      show ((some (vI (bI (ysA (abV mm g) (mm.1 44 g ((nI k).toNatClampNeg)).toNatClampNeg (mm.1 45 g ((nI k).toNatClampNeg)).toNatClampNeg))) : Option MV), mm) = _
      (try simp only [ek])
      rw [bI_iff (c2t_25 b5 b18)]
  · -- 5: mm.1 43 g ((nI k).toNatClampNeg) = 26 on
    replace b5 : mm.1 43 g ((nI k).toNatClampNeg) = 26 := b5
    (try simp only [ek] at b5)
    refine And.intro (show inb (nI k) (alen 44) = true from (inb_o 60 rfl rfl rfl (by omega))) ?_
    refine And.intro (show Pre_X6_isBare mm [vR 6 g, vI (mm.1 44 g ((nI k).toNatClampNeg))] from ⟨g, ns, nm, nt, hV, _, rfl⟩) ?_
    refine And.intro bI_in ?_
    show ((some (vI (bI (thA (abV mm g) (mm.1 44 g ((nI k).toNatClampNeg)) &&& (abV mm g 8 ^^^ (-1)) = 0))) : Option MV), mm) = _
    (try simp only [ek])
    rw [bI_iff (c2t_26 b5)]
theorem con_X2_isTrue (l : Launch) : CON l y_X2_isTrue prog_4_method_5_code 4 (some .boolean) rm_X2_isTrue Pre_X2_isTrue Fn_X2_isTrue := CON_of (by decide) rfl rfl (sa_X2_isTrue l) vc_X2_isTrue
def c2dQ (m : MM) (g : Nat) (c one two : Int32) : PR := if c = 16 then c2n 2 (c2gV g m one.toNatClampNeg) else if c = 22 then pMi (mgA (abV m g) one.toNatClampNeg) (cgM m g 6 one.toNatClampNeg) m else if c = 17 then c2n 2 (c2g m g one) else if c = 21 then pMi (cbP (abV m g) one.toNatClampNeg) (feM m g one.toNatClampNeg) m else if c = 18 then c2n 1 (pMi (¬ abV m g 6 = 999) (pwM m g) m) else if c = 19 then c2n 3 (pMi (wdP (abV m g) one.toNatClampNeg two.toNatClampNeg) (mrM m g one.toNatClampNeg two.toNatClampNeg) m) else (false, m)
def c2d (m : MM) (g k : Nat) : PR := c2dQ m g (m.1 43 g k) (m.1 44 g k) (m.1 45 g k)
theorem c2d_16 {m : MM} {g : Nat} {one two : Int32} : c2dQ m g 16 one two = c2n 2 (c2gV g m one.toNatClampNeg) := rfl
theorem c2d_22 {m : MM} {g : Nat} {one two : Int32} : c2dQ m g 22 one two = pMi (mgA (abV m g) one.toNatClampNeg) (cgM m g 6 one.toNatClampNeg) m := rfl
theorem c2d_17 {m : MM} {g : Nat} {one two : Int32} : c2dQ m g 17 one two = c2n 2 (c2g m g one) := rfl
theorem c2d_21 {m : MM} {g : Nat} {one two : Int32} : c2dQ m g 21 one two = pMi (cbP (abV m g) one.toNatClampNeg) (feM m g one.toNatClampNeg) m := rfl
theorem c2d_18 {m : MM} {g : Nat} {one two : Int32} : c2dQ m g 18 one two = c2n 1 (pMi (¬ abV m g 6 = 999) (pwM m g) m) := rfl
theorem c2d_19 {m : MM} {g : Nat} {one two : Int32} : c2dQ m g 19 one two = c2n 3 (pMi (wdP (abV m g) one.toNatClampNeg two.toNatClampNeg) (mrM m g one.toNatClampNeg two.toNatClampNeg) m) := rfl
theorem c2d_o {m : MM} {g : Nat} {c one two : Int32} (n16 : ¬ c = 16) (n22 : ¬ c = 22) (n17 : ¬ c = 17) (n21 : ¬ c = 21) (n18 : ¬ c = 18) (n19 : ¬ c = 19) : c2dQ m g c one two = (false, m) := by
  unfold c2dQ
  rw [if_neg n16, if_neg n22, if_neg n17, if_neg n21, if_neg n18, if_neg n19]
theorem pMi_1 {p : Prop} [Decidable p] {a b : MM} : ((pMi p a b).1 = true ↔ p) := by
  unfold pMi
  by_cases h : p
  · rw [if_pos h]; exact ⟨fun _ => h, fun _ => rfl⟩
  · rw [if_neg h]; exact ⟨fun z => absurd z Bool.false_ne_true, fun z => absurd z h⟩
theorem pMi_m {p : Prop} [Decidable p] {a b : MM} : mite p a b = (pMi p a b).2 := by
  unfold pMi mite
  by_cases h : p
  · rw [if_pos h, if_pos h]
  · rw [if_neg h, if_neg h]
theorem pMi_b {p : Prop} [Decidable p] {a b : MM} : bI p = bI ((pMi p a b).1 = true) := bI_iff pMi_1.symm
/-- a counted deed's answer -/
theorem c2n_r {w : Nat} {p q : PR} (h : q = c2n w p) : ((some (vI (bI (p.1 = true))) : Option MV), mRow p.2 21 0 (upd (p.2.1 21 0) w (p.2.1 21 0 w + bI (p.1 = true)))) = (some (vI (bI (q.1 = true))), q.2) := by rw [h]; rfl

--tpl ⟨_, _, _, _, _, {3N}, _, by assumption, by assumption, by omega, by assumption, by omega, rfl⟩ || bI ((c2d {m} {g1} {3n}).1 = true) || (c2d {m} {g1} {3n}).2
def Pre_X2_isDone : PreT := fun m as => ∃ g ns nm nt L k d : Nat, VC2 m g ns nm nt ∧ YLc m g ns nm nt L k ∧ k < 60 ∧ m.1 2 0 3 = nI d ∧ d < 65536 ∧ as = [vR 2 0, vR 6 g, vR 9 g, vI (nI k)]
def Fn_X2_isDone : FnT := fun m as => match as with
  | [_, Sum.inr (Sum.inr q), _, Sum.inl k] => (some (vI (bI ((c2d m q.2 k.toNatClampNeg).1 = true))), (c2d m q.2 k.toNatClampNeg).2)
  | _ => (none, m)
abbrev y_X2_isDone : MethodName := ⟨"GivenUp$Life", "isDone", "(LGivenUp$Valley;LGivenUp$Years;I)Z"⟩
def P_X2_isDone : List StpT := [s_aload 2, s_getR 9 0 43, s_iload 3, s_iald, s_sw (tsw (16) [5, 22, 40, 46, 60, 33, 15]) 60, s_aload 0, s_ic (2), s_aload 1, s_aload 2, s_getR 9 1 44, s_iload 3, s_iald, s_callV 6 1 Pre_X6_giveUp Fn_X6_giveUp, s_callV 2 2 Pre_X2_counted Fn_X2_counted, s_zret, s_aload 1, s_aload 2, s_getR 9 1 44, s_iload 3, s_iald, s_callV 6 1 Pre_X6_pretend Fn_X6_pretend, s_zret, s_aload 0, s_ic (2), s_aload 0, s_aload 1, s_aload 2, s_getR 9 1 44, s_iload 3, s_iald, s_callV 2 2 Pre_X2_gaveAny Fn_X2_gaveAny, s_callV 2 2 Pre_X2_counted Fn_X2_counted, s_zret, s_aload 1, s_aload 2, s_getR 9 1 44, s_iload 3, s_iald, s_callV 6 1 Pre_X6_fetch Fn_X6_fetch, s_zret, s_aload 0, s_ic (1), s_aload 1, s_callV 6 0 Pre_X6_passWeek Fn_X6_passWeek, s_callV 2 2 Pre_X2_counted Fn_X2_counted, s_zret, s_aload 0, s_ic (3), s_aload 1, s_aload 2, s_getR 9 1 44, s_iload 3, s_iald, s_aload 2, s_getR 9 2 45, s_iload 3, s_iald, s_callV 6 2 Pre_X6_marry Fn_X6_marry, s_callV 2 2 Pre_X2_counted Fn_X2_counted, s_zret, s_ic (0), s_zret]
def pc_X2_isDone : Nat → Nat := fun i => [0, 1, 4, 5, 6, 48, 49, 50, 51, 52, 55, 56, 57, 60, 63, 64, 65, 66, 69, 70, 71, 74, 75, 76, 77, 78, 79, 80, 83, 84, 85, 88, 91, 92, 93, 94, 97, 98, 99, 102, 103, 104, 105, 106, 109, 112, 113, 114, 115, 116, 117, 120, 121, 122, 123, 126, 127, 128, 131, 134, 135, 136].getD i 0
def dl_X2_isDone : List (Nat × Instr × Nat) := [(0, .aload_n 2, 1), (1, .getfield 43, 3), (4, .iload_n 3, 1), (5, .iaload, 1), (6, .tableswitch 129 16 22 #[42, 69, 97, 107, 129, 86, 58], 42), (48, .aload_n 0, 1), (49, .iconst 2, 1), (50, .aload_n 1, 1), (51, .aload_n 2, 1), (52, .getfield 67, 3), (55, .iload_n 3, 1), (56, .iaload, 1), (57, .invokevirtual 88, 3), (60, .invokevirtual 91, 3), (63, .ireturn, 1), (64, .aload_n 1, 1), (65, .aload_n 2, 1), (66, .getfield 67, 3), (69, .iload_n 3, 1), (70, .iaload, 1), (71, .invokevirtual 95, 3), (74, .ireturn, 1), (75, .aload_n 0, 1), (76, .iconst 2, 1), (77, .aload_n 0, 1), (78, .aload_n 1, 1), (79, .aload_n 2, 1), (80, .getfield 67, 3), (83, .iload_n 3, 1), (84, .iaload, 1), (85, .invokevirtual 98, 3), (88, .invokevirtual 91, 3), (91, .ireturn, 1), (92, .aload_n 1, 1), (93, .aload_n 2, 1), (94, .getfield 67, 3), (97, .iload_n 3, 1), (98, .iaload, 1), (99, .invokevirtual 102, 3), (102, .ireturn, 1), (103, .aload_n 0, 1), (104, .iconst 1, 1), (105, .aload_n 1, 1), (106, .invokevirtual 105, 3), (109, .invokevirtual 91, 3), (112, .ireturn, 1), (113, .aload_n 0, 1), (114, .iconst 3, 1), (115, .aload_n 1, 1), (116, .aload_n 2, 1), (117, .getfield 67, 3), (120, .iload_n 3, 1), (121, .iaload, 1), (122, .aload_n 2, 1), (123, .getfield 74, 3), (126, .iload_n 3, 1), (127, .iaload, 1), (128, .invokevirtual 109, 3), (131, .invokevirtual 91, 3), (134, .ireturn, 1), (135, .iconst 0, 1), (136, .ireturn, 1)]
theorem dc_X2_isDone : DEC prog_4_method_6_code pc_X2_isDone dl_X2_isDone := DEC_of (by decide +kernel)
abbrev rm_X2_isDone : Room := { frames := 4, cells := 0, slots := 0, locals := 92 }
set_option maxRecDepth 20000 in
theorem sa_X2_isDone (l : Launch) : SNDALL l prog_4_method_6_code "GivenUp$Life" 4 (some .boolean) rm_X2_isDone P_X2_isDone pc_X2_isDone := fun p e s m args below meth c cells slots Q D dA ad A RR hC hR => by
  have hM := RTX_room (R := rm_X2_isDone) hR
  exact ⟨st_aload_n hC (n := 0) (k := 2) (dc_X2_isDone 0 (0, .aload_n 2, 1) rfl rfl) rfl rfl,
    st_getR hC (n := 1) (k := 9) (j := 0) (dc_X2_isDone 1 (1, .getfield 43, 3) rfl rfl) rfl clf_9 (by decide) rfl (by decide) wd_511,
    st_iload_n hC (n := 2) (k := 3) (dc_X2_isDone 2 (4, .iload_n 3, 1) rfl rfl) rfl rfl,
    st_iald hC (n := 3) (dc_X2_isDone 3 (5, .iaload, 1) rfl rfl) rfl,
    st_table hC (n := 4) (ts := [5, 22, 40, 46, 60, 33, 15]) (dc_X2_isDone 4 (6, .tableswitch 129 16 22 #[42, 69, 97, 107, 129, 86, 58], 42) rfl rfl) (by decide) (by decide) (by decide) (by decide) (swt_of _ _ _ (by decide +kernel)),
    st_aload_n hC (n := 5) (k := 0) (dc_X2_isDone 5 (48, .aload_n 0, 1) rfl rfl) rfl rfl,
    st_iconst hC (n := 6) (x := 2) (dc_X2_isDone 6 (49, .iconst 2, 1) rfl rfl) rfl (by decide),
    st_aload_n hC (n := 7) (k := 1) (dc_X2_isDone 7 (50, .aload_n 1, 1) rfl rfl) rfl rfl,
    st_aload_n hC (n := 8) (k := 2) (dc_X2_isDone 8 (51, .aload_n 2, 1) rfl rfl) rfl rfl,
    st_getR hC (n := 9) (k := 9) (j := 1) (dc_X2_isDone 9 (52, .getfield 67, 3) rfl rfl) rfl clf_9 (by decide) rfl (by decide) wd_514,
    st_iload_n hC (n := 10) (k := 3) (dc_X2_isDone 10 (55, .iload_n 3, 1) rfl rfl) rfl rfl,
    st_iald hC (n := 11) (dc_X2_isDone 11 (56, .iaload, 1) rfl rfl) rfl,
    st_callV hC (n := 12) (k := 6) (na := 1) (con_X6_giveUp l) (dc_X2_isDone 12 (57, .invokevirtual 88, 3) rfl rfl) rfl wd_1098 wd_155 (by decide) ⟨rfl, rfl, by decide, by decide⟩ hM wd_1495 wd_1096 wd_1097 clf_6,
    st_callV hC (n := 13) (k := 2) (na := 2) (con_X2_counted l) (dc_X2_isDone 13 (60, .invokevirtual 91, 3) rfl rfl) rfl wd_1499 wd_154 (by decide) ⟨rfl, rfl, by decide, by decide⟩ hM wd_1496 wd_1498 wd_47 clf_2,
    st_zret hC (n := 14) hR (dc_X2_isDone 14 (63, .ireturn, 1) rfl rfl),
    st_aload_n hC (n := 15) (k := 1) (dc_X2_isDone 15 (64, .aload_n 1, 1) rfl rfl) rfl rfl,
    st_aload_n hC (n := 16) (k := 2) (dc_X2_isDone 16 (65, .aload_n 2, 1) rfl rfl) rfl rfl,
    st_getR hC (n := 17) (k := 9) (j := 1) (dc_X2_isDone 17 (66, .getfield 67, 3) rfl rfl) rfl clf_9 (by decide) rfl (by decide) wd_514,
    st_iload_n hC (n := 18) (k := 3) (dc_X2_isDone 18 (69, .iload_n 3, 1) rfl rfl) rfl rfl,
    st_iald hC (n := 19) (dc_X2_isDone 19 (70, .iaload, 1) rfl rfl) rfl,
    st_callV hC (n := 20) (k := 6) (na := 1) (con_X6_pretend l) (dc_X2_isDone 20 (71, .invokevirtual 95, 3) rfl rfl) rfl wd_1110 wd_155 (by decide) ⟨rfl, rfl, by decide, by decide⟩ hM wd_1500 wd_1108 wd_1109 clf_6,
    st_zret hC (n := 21) hR (dc_X2_isDone 21 (74, .ireturn, 1) rfl rfl),
    st_aload_n hC (n := 22) (k := 0) (dc_X2_isDone 22 (75, .aload_n 0, 1) rfl rfl) rfl rfl,
    st_iconst hC (n := 23) (x := 2) (dc_X2_isDone 23 (76, .iconst 2, 1) rfl rfl) rfl (by decide),
    st_aload_n hC (n := 24) (k := 0) (dc_X2_isDone 24 (77, .aload_n 0, 1) rfl rfl) rfl rfl,
    st_aload_n hC (n := 25) (k := 1) (dc_X2_isDone 25 (78, .aload_n 1, 1) rfl rfl) rfl rfl,
    st_aload_n hC (n := 26) (k := 2) (dc_X2_isDone 26 (79, .aload_n 2, 1) rfl rfl) rfl rfl,
    st_getR hC (n := 27) (k := 9) (j := 1) (dc_X2_isDone 27 (80, .getfield 67, 3) rfl rfl) rfl clf_9 (by decide) rfl (by decide) wd_514,
    st_iload_n hC (n := 28) (k := 3) (dc_X2_isDone 28 (83, .iload_n 3, 1) rfl rfl) rfl rfl,
    st_iald hC (n := 29) (dc_X2_isDone 29 (84, .iaload, 1) rfl rfl) rfl,
    st_callV hC (n := 30) (k := 2) (na := 2) (con_X2_gaveAny l) (dc_X2_isDone 30 (85, .invokevirtual 98, 3) rfl rfl) rfl wd_1504 wd_154 (by decide) ⟨rfl, rfl, by decide, by decide⟩ hM wd_1501 wd_1503 wd_48 clf_2,
    st_callV hC (n := 31) (k := 2) (na := 2) (con_X2_counted l) (dc_X2_isDone 31 (88, .invokevirtual 91, 3) rfl rfl) rfl wd_1499 wd_154 (by decide) ⟨rfl, rfl, by decide, by decide⟩ hM wd_1496 wd_1498 wd_47 clf_2,
    st_zret hC (n := 32) hR (dc_X2_isDone 32 (91, .ireturn, 1) rfl rfl),
    st_aload_n hC (n := 33) (k := 1) (dc_X2_isDone 33 (92, .aload_n 1, 1) rfl rfl) rfl rfl,
    st_aload_n hC (n := 34) (k := 2) (dc_X2_isDone 34 (93, .aload_n 2, 1) rfl rfl) rfl rfl,
    st_getR hC (n := 35) (k := 9) (j := 1) (dc_X2_isDone 35 (94, .getfield 67, 3) rfl rfl) rfl clf_9 (by decide) rfl (by decide) wd_514,
    st_iload_n hC (n := 36) (k := 3) (dc_X2_isDone 36 (97, .iload_n 3, 1) rfl rfl) rfl rfl,
    st_iald hC (n := 37) (dc_X2_isDone 37 (98, .iaload, 1) rfl rfl) rfl,
    st_callV hC (n := 38) (k := 6) (na := 1) (con_X6_fetch l) (dc_X2_isDone 38 (99, .invokevirtual 102, 3) rfl rfl) rfl wd_1182 wd_155 (by decide) ⟨rfl, rfl, by decide, by decide⟩ hM wd_1513 wd_1180 wd_1181 clf_6,
    st_zret hC (n := 39) hR (dc_X2_isDone 39 (102, .ireturn, 1) rfl rfl),
    st_aload_n hC (n := 40) (k := 0) (dc_X2_isDone 40 (103, .aload_n 0, 1) rfl rfl) rfl rfl,
    st_iconst hC (n := 41) (x := 1) (dc_X2_isDone 41 (104, .iconst 1, 1) rfl rfl) rfl (by decide),
    st_aload_n hC (n := 42) (k := 1) (dc_X2_isDone 42 (105, .aload_n 1, 1) rfl rfl) rfl rfl,
    st_callV hC (n := 43) (k := 6) (na := 0) (con_X6_passWeek l) (dc_X2_isDone 43 (106, .invokevirtual 105, 3) rfl rfl) rfl wd_1135 wd_155 (by decide) ⟨rfl, rfl, by decide, by decide⟩ hM wd_1514 wd_1133 wd_1134 clf_6,
    st_callV hC (n := 44) (k := 2) (na := 2) (con_X2_counted l) (dc_X2_isDone 44 (109, .invokevirtual 91, 3) rfl rfl) rfl wd_1499 wd_154 (by decide) ⟨rfl, rfl, by decide, by decide⟩ hM wd_1496 wd_1498 wd_47 clf_2,
    st_zret hC (n := 45) hR (dc_X2_isDone 45 (112, .ireturn, 1) rfl rfl),
    st_aload_n hC (n := 46) (k := 0) (dc_X2_isDone 46 (113, .aload_n 0, 1) rfl rfl) rfl rfl,
    st_iconst hC (n := 47) (x := 3) (dc_X2_isDone 47 (114, .iconst 3, 1) rfl rfl) rfl (by decide),
    st_aload_n hC (n := 48) (k := 1) (dc_X2_isDone 48 (115, .aload_n 1, 1) rfl rfl) rfl rfl,
    st_aload_n hC (n := 49) (k := 2) (dc_X2_isDone 49 (116, .aload_n 2, 1) rfl rfl) rfl rfl,
    st_getR hC (n := 50) (k := 9) (j := 1) (dc_X2_isDone 50 (117, .getfield 67, 3) rfl rfl) rfl clf_9 (by decide) rfl (by decide) wd_514,
    st_iload_n hC (n := 51) (k := 3) (dc_X2_isDone 51 (120, .iload_n 3, 1) rfl rfl) rfl rfl,
    st_iald hC (n := 52) (dc_X2_isDone 52 (121, .iaload, 1) rfl rfl) rfl,
    st_aload_n hC (n := 53) (k := 2) (dc_X2_isDone 53 (122, .aload_n 2, 1) rfl rfl) rfl rfl,
    st_getR hC (n := 54) (k := 9) (j := 2) (dc_X2_isDone 54 (123, .getfield 74, 3) rfl rfl) rfl clf_9 (by decide) rfl (by decide) wd_517,
    st_iload_n hC (n := 55) (k := 3) (dc_X2_isDone 55 (126, .iload_n 3, 1) rfl rfl) rfl rfl,
    st_iald hC (n := 56) (dc_X2_isDone 56 (127, .iaload, 1) rfl rfl) rfl,
    st_callV hC (n := 57) (k := 6) (na := 2) (con_X6_marry l) (dc_X2_isDone 57 (128, .invokevirtual 109, 3) rfl rfl) rfl wd_1173 wd_155 (by decide) ⟨rfl, rfl, by decide, by decide⟩ hM wd_1515 wd_1171 wd_1172 clf_6,
    st_callV hC (n := 58) (k := 2) (na := 2) (con_X2_counted l) (dc_X2_isDone 58 (131, .invokevirtual 91, 3) rfl rfl) rfl wd_1499 wd_154 (by decide) ⟨rfl, rfl, by decide, by decide⟩ hM wd_1496 wd_1498 wd_47 clf_2,
    st_zret hC (n := 59) hR (dc_X2_isDone 59 (134, .ireturn, 1) rfl rfl),
    st_iconst hC (n := 60) (x := 0) (dc_X2_isDone 60 (135, .iconst 0, 1) rfl rfl) rfl (by decide),
    st_zret hC (n := 61) hR (dc_X2_isDone 61 (136, .ireturn, 1) rfl rfl), trivial⟩
set_option maxRecDepth 8000 in
theorem vc_X2_isDone : VC P_X2_isDone 4 Pre_X2_isDone Fn_X2_isDone := by
  rintro mm as hom hoa ⟨g, ns, nm, nt, L, k, d, hV, ⟨y1, y2, y3, y4, y5⟩, hk, hd, hd2, rfl⟩
  refine ⟨Nat.le_of_ble_eq_true rfl, fun X h => ?_⟩
  have ns4 : ns ≤ 4 := hV.1.1.2
  have nm4 : nm ≤ 4 := hV.1.2.1.2
  have nt12 : nt ≤ 12 := hV.1.2.2.1.2
  have ek : (nI k).toNatClampNeg = k := nI_clamp (by omega)
  replace h : RUN P_X2_isDone (RT (c2d mm g (nI k).toNatClampNeg)) X := h
  rw [ek] at h
  obtain ⟨c, ec⟩ : ∃ c, mm.1 43 g k = c := ⟨_, rfl⟩
  obtain ⟨one, eo⟩ : ∃ one, mm.1 44 g k = one := ⟨_, rfl⟩
  obtain ⟨two, et⟩ : ∃ two, mm.1 45 g k = two := ⟨_, rfl⟩
  unfold c2d at h
  rw [ec, eo, et] at h
  rw [ec, eo] at y1 y2
  rw [ec, et] at y3
  obtain ⟨p, hp⟩ : ∃ p, p = c2dQ mm g c one two := ⟨_, rfl⟩
  rw [← hp] at h
  have cnt : ∀ w q, w < 5 → p = c2n w q → X 13 [some (vR 2 0), some (vR 6 g), some (vR 9 g), some (vI (nI k))] [vI (bI (q.1 = true)), vI (nI w), vR 2 0] (q.2) := by
    intro w q hw hq
    have ew : (nI w).toNatClampNeg = w := nI_clamp (by omega)
    show X 13 [some (vR 2 0), some (vR 6 g), some (vR 9 g), some (vI (nI k))] [vI (bI (q.1 = true)), vI (nI w), vR 2 0] q.2
    refine h (fun _ => false) 3000 13 _ _ _ ?_
    refine And.intro (show Pre_X2_counted q.2 [vR 2 0, vI (nI w), vI (bI (q.1 = true))] from ⟨w, q.1, hw, rfl⟩) ?_
    refine And.intro bI_in ?_
    show ((some (vI (bI (q.1 = true))) : Option MV), mRow (q.2) 21 0 (upd ((q.2).1 21 0) (nI w).toNatClampNeg ((q.2).1 21 0 (nI w).toNatClampNeg + (bI (q.1 = true))))) = _
    rw [ew]
    exact c2n_r hq
  have cnt31 : ∀ w q, w < 5 → p = c2n w q → X 31 [some (vR 2 0), some (vR 6 g), some (vR 9 g), some (vI (nI k))] [vI (bI (q.1 = true)), vI (nI w), vR 2 0] (q.2) := by
    intro w q hw hq
    have ew : (nI w).toNatClampNeg = w := nI_clamp (by omega)
    show X 31 [some (vR 2 0), some (vR 6 g), some (vR 9 g), some (vI (nI k))] [vI (bI (q.1 = true)), vI (nI w), vR 2 0] q.2
    refine h (fun _ => false) 3000 31 _ _ _ ?_
    refine And.intro (show Pre_X2_counted q.2 [vR 2 0, vI (nI w), vI (bI (q.1 = true))] from ⟨w, q.1, hw, rfl⟩) ?_
    refine And.intro bI_in ?_
    show ((some (vI (bI (q.1 = true))) : Option MV), mRow (q.2) 21 0 (upd ((q.2).1 21 0) (nI w).toNatClampNeg ((q.2).1 21 0 (nI w).toNatClampNeg + (bI (q.1 = true))))) = _
    rw [ew]
    exact c2n_r hq
  have cnt44 : ∀ w q, w < 5 → p = c2n w q → X 44 [some (vR 2 0), some (vR 6 g), some (vR 9 g), some (vI (nI k))] [vI (bI (q.1 = true)), vI (nI w), vR 2 0] (q.2) := by
    intro w q hw hq
    have ew : (nI w).toNatClampNeg = w := nI_clamp (by omega)
    show X 44 [some (vR 2 0), some (vR 6 g), some (vR 9 g), some (vI (nI k))] [vI (bI (q.1 = true)), vI (nI w), vR 2 0] q.2
    refine h (fun _ => false) 3000 44 _ _ _ ?_
    refine And.intro (show Pre_X2_counted q.2 [vR 2 0, vI (nI w), vI (bI (q.1 = true))] from ⟨w, q.1, hw, rfl⟩) ?_
    refine And.intro bI_in ?_
    show ((some (vI (bI (q.1 = true))) : Option MV), mRow (q.2) 21 0 (upd ((q.2).1 21 0) (nI w).toNatClampNeg ((q.2).1 21 0 (nI w).toNatClampNeg + (bI (q.1 = true))))) = _
    rw [ew]
    exact c2n_r hq
  have cnt58 : ∀ w q, w < 5 → p = c2n w q → X 58 [some (vR 2 0), some (vR 6 g), some (vR 9 g), some (vI (nI k))] [vI (bI (q.1 = true)), vI (nI w), vR 2 0] (q.2) := by
    intro w q hw hq
    have ew : (nI w).toNatClampNeg = w := nI_clamp (by omega)
    show X 58 [some (vR 2 0), some (vR 6 g), some (vR 9 g), some (vI (nI k))] [vI (bI (q.1 = true)), vI (nI w), vR 2 0] q.2
    refine h (fun _ => false) 3000 58 _ _ _ ?_
    refine And.intro (show Pre_X2_counted q.2 [vR 2 0, vI (nI w), vI (bI (q.1 = true))] from ⟨w, q.1, hw, rfl⟩) ?_
    refine And.intro bI_in ?_
    show ((some (vI (bI (q.1 = true))) : Option MV), mRow (q.2) 21 0 (upd ((q.2).1 21 0) (nI w).toNatClampNeg ((q.2).1 21 0 (nI w).toNatClampNeg + (bI (q.1 = true))))) = _
    rw [ew]
    exact c2n_r hq
  have a5 : c = 16 → X 5 [some (vR 2 0), some (vR 6 g), some (vR 9 g), some (vI (nI k))] [] mm := by
    intro e
    rw [e, c2d_16] at hp
    obtain ⟨t, ht, eo1⟩ := y1 (Or.inl e)
    have z := cnt 2 _ (by decide) hp
    unfold c2gV at z
    rw [← pMi_b, ← pMi_m] at z
    show X 5 [some (vR 2 0), some (vR 6 g), some (vR 9 g), some (vI (nI k))] [] mm
    refine h (fun i => Nat.beq i 13) 3000 5 _ _ _ ?_
    refine And.intro (show inb (nI k) (alen 44) = true from (inb_o 60 rfl rfl rfl (by omega))) ?_
    refine And.intro (show Pre_X6_giveUp mm [vR 6 g, vI (mm.1 44 g ((nI k).toNatClampNeg))] from ⟨g, ns, nm, nt, t, hV, ht, by rw [ek, eo, eo1]⟩) ?_
    show X 13 [some (vR 2 0), some (vR 6 g), some (vR 9 g), some (vI (nI k))] [vI (bI (mgA (abV mm g) (mm.1 44 g ((nI k).toNatClampNeg)).toNatClampNeg)), vI 2, vR 2 0] (mite (mgA (abV mm g) (mm.1 44 g ((nI k).toNatClampNeg)).toNatClampNeg) (cgM mm g 5 (mm.1 44 g ((nI k).toNatClampNeg)).toNatClampNeg) mm)
    rw [ek, eo]
    exact z
  have a15 : c = 22 → X 15 [some (vR 2 0), some (vR 6 g), some (vR 9 g), some (vI (nI k))] [] mm := by
    intro e
    rw [e, c2d_22] at hp
    obtain ⟨t, ht, eo1⟩ := y1 (Or.inr (Or.inr e))
    show X 15 [some (vR 2 0), some (vR 6 g), some (vR 9 g), some (vI (nI k))] [] mm
    refine h (fun _ => false) 3000 15 _ _ _ ?_
    refine And.intro (show inb (nI k) (alen 44) = true from (inb_o 60 rfl rfl rfl (by omega))) ?_
    refine And.intro (show Pre_X6_pretend mm [vR 6 g, vI (mm.1 44 g ((nI k).toNatClampNeg))] from ⟨g, ns, nm, nt, t, hV, ht, by rw [ek, eo, eo1]⟩) ?_
    refine And.intro bI_in ?_
    show ((some (vI (bI (mgA (abV mm g) (mm.1 44 g ((nI k).toNatClampNeg)).toNatClampNeg))) : Option MV), mite (mgA (abV mm g) (mm.1 44 g ((nI k).toNatClampNeg)).toNatClampNeg) (cgM mm g 6 (mm.1 44 g ((nI k).toNatClampNeg)).toNatClampNeg) mm) = _
    rw [ek, eo]
    exact PR_m hp
  have a22 : c = 17 → X 22 [some (vR 2 0), some (vR 6 g), some (vR 9 g), some (vI (nI k))] [] mm := by
    intro e
    rw [e, c2d_17] at hp
    have z := cnt31 2 _ (by decide) hp
    show X 22 [some (vR 2 0), some (vR 6 g), some (vR 9 g), some (vI (nI k))] [] mm
    refine h (fun i => Nat.beq i 31) 3000 22 _ _ _ ?_
    refine And.intro (show inb (nI k) (alen 44) = true from (inb_o 60 rfl rfl rfl (by omega))) ?_
    refine And.intro (show Pre_X2_gaveAny mm [vR 2 0, vR 6 g, vI (mm.1 44 g ((nI k).toNatClampNeg))] from ⟨g, ns, nm, nt, d, hV, hd, hd2, _, rfl⟩) ?_
    show X 31 [some (vR 2 0), some (vR 6 g), some (vR 9 g), some (vI (nI k))] [vI (bI ((c2g mm g (mm.1 44 g ((nI k).toNatClampNeg))).1 = true)), vI 2, vR 2 0] ((c2g mm g (mm.1 44 g ((nI k).toNatClampNeg))).2)
    rw [ek, eo]
    exact z
  have a33 : c = 21 → X 33 [some (vR 2 0), some (vR 6 g), some (vR 9 g), some (vI (nI k))] [] mm := by
    intro e
    rw [e, c2d_21] at hp
    obtain ⟨t, ht, eo1⟩ := y1 (Or.inr (Or.inl e))
    show X 33 [some (vR 2 0), some (vR 6 g), some (vR 9 g), some (vI (nI k))] [] mm
    refine h (fun _ => false) 3000 33 _ _ _ ?_
    refine And.intro (show inb (nI k) (alen 44) = true from (inb_o 60 rfl rfl rfl (by omega))) ?_
    refine And.intro (show Pre_X6_fetch mm [vR 6 g, vI (mm.1 44 g ((nI k).toNatClampNeg))] from ⟨g, ns, nm, nt, t, hV, ht, by rw [ek, eo, eo1]⟩) ?_
    refine And.intro bI_in ?_
    show ((some (vI (bI (cbP (abV mm g) (mm.1 44 g ((nI k).toNatClampNeg)).toNatClampNeg))) : Option MV), mite (cbP (abV mm g) (mm.1 44 g ((nI k).toNatClampNeg)).toNatClampNeg) (feM mm g (mm.1 44 g ((nI k).toNatClampNeg)).toNatClampNeg) mm) = _
    rw [ek, eo]
    exact PR_m hp
  have a40 : c = 18 → X 40 [some (vR 2 0), some (vR 6 g), some (vR 9 g), some (vI (nI k))] [] mm := by
    intro e
    rw [e, c2d_18] at hp
    have z := cnt44 1 _ (by decide) hp
    rw [← pMi_b, ← pMi_m] at z
    show X 40 [some (vR 2 0), some (vR 6 g), some (vR 9 g), some (vI (nI k))] [] mm
    refine h (fun i => Nat.beq i 44) 3000 40 _ _ _ ?_
    refine And.intro (show Pre_X6_passWeek mm [vR 6 g] from ⟨g, ns, nm, nt, hV, rfl⟩) ?_
    show X 44 [some (vR 2 0), some (vR 6 g), some (vR 9 g), some (vI (nI k))] [vI (bI (¬ abV mm g 6 = 999)), vI 1, vR 2 0] (mite (¬ abV mm g 6 = 999) (pwM mm g) mm)
    exact z
  have a46 : c = 19 → X 46 [some (vR 2 0), some (vR 6 g), some (vR 9 g), some (vI (nI k))] [] mm := by
    intro e
    rw [e, c2d_19] at hp
    obtain ⟨s, hs, eo1⟩ := y2 (Or.inr (Or.inl e))
    obtain ⟨q, hq, eo2⟩ := y3 (Or.inl e)
    have z := cnt58 3 _ (by decide) hp
    rw [← pMi_b, ← pMi_m] at z
    show X 46 [some (vR 2 0), some (vR 6 g), some (vR 9 g), some (vI (nI k))] [] mm
    refine h (fun i => Nat.beq i 58) 3000 46 _ _ _ ?_
    refine And.intro (show inb (nI k) (alen 44) = true from (inb_o 60 rfl rfl rfl (by omega))) ?_
    refine And.intro (show inb (nI k) (alen 45) = true from (inb_o 60 rfl rfl rfl (by omega))) ?_
    refine And.intro (show Pre_X6_marry mm [vR 6 g, vI (mm.1 44 g ((nI k).toNatClampNeg)), vI (mm.1 45 g ((nI k).toNatClampNeg))] from ⟨g, ns, nm, nt, s, q, hV, by omega, by omega, by rw [ek, eo, et, eo1, eo2]⟩) ?_
    show X 58 [some (vR 2 0), some (vR 6 g), some (vR 9 g), some (vI (nI k))] [vI (bI (wdP (abV mm g) (mm.1 44 g ((nI k).toNatClampNeg)).toNatClampNeg (mm.1 45 g ((nI k).toNatClampNeg)).toNatClampNeg)), vI 3, vR 2 0] (mite (wdP (abV mm g) (mm.1 44 g ((nI k).toNatClampNeg)).toNatClampNeg (mm.1 45 g ((nI k).toNatClampNeg)).toNatClampNeg) (mrM mm g (mm.1 44 g ((nI k).toNatClampNeg)).toNatClampNeg (mm.1 45 g ((nI k).toNatClampNeg)).toNatClampNeg) mm)
    rw [ek, eo, et]
    exact z
  show X 0 [some (vR 2 0), some (vR 6 g), some (vR 9 g), some (vI (nI k))] [] mm
  refine h (fun i => Nat.beq i 5 || Nat.beq i 15 || Nat.beq i 22 || Nat.beq i 33 || Nat.beq i 40 || Nat.beq i 46) 3000 0 _ _ _ ?_
  refine And.intro (show inb (nI k) (alen 43) = true from (inb_o 60 rfl rfl rfl (by omega))) ?_
  refine And.intro ⟨fun b4 => ?_, fun b4 => ?_, fun b4 => ?_, fun b4 => ?_, fun b4 => ?_, fun b4 => ?_, fun b4 => ?_, trivial⟩ ?_
  · replace b4 : mm.1 43 g ((nI k).toNatClampNeg) = 16 := b4
    (try simp only [ek, ec] at b4)
    show X 5 [some (vR 2 0), some (vR 6 g), some (vR 9 g), some (vI (nI k))] [] mm
    (try simp only [ek, ec])
    exact a5 b4
  · replace b4 : mm.1 43 g ((nI k).toNatClampNeg) = 17 := b4
    (try simp only [ek, ec] at b4)
    show X 22 [some (vR 2 0), some (vR 6 g), some (vR 9 g), some (vI (nI k))] [] mm
    (try simp only [ek, ec])
    exact a22 b4
  · replace b4 : mm.1 43 g ((nI k).toNatClampNeg) = 18 := b4
    (try simp only [ek, ec] at b4)
    show X 40 [some (vR 2 0), some (vR 6 g), some (vR 9 g), some (vI (nI k))] [] mm
    (try simp only [ek, ec])
    exact a40 b4
  · replace b4 : mm.1 43 g ((nI k).toNatClampNeg) = 19 := b4
    (try simp only [ek, ec] at b4)
    show X 46 [some (vR 2 0), some (vR 6 g), some (vR 9 g), some (vI (nI k))] [] mm
    (try simp only [ek, ec])
    exact a46 b4
  · replace b4 : mm.1 43 g ((nI k).toNatClampNeg) = 20 := b4
    (try simp only [ek, ec] at b4)
    refine And.intro (Or.inl rfl) ?_
    show ((some (vI 0) : Option MV), mm) = _
    (try simp only [ek, ec])
    exact PR_f (by rw [hp, b4]; rfl)
  · replace b4 : mm.1 43 g ((nI k).toNatClampNeg) = 21 := b4
    (try simp only [ek, ec] at b4)
    show X 33 [some (vR 2 0), some (vR 6 g), some (vR 9 g), some (vI (nI k))] [] mm
    (try simp only [ek, ec])
    exact a33 b4
  · replace b4 : mm.1 43 g ((nI k).toNatClampNeg) = 22 := b4
    (try simp only [ek, ec] at b4)
    show X 15 [some (vR 2 0), some (vR 6 g), some (vR 9 g), some (vI (nI k))] [] mm
    (try simp only [ek, ec])
    exact a15 b4
  · intro b4
    have n4_16 : ¬ mm.1 43 g ((nI k).toNatClampNeg) = 16 := b4 (16, 5) (by decide)
    have n4_17 : ¬ mm.1 43 g ((nI k).toNatClampNeg) = 17 := b4 (17, 22) (by decide)
    have n4_18 : ¬ mm.1 43 g ((nI k).toNatClampNeg) = 18 := b4 (18, 40) (by decide)
    have n4_19 : ¬ mm.1 43 g ((nI k).toNatClampNeg) = 19 := b4 (19, 46) (by decide)
    have n4_20 : ¬ mm.1 43 g ((nI k).toNatClampNeg) = 20 := b4 (20, 60) (by decide)
    have n4_21 : ¬ mm.1 43 g ((nI k).toNatClampNeg) = 21 := b4 (21, 33) (by decide)
    have n4_22 : ¬ mm.1 43 g ((nI k).toNatClampNeg) = 22 := b4 (22, 15) (by decide)
    (try simp only [ek, ec] at n4_16)
    (try simp only [ek, ec] at n4_17)
    (try simp only [ek, ec] at n4_18)
    (try simp only [ek, ec] at n4_19)
    (try simp only [ek, ec] at n4_20)
    (try simp only [ek, ec] at n4_21)
    (try simp only [ek, ec] at n4_22)
    refine And.intro (Or.inl rfl) ?_
    show ((some (vI 0) : Option MV), mm) = _
    (try simp only [ek, ec])
    exact PR_f (by rw [hp]; exact c2d_o n4_16 n4_22 n4_17 n4_21 n4_18 n4_19)
theorem con_X2_isDone (l : Launch) : CON l y_X2_isDone prog_4_method_6_code 4 (some .boolean) rm_X2_isDone Pre_X2_isDone Fn_X2_isDone := CON_of (by decide) rfl rfl (sa_X2_isDone l) vc_X2_isDone
