/-! PART 86: the class: plans are grown -/

/-- from place j on each THING that may be given is tried, and those behind it with it -/
def grL : Nat → Nat → Int32 → Int32 → Int32 → Int32 → MM → MM
  | 0, _, _, _, _, _, m => m
  | k + 1, j, ch, ma, su, he, m => if nI j < m.1 3 0 4 then grL k (j + 1) ch ma su he (if m.1 25 0 j &&& ((m.1 3 0 5 ||| ch) ^^^ (-1)) = 0 then (if (weM m (ch ||| 1 <<< (m.1 22 0 j &&& 31)) (ma + 1) (su + m.1 23 0 j) (he + m.1 24 0 j)).1 3 0 8 ≤ ma + 1 then weM m (ch ||| 1 <<< (m.1 22 0 j &&& 31)) (ma + 1) (su + m.1 23 0 j) (he + m.1 24 0 j) else grL k (j + 1) (ch ||| 1 <<< (m.1 22 0 j &&& 31)) (ma + 1) (su + m.1 23 0 j) (he + m.1 24 0 j) (weM m (ch ||| 1 <<< (m.1 22 0 j &&& 31)) (ma + 1) (su + m.1 23 0 j) (he + m.1 24 0 j))) else m) else m
def grM (m : MM) (i : Nat) (ch ma su he : Int32) : MM := if (weM m ch ma su he).1 3 0 8 ≤ ma then weM m ch ma su he else grL (12 - i) i ch ma su he (weM m ch ma su he)
theorem grL_s {k j : Nat} (hk : j + (k + 1) = 12) (ch ma su he : Int32) (m : MM) : grL (k + 1) j ch ma su he m = if nI j < m.1 3 0 4 then grL k (j + 1) ch ma su he (if m.1 25 0 j &&& ((m.1 3 0 5 ||| ch) ^^^ (-1)) = 0 then grM m (j + 1) (ch ||| 1 <<< (m.1 22 0 j &&& 31)) (ma + 1) (su + m.1 23 0 j) (he + m.1 24 0 j) else m) else m := by
  unfold grM
  rw [show 12 - (j + 1) = k by omega]
  rfl
abbrev rmG (n : Nat) : Room := { frames := n + 2, cells := 0, slots := 0, locals := 48 + 26 * n }
def PGn (n : Nat) : PreT := fun _ as => ∃ (i : Nat) (ch ma su he : Int32), i ≤ 12 ∧ 13 ≤ i + n ∧ as = [vR 3 0, vI (nI i), vI ch, vI ma, vI su, vI he]
theorem PG_0 (m : MM) (as : List MV) : ¬ PGn 0 m as := fun ⟨_, _, _, _, _, h1, h2, _⟩ => by omega

--tpl ⟨{1N}, _, _, _, _, by omega, by omega, rfl⟩ ||  || grM {m} {1n} {2} {3} {4} {5}
def Fn_X3_grow : FnT := fun m as => match as with
  | [_, Sum.inl i, Sum.inl ch, Sum.inl ma, Sum.inl su, Sum.inl he] => (none, grM m i.toNatClampNeg ch ma su he)
  | _ => (none, m)
abbrev y_X3_grow : MethodName := ⟨"GivenUp$Plan", "grow", "(IIIII)V"⟩
def P_X3_grow (Pre_X3_grow : PreT) : List StpT := [s_aload 0, s_iload 2, s_iload 3, s_iload 4, s_iload 5, s_callV 3 4 Pre_X3_weigh Fn_X3_weigh, s_iload 3, s_aload 0, s_getI 3 8, s_iclt 11, s_vret, s_iload 1, s_istore 6, s_iload 6, s_aload 0, s_getI 3 4, s_icge 62, s_iload 6, s_ic (12), s_icge 62, s_aload 0, s_getR 3 3 25, s_iload 6, s_iald, s_aload 0, s_getI 3 5, s_iload 2, s_ior, s_ic (-1), s_ixor, s_iand, s_ifne 60, s_aload 0, s_iload 6, s_ic (1), s_iadd, s_iload 2, s_ic (1), s_aload 0, s_getR 3 0 22, s_iload 6, s_iald, s_ishl, s_ior, s_iload 3, s_ic (1), s_iadd, s_iload 4, s_aload 0, s_getR 3 1 23, s_iload 6, s_iald, s_iadd, s_iload 5, s_aload 0, s_getR 3 2 24, s_iload 6, s_iald, s_iadd, s_callV 3 5 Pre_X3_grow Fn_X3_grow, s_iinc 6 (1), s_goto 13, s_vret]
def pc_X3_grow : Nat → Nat := fun i => [0, 1, 2, 3, 5, 7, 10, 11, 12, 15, 18, 19, 20, 22, 24, 25, 28, 31, 33, 35, 38, 39, 42, 44, 45, 46, 49, 50, 51, 52, 53, 54, 57, 58, 60, 61, 62, 63, 64, 65, 68, 70, 71, 72, 73, 74, 75, 76, 78, 79, 82, 84, 85, 86, 88, 89, 92, 94, 95, 96, 99, 102, 105].getD i 0
def dl_X3_grow : List (Nat × Instr × Nat) := [(0, .aload_n 0, 1), (1, .iload_n 2, 1), (2, .iload_n 3, 1), (3, .iload 4, 2), (5, .iload 5, 2), (7, .invokevirtual 135, 3), (10, .iload_n 3, 1), (11, .aload_n 0, 1), (12, .getfield 37, 3), (15, .if_icmp .lt 4, 3), (18, .return_, 1), (19, .iload_n 1, 1), (20, .istore 6, 2), (22, .iload 6, 2), (24, .aload_n 0, 1), (25, .getfield 24, 3), (28, .if_icmp .ge 77, 3), (31, .iload 6, 2), (33, .bipush 12, 2), (35, .if_icmp .ge 70, 3), (38, .aload_n 0, 1), (39, .getfield 21, 3), (42, .iload 6, 2), (44, .iaload, 1), (45, .aload_n 0, 1), (46, .getfield 28, 3), (49, .iload_n 2, 1), (50, .ior, 1), (51, .iconst (-1), 1), (52, .ixor, 1), (53, .iand, 1), (54, .ifCond .ne 45, 3), (57, .aload_n 0, 1), (58, .iload 6, 2), (60, .iconst 1, 1), (61, .iadd, 1), (62, .iload_n 2, 1), (63, .iconst 1, 1), (64, .aload_n 0, 1), (65, .getfield 9, 3), (68, .iload 6, 2), (70, .iaload, 1), (71, .ishl, 1), (72, .ior, 1), (73, .iload_n 3, 1), (74, .iconst 1, 1), (75, .iadd, 1), (76, .iload 4, 2), (78, .aload_n 0, 1), (79, .getfield 15, 3), (82, .iload 6, 2), (84, .iaload, 1), (85, .iadd, 1), (86, .iload 5, 2), (88, .aload_n 0, 1), (89, .getfield 18, 3), (92, .iload 6, 2), (94, .iaload, 1), (95, .iadd, 1), (96, .invokevirtual 99, 3), (99, .iinc 6 1, 3), (102, .goto (-80), 3), (105, .return_, 1)]
theorem dc_X3_grow : DEC prog_5_method_5_code pc_X3_grow dl_X3_grow := DEC_of (by decide +kernel)
set_option maxRecDepth 20000 in
theorem sa_X3_grow (l : Launch) (n : Nat) (Pre_X3_grow : PreT) (hG : CON l y_X3_grow prog_5_method_5_code 7 none (rmG n) Pre_X3_grow Fn_X3_grow) : SNDALL l prog_5_method_5_code "GivenUp$Plan" 7 none (rmG (n + 1)) (P_X3_grow Pre_X3_grow) pc_X3_grow := fun p e s m args below meth c cells slots Q D dA ad A RR hC hR => by
  have hM := RTX_room (R := (rmG (n + 1))) hR
  exact ⟨st_aload_n hC (n := 0) (k := 0) (dc_X3_grow 0 (0, .aload_n 0, 1) rfl rfl) rfl rfl,
    st_iload_n hC (n := 1) (k := 2) (dc_X3_grow 1 (1, .iload_n 2, 1) rfl rfl) rfl rfl,
    st_iload_n hC (n := 2) (k := 3) (dc_X3_grow 2 (2, .iload_n 3, 1) rfl rfl) rfl rfl,
    st_iload hC (n := 3) (dc_X3_grow 3 (3, .iload 4, 2) rfl rfl) rfl,
    st_iload hC (n := 4) (dc_X3_grow 4 (5, .iload 5, 2) rfl rfl) rfl,
    st_callV hC (n := 5) (k := 3) (na := 4) (con_X3_weigh l) (dc_X3_grow 5 (7, .invokevirtual 135, 3) rfl rfl) rfl wd_1296 wd_151 (by decide) ⟨rfl, rfl, by first | (show 2 ≤ n + 1 + 2; omega) | exact Nat.le_refl _, by first | (show 8 + (6 + 11) + 23 ≤ 48 + 26 * (n + 1); omega) | (show 8 + (7 + 11) + (48 + 26 * n) ≤ 48 + 26 * (n + 1); omega)⟩ hM wd_1293 wd_1295 wd_32 clf_3,
    st_iload_n hC (n := 6) (k := 3) (dc_X3_grow 6 (10, .iload_n 3, 1) rfl rfl) rfl rfl,
    st_aload_n hC (n := 7) (k := 0) (dc_X3_grow 7 (11, .aload_n 0, 1) rfl rfl) rfl rfl,
    st_getI hC (n := 8) (k := 3) (j := 8) (dc_X3_grow 8 (12, .getfield 37, 3) rfl rfl) rfl clf_3 (by decide) rfl wd_320,
    st_iclt hC (n := 9) (dc_X3_grow 9 (15, .if_icmp .lt 4, 3) rfl rfl) rfl (by decide),
    st_vret hC (n := 10) hR (dc_X3_grow 10 (18, .return_, 1) rfl rfl),
    st_iload_n hC (n := 11) (k := 1) (dc_X3_grow 11 (19, .iload_n 1, 1) rfl rfl) rfl rfl,
    st_istore hC (n := 12) (dc_X3_grow 12 (20, .istore 6, 2) rfl rfl) rfl (by decide),
    st_iload hC (n := 13) (dc_X3_grow 13 (22, .iload 6, 2) rfl rfl) rfl,
    st_aload_n hC (n := 14) (k := 0) (dc_X3_grow 14 (24, .aload_n 0, 1) rfl rfl) rfl rfl,
    st_getI hC (n := 15) (k := 3) (j := 4) (dc_X3_grow 15 (25, .getfield 24, 3) rfl rfl) rfl clf_3 (by decide) rfl wd_316,
    st_icge hC (n := 16) (dc_X3_grow 16 (28, .if_icmp .ge 77, 3) rfl rfl) rfl (by decide),
    st_iload hC (n := 17) (dc_X3_grow 17 (31, .iload 6, 2) rfl rfl) rfl,
    st_bipush hC (n := 18) (x := 12) (dc_X3_grow 18 (33, .bipush 12, 2) rfl rfl) rfl (by decide),
    st_icge hC (n := 19) (dc_X3_grow 19 (35, .if_icmp .ge 70, 3) rfl rfl) rfl (by decide),
    st_aload_n hC (n := 20) (k := 0) (dc_X3_grow 20 (38, .aload_n 0, 1) rfl rfl) rfl rfl,
    st_getR hC (n := 21) (k := 3) (j := 3) (dc_X3_grow 21 (39, .getfield 21, 3) rfl rfl) rfl clf_3 (by decide) rfl (by decide) wd_315,
    st_iload hC (n := 22) (dc_X3_grow 22 (42, .iload 6, 2) rfl rfl) rfl,
    st_iald hC (n := 23) (dc_X3_grow 23 (44, .iaload, 1) rfl rfl) rfl,
    st_aload_n hC (n := 24) (k := 0) (dc_X3_grow 24 (45, .aload_n 0, 1) rfl rfl) rfl rfl,
    st_getI hC (n := 25) (k := 3) (j := 5) (dc_X3_grow 25 (46, .getfield 28, 3) rfl rfl) rfl clf_3 (by decide) rfl wd_317,
    st_iload_n hC (n := 26) (k := 2) (dc_X3_grow 26 (49, .iload_n 2, 1) rfl rfl) rfl rfl,
    st_ior hC (n := 27) (dc_X3_grow 27 (50, .ior, 1) rfl rfl) rfl,
    st_iconst hC (n := 28) (x := (-1)) (dc_X3_grow 28 (51, .iconst (-1), 1) rfl rfl) rfl (by decide),
    st_ixor hC (n := 29) (dc_X3_grow 29 (52, .ixor, 1) rfl rfl) rfl,
    st_iand hC (n := 30) (dc_X3_grow 30 (53, .iand, 1) rfl rfl) rfl,
    st_ifne hC (n := 31) (dc_X3_grow 31 (54, .ifCond .ne 45, 3) rfl rfl) rfl (by decide),
    st_aload_n hC (n := 32) (k := 0) (dc_X3_grow 32 (57, .aload_n 0, 1) rfl rfl) rfl rfl,
    st_iload hC (n := 33) (dc_X3_grow 33 (58, .iload 6, 2) rfl rfl) rfl,
    st_iconst hC (n := 34) (x := 1) (dc_X3_grow 34 (60, .iconst 1, 1) rfl rfl) rfl (by decide),
    st_iadd hC (n := 35) (dc_X3_grow 35 (61, .iadd, 1) rfl rfl) rfl,
    st_iload_n hC (n := 36) (k := 2) (dc_X3_grow 36 (62, .iload_n 2, 1) rfl rfl) rfl rfl,
    st_iconst hC (n := 37) (x := 1) (dc_X3_grow 37 (63, .iconst 1, 1) rfl rfl) rfl (by decide),
    st_aload_n hC (n := 38) (k := 0) (dc_X3_grow 38 (64, .aload_n 0, 1) rfl rfl) rfl rfl,
    st_getR hC (n := 39) (k := 3) (j := 0) (dc_X3_grow 39 (65, .getfield 9, 3) rfl rfl) rfl clf_3 (by decide) rfl (by decide) wd_312,
    st_iload hC (n := 40) (dc_X3_grow 40 (68, .iload 6, 2) rfl rfl) rfl,
    st_iald hC (n := 41) (dc_X3_grow 41 (70, .iaload, 1) rfl rfl) rfl,
    st_ishl hC (n := 42) (dc_X3_grow 42 (71, .ishl, 1) rfl rfl) rfl,
    st_ior hC (n := 43) (dc_X3_grow 43 (72, .ior, 1) rfl rfl) rfl,
    st_iload_n hC (n := 44) (k := 3) (dc_X3_grow 44 (73, .iload_n 3, 1) rfl rfl) rfl rfl,
    st_iconst hC (n := 45) (x := 1) (dc_X3_grow 45 (74, .iconst 1, 1) rfl rfl) rfl (by decide),
    st_iadd hC (n := 46) (dc_X3_grow 46 (75, .iadd, 1) rfl rfl) rfl,
    st_iload hC (n := 47) (dc_X3_grow 47 (76, .iload 4, 2) rfl rfl) rfl,
    st_aload_n hC (n := 48) (k := 0) (dc_X3_grow 48 (78, .aload_n 0, 1) rfl rfl) rfl rfl,
    st_getR hC (n := 49) (k := 3) (j := 1) (dc_X3_grow 49 (79, .getfield 15, 3) rfl rfl) rfl clf_3 (by decide) rfl (by decide) wd_313,
    st_iload hC (n := 50) (dc_X3_grow 50 (82, .iload 6, 2) rfl rfl) rfl,
    st_iald hC (n := 51) (dc_X3_grow 51 (84, .iaload, 1) rfl rfl) rfl,
    st_iadd hC (n := 52) (dc_X3_grow 52 (85, .iadd, 1) rfl rfl) rfl,
    st_iload hC (n := 53) (dc_X3_grow 53 (86, .iload 5, 2) rfl rfl) rfl,
    st_aload_n hC (n := 54) (k := 0) (dc_X3_grow 54 (88, .aload_n 0, 1) rfl rfl) rfl rfl,
    st_getR hC (n := 55) (k := 3) (j := 2) (dc_X3_grow 55 (89, .getfield 18, 3) rfl rfl) rfl clf_3 (by decide) rfl (by decide) wd_314,
    st_iload hC (n := 56) (dc_X3_grow 56 (92, .iload 6, 2) rfl rfl) rfl,
    st_iald hC (n := 57) (dc_X3_grow 57 (94, .iaload, 1) rfl rfl) rfl,
    st_iadd hC (n := 58) (dc_X3_grow 58 (95, .iadd, 1) rfl rfl) rfl,
    st_callV hC (n := 59) (k := 3) (na := 5) (hG) (dc_X3_grow 59 (96, .invokevirtual 99, 3) rfl rfl) rfl wd_1292 wd_151 (by decide) ⟨rfl, rfl, by first | (show 2 ≤ n + 1 + 2; omega) | exact Nat.le_refl _, by first | (show 8 + (6 + 11) + 23 ≤ 48 + 26 * (n + 1); omega) | (show 8 + (7 + 11) + (48 + 26 * n) ≤ 48 + 26 * (n + 1); omega)⟩ hM wd_1289 wd_1291 wd_31 clf_3,
    st_iinc hC (n := 60) (x := 1) (dc_X3_grow 60 (99, .iinc 6 1, 3) rfl rfl) rfl (by decide) (by decide),
    st_goto hC (n := 61) (dc_X3_grow 61 (102, .goto (-80), 3) rfl rfl) (by decide),
    st_vret hC (n := 62) hR (dc_X3_grow 62 (105, .return_, 1) rfl rfl), trivial⟩
set_option maxRecDepth 8000 in
theorem vc_X3_grow (n : Nat) (Pre_X3_grow : PreT) (hPG : Pre_X3_grow = PGn n) : VC (P_X3_grow Pre_X3_grow) 7 (PGn (n + 1)) Fn_X3_grow := by
  rintro mm as hom hoa ⟨i, ch, ma, su, he, hi, hin, rfl⟩
  refine ⟨Nat.le_of_ble_eq_true rfl, fun X h => ?_⟩
  have ei : (nI i).toNatClampNeg = i := nI_clamp (by omega)
  replace h : RUN (P_X3_grow Pre_X3_grow) (fun r m' => (r, m') = (none, grM mm (nI i).toNatClampNeg ch ma su he)) X := h
  rw [ei] at h
  unfold grM at h
  obtain ⟨W, eW⟩ : ∃ W, W = weM mm ch ma su he := ⟨_, rfl⟩
  rw [← eW] at h
  obtain ⟨R, eR⟩ : ∃ R, R = (if W.1 3 0 8 ≤ ma then W else grL (12 - i) i ch ma su he W) := ⟨_, rfl⟩
  rw [← eR] at h
  have loop : ∀ k j M, j + k = 12 → i ≤ j → R = grL k j ch ma su he M → X 13 [some (vR 3 0), some (vI (nI i)), some (vI (ch)), some (vI (ma)), some (vI (su)), some (vI (he)), some (vI (nI j))] [] (M) := by
    intro k
    induction k with
    | zero =>
      intro j M hj hij hR
      have hj2 : j = 12 := by omega
      subst hj2
      rw [grL] at hR
      show X 13 [some (vR 3 0), some (vI (nI i)), some (vI ch), some (vI ma), some (vI su), some (vI he), some (vI (nI 12))] [] M
      refine h (fun _ => false) 3000 13 _ _ _ ?_
      refine br_c (fun b16 => ?_) (fun b16 => ?_)
      · -- 16: M.1 3 0 4 ≤ nI 12 taken
        replace b16 : M.1 3 0 4 ≤ nI 12 := b16
        show ((none : Option MV), M) = _
        rw [hR]
      · -- 16: M.1 3 0 4 ≤ nI 12 on
        replace b16 : ¬ (M.1 3 0 4 ≤ nI 12) := b16
        refine br_t (show 12 ≤ nI 12 from Int32.le_refl _) ?_
        show ((none : Option MV), M) = _
        rw [hR]
    | succ k ih =>
      intro j M hj hij hR
      have ej : (nI j).toNatClampNeg = j := nI_clamp (by omega)
      rw [grL_s hj] at hR
      have s60 : ∀ M', R = grL k (j + 1) ch ma su he M' → X 60 [some (vR 3 0), some (vI (nI i)), some (vI (ch)), some (vI (ma)), some (vI (su)), some (vI (he)), some (vI (nI j))] [] (M') := by
        intro M' hR'
        have z := ih (j + 1) M' (by omega) (by omega) hR'
        show X 60 [some (vR 3 0), some (vI (nI i)), some (vI ch), some (vI ma), some (vI su), some (vI he), some (vI (nI j))] [] M'
        refine h (fun i => Nat.beq i 13) 3000 60 _ _ _ ?_
        show X 13 [some (vR 3 0), some (vI (nI i)), some (vI ch), some (vI ma), some (vI su), some (vI he), some (vI ((nI j) + 1))] [] M'
        rw [nI_1]
        exact z
      have e1 : nI j + 1 = nI (j + 1) := nI_1 j
      have e1c : (nI (j + 1)).toNatClampNeg = j + 1 := nI_clamp (by omega)
      show X 13 [some (vR 3 0), some (vI (nI i)), some (vI ch), some (vI ma), some (vI su), some (vI he), some (vI (nI j))] [] M
      refine h (fun i => Nat.beq i 60) 3000 13 _ _ _ ?_
      refine br_c (fun b16 => ?_) (fun b16 => ?_)
      · -- 16: M.1 3 0 4 ≤ nI j taken
        replace b16 : M.1 3 0 4 ≤ nI j := b16
        (try simp only [ej, e1, e1c] at b16)
        show ((none : Option MV), M) = _
        (try simp only [ej, e1, e1c])
        rw [hR, if_neg (Int32.not_lt.mpr b16)]
      · -- 16: M.1 3 0 4 ≤ nI j on
        replace b16 : ¬ (M.1 3 0 4 ≤ nI j) := b16
        (try simp only [ej, e1, e1c] at b16)
        refine br_f (show ¬ (12 ≤ nI j) from show ¬ nI 12 ≤ nI j from nI_ge (by omega) (by omega)) ?_
        refine And.intro (show inb (nI j) (alen 25) = true from (inb_o 12 rfl rfl rfl (by omega))) ?_
        refine brn_c (fun b31 => ?_) (fun b31 => ?_)
        · -- 31: (M.1 25 0 ((nI j).toNatClampNeg)) &&& (((M.1 3 0 5) ||| ch) ^^^ (-1)) = 0 taken
          replace b31 : ¬ ((M.1 25 0 ((nI j).toNatClampNeg)) &&& (((M.1 3 0 5) ||| ch) ^^^ (-1)) = 0) := b31
          (try simp only [ej, e1, e1c] at b31)
          show X 60 [some (vR 3 0), some (vI (nI i)), some (vI ch), some (vI ma), some (vI su), some (vI he), some (vI (nI j))] [] M
          (try simp only [ej, e1, e1c])
          rw [if_pos (Int32.not_le.mp b16), if_neg b31] at hR
          exact s60 _ hR
        · -- 31: (M.1 25 0 ((nI j).toNatClampNeg)) &&& (((M.1 3 0 5) ||| ch) ^^^ (-1)) = 0 on
          replace b31 : (M.1 25 0 ((nI j).toNatClampNeg)) &&& (((M.1 3 0 5) ||| ch) ^^^ (-1)) = 0 := b31
          (try simp only [ej, e1, e1c] at b31)
          refine And.intro (show inb (nI j) (alen 22) = true from (inb_o 12 rfl rfl rfl (by omega))) ?_
          refine And.intro (show inb (nI j) (alen 23) = true from (inb_o 12 rfl rfl rfl (by omega))) ?_
          refine And.intro (show inb (nI j) (alen 24) = true from (inb_o 12 rfl rfl rfl (by omega))) ?_
          refine And.intro (show Pre_X3_grow M [vR 3 0, vI ((nI j) + 1), vI (ch ||| (1 <<< ((M.1 22 0 ((nI j).toNatClampNeg)) &&& 31))), vI (ma + 1), vI (su + (M.1 23 0 ((nI j).toNatClampNeg))), vI (he + (M.1 24 0 ((nI j).toNatClampNeg)))] from (by rw [hPG]; exact ⟨j + 1, _, _, _, _, by omega, by omega, by rw [e1]⟩)) ?_
          show X 60 [some (vR 3 0), some (vI (nI i)), some (vI ch), some (vI ma), some (vI su), some (vI he), some (vI (nI j))] [] (grM M ((nI j) + 1).toNatClampNeg (ch ||| (1 <<< ((M.1 22 0 ((nI j).toNatClampNeg)) &&& 31))) (ma + 1) (su + (M.1 23 0 ((nI j).toNatClampNeg))) (he + (M.1 24 0 ((nI j).toNatClampNeg))))
          (try simp only [ej, e1, e1c])
          rw [if_pos (Int32.not_le.mp b16), if_pos b31] at hR
          exact s60 _ hR
  have s6 : X 6 [some (vR 3 0), some (vI (nI i)), some (vI (ch)), some (vI (ma)), some (vI (su)), some (vI (he)), none] [] (W) := by
    have l0 := fun hR => loop (12 - i) i W (by omega) (Nat.le_refl _) hR
    show X 6 [some (vR 3 0), some (vI (nI i)), some (vI ch), some (vI ma), some (vI su), some (vI he), none] [] W
    refine h (fun i => Nat.beq i 13) 3000 6 _ _ _ ?_
    refine br_c (fun b9 => ?_) (fun b9 => ?_)
    · -- 9: ma < W.1 3 0 8 taken
      replace b9 : ma < W.1 3 0 8 := b9
      show X 13 [some (vR 3 0), some (vI (nI i)), some (vI ch), some (vI ma), some (vI su), some (vI he), some (vI (nI i))] [] W
      rw [if_neg (Int32.not_le.mpr b9)] at eR
      exact l0 eR
    · -- 9: ma < W.1 3 0 8 on
      replace b9 : ¬ (ma < W.1 3 0 8) := b9
      show ((none : Option MV), W) = _
      rw [eR, if_pos (Int32.not_lt.mp b9)]
  show X 0 [some (vR 3 0), some (vI (nI i)), some (vI ch), some (vI ma), some (vI su), some (vI he), none] [] mm
  refine h (fun i => Nat.beq i 6) 3000 0 _ _ _ ?_
  refine And.intro (show Pre_X3_weigh mm [vR 3 0, vI ch, vI ma, vI su, vI he] from ⟨_, _, _, _, rfl⟩) ?_
  show X 6 [some (vR 3 0), some (vI (nI i)), some (vI ch), some (vI ma), some (vI su), some (vI he), none] [] (weM mm ch ma su he)
  rw [← eW]
  exact s6
theorem cn_X3_grow (l : Launch) : ∀ n, CON l y_X3_grow prog_5_method_5_code 7 none (rmG n) (PGn n) Fn_X3_grow
  | 0 => fun _ _ _ _ _ _ _ _ hp => absurd hp (PG_0 _ _)
  | n + 1 => CON_of (by decide) rfl rfl (sa_X3_grow l n (PGn n) (cn_X3_grow l n)) (vc_X3_grow n _ rfl)
abbrev rm_X3_grow : Room := rmG 13
def Pre_X3_grow : PreT := PGn 13
theorem con_X3_grow (l : Launch) : CON l y_X3_grow prog_5_method_5_code 7 none rm_X3_grow Pre_X3_grow Fn_X3_grow := cn_X3_grow l 13
