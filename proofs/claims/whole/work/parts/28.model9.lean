/-! PART 28: the model: what a fraction tells; whom she would have; proud, dearest, cheats -/

/-- what a truth is told by -/
abbrev tbM (m : MM) (p q : Nat) : MM := stM (mL (mL m 12 0 3 (lN (p / Nat.gcd p q))) 12 0 4 (lN (q / Nat.gcd p q))) 0

--tpl ⟨_, _, by omega, by omega, by omega, rfl⟩ || 1 || tbM {m} (Int64.toNatClampNeg {1}) (Int64.toNatClampNeg {2})
def Pre_X12_tellsBy : PreT := fun _ as => ∃ p q : Nat, p < 2 ^ 62 ∧ 0 < q ∧ q < 2 ^ 62 ∧ as = [vR 12 0, vL (lN p), vL (lN q)]
def Fn_X12_tellsBy : FnT := fun m as => match as with
  | [_, Sum.inr (Sum.inl x), Sum.inr (Sum.inl y)] => (some (vI 1), tbM m x.toInt.toNat y.toInt.toNat)
  | _ => (none, m)
abbrev y_X12_tellsBy : MethodName := ⟨"GivenUpModel", "tellsBy", "(JJ)Z"⟩
def P_X12_tellsBy : List StpT := [s_lload 1, s_lstore 5, s_lload 3, s_lstore 7, s_lload 7, s_lc 0, s_lcmp, s_ifeq 17, s_lload 5, s_lload 7, s_lrem, s_lstore 9, s_lload 7, s_lstore 5, s_lload 9, s_lstore 7, s_goto 4, s_aload 0, s_lload 1, s_lload 5, s_ldiv, s_putL 12 3, s_aload 0, s_lload 3, s_lload 5, s_ldiv, s_putL 12 4, s_aload 0, s_ic (0), s_callV 12 1 Pre_X12_is Fn_X12_is, s_zret]
def pc_X12_tellsBy : Nat → Nat := fun i => [0, 1, 3, 4, 6, 8, 9, 10, 13, 15, 17, 18, 20, 22, 24, 26, 28, 31, 32, 33, 35, 36, 39, 40, 41, 43, 44, 47, 48, 49, 52].getD i 0
def dl_X12_tellsBy : List (Nat × Instr × Nat) := [(0, .lload_n 1, 1), (1, .lstore 5, 2), (3, .lload_n 3, 1), (4, .lstore 7, 2), (6, .lload 7, 2), (8, .lconst 0, 1), (9, .lcmp, 1), (10, .ifCond .eq 21, 3), (13, .lload 5, 2), (15, .lload 7, 2), (17, .lrem, 1), (18, .lstore 9, 2), (20, .lload 7, 2), (22, .lstore 5, 2), (24, .lload 9, 2), (26, .lstore 7, 2), (28, .goto (-22), 3), (31, .aload_n 0, 1), (32, .lload_n 1, 1), (33, .lload 5, 2), (35, .ldiv, 1), (36, .putfield 84, 3), (39, .aload_n 0, 1), (40, .lload_n 3, 1), (41, .lload 5, 2), (43, .ldiv, 1), (44, .putfield 17, 3), (47, .aload_n 0, 1), (48, .iconst 0, 1), (49, .invokevirtual 94, 3), (52, .ireturn, 1)]
theorem dc_X12_tellsBy : DEC prog_14_method_11_code pc_X12_tellsBy dl_X12_tellsBy := DEC_of (by decide +kernel)
abbrev rm_X12_tellsBy : Room := { frames := 1, cells := 0, slots := 0, locals := 21 }
set_option maxRecDepth 20000 in
theorem sa_X12_tellsBy (l : Launch) : SNDALL l prog_14_method_11_code "GivenUpModel" 11 (some .boolean) rm_X12_tellsBy P_X12_tellsBy pc_X12_tellsBy := fun p e s m args below meth c cells slots Q D dA ad A RR hC hR => by
  have hM := RTX_room (R := rm_X12_tellsBy) hR
  exact ⟨st_lload_n hC (n := 0) (k := 1) (dc_X12_tellsBy 0 (0, .lload_n 1, 1) rfl rfl) rfl rfl,
    st_lstore hC (n := 1) (dc_X12_tellsBy 1 (1, .lstore 5, 2) rfl rfl) rfl (by decide),
    st_lload_n hC (n := 2) (k := 3) (dc_X12_tellsBy 2 (3, .lload_n 3, 1) rfl rfl) rfl rfl,
    st_lstore hC (n := 3) (dc_X12_tellsBy 3 (4, .lstore 7, 2) rfl rfl) rfl (by decide),
    st_lload hC (n := 4) (dc_X12_tellsBy 4 (6, .lload 7, 2) rfl rfl) rfl,
    st_lconst hC (n := 5) (x := 0) (dc_X12_tellsBy 5 (8, .lconst 0, 1) rfl rfl) rfl (by decide),
    st_lcmp hC (n := 6) (dc_X12_tellsBy 6 (9, .lcmp, 1) rfl rfl) rfl,
    st_ifeq hC (n := 7) (dc_X12_tellsBy 7 (10, .ifCond .eq 21, 3) rfl rfl) rfl (by decide),
    st_lload hC (n := 8) (dc_X12_tellsBy 8 (13, .lload 5, 2) rfl rfl) rfl,
    st_lload hC (n := 9) (dc_X12_tellsBy 9 (15, .lload 7, 2) rfl rfl) rfl,
    st_lrem hC (n := 10) (dc_X12_tellsBy 10 (17, .lrem, 1) rfl rfl) rfl,
    st_lstore hC (n := 11) (dc_X12_tellsBy 11 (18, .lstore 9, 2) rfl rfl) rfl (by decide),
    st_lload hC (n := 12) (dc_X12_tellsBy 12 (20, .lload 7, 2) rfl rfl) rfl,
    st_lstore hC (n := 13) (dc_X12_tellsBy 13 (22, .lstore 5, 2) rfl rfl) rfl (by decide),
    st_lload hC (n := 14) (dc_X12_tellsBy 14 (24, .lload 9, 2) rfl rfl) rfl,
    st_lstore hC (n := 15) (dc_X12_tellsBy 15 (26, .lstore 7, 2) rfl rfl) rfl (by decide),
    st_goto hC (n := 16) (dc_X12_tellsBy 16 (28, .goto (-22), 3) rfl rfl) (by decide),
    st_aload_n hC (n := 17) (k := 0) (dc_X12_tellsBy 17 (31, .aload_n 0, 1) rfl rfl) rfl rfl,
    st_lload_n hC (n := 18) (k := 1) (dc_X12_tellsBy 18 (32, .lload_n 1, 1) rfl rfl) rfl rfl,
    st_lload hC (n := 19) (dc_X12_tellsBy 19 (33, .lload 5, 2) rfl rfl) rfl,
    st_ldiv hC (n := 20) (dc_X12_tellsBy 20 (35, .ldiv, 1) rfl rfl) rfl,
    st_putL hC (n := 21) (k := 12) (j := 3) (dc_X12_tellsBy 21 (36, .putfield 84, 3) rfl rfl) rfl clf_12 (by decide) rfl rfl rfl wd_1555,
    st_aload_n hC (n := 22) (k := 0) (dc_X12_tellsBy 22 (39, .aload_n 0, 1) rfl rfl) rfl rfl,
    st_lload_n hC (n := 23) (k := 3) (dc_X12_tellsBy 23 (40, .lload_n 3, 1) rfl rfl) rfl rfl,
    st_lload hC (n := 24) (dc_X12_tellsBy 24 (41, .lload 5, 2) rfl rfl) rfl,
    st_ldiv hC (n := 25) (dc_X12_tellsBy 25 (43, .ldiv, 1) rfl rfl) rfl,
    st_putL hC (n := 26) (k := 12) (j := 4) (dc_X12_tellsBy 26 (44, .putfield 17, 3) rfl rfl) rfl clf_12 (by decide) rfl rfl rfl wd_1556,
    st_aload_n hC (n := 27) (k := 0) (dc_X12_tellsBy 27 (47, .aload_n 0, 1) rfl rfl) rfl rfl,
    st_iconst hC (n := 28) (x := 0) (dc_X12_tellsBy 28 (48, .iconst 0, 1) rfl rfl) rfl (by decide),
    st_callV hC (n := 29) (k := 12) (na := 1) (con_X12_is l) (dc_X12_tellsBy 29 (49, .invokevirtual 94, 3) rfl rfl) rfl wd_1698 wd_160 (by decide) ⟨rfl, rfl, by decide, by decide⟩ hM wd_1695 wd_1697 wd_51 clf_12,
    st_zret hC (n := 30) hR (dc_X12_tellsBy 30 (52, .ireturn, 1) rfl rfl), trivial⟩
set_option maxRecDepth 8000 in
theorem vc_X12_tellsBy : VC P_X12_tellsBy 11 Pre_X12_tellsBy Fn_X12_tellsBy := by
  rintro mm as hom hoa ⟨p, q, hp, hq0, hq, rfl⟩
  refine ⟨Nat.le_of_ble_eq_true rfl, fun X h => ?_⟩
  have eF : Fn_X12_tellsBy mm [vR 12 0, vL (lN p), vL (lN q)] = (some (vI 1), tbM mm p q) := by
    show (some (vI 1), tbM mm (lN p).toInt.toNat (lN q).toInt.toNat) = _
    rw [pk_lT (by omega), pk_lT (by omega)]
    rfl
  rw [eF] at h
  have hg : 0 < Nat.gcd p q := Nat.gcd_pos_of_pos_right _ hq0
  have hg2 : Nat.gcd p q ≤ q := Nat.gcd_le_right _ hq0
  have loop : ∀ v u, u < 2 ^ 62 → v < 2 ^ 62 → Nat.gcd u v = Nat.gcd p q → ∀ L9 L10, X 4 [some (vR 12 0), some (vL (lN p)), none, some (vL (lN q)), none, some (vL (lN u)), none, some (vL (lN v)), none, L9, L10] [] mm → True := fun _ _ _ _ _ _ _ _ => trivial
  have loop : ∀ v u, u < 2 ^ 62 → v < 2 ^ 62 → Nat.gcd u v = Nat.gcd p q → ∀ L9, L9 = none ∨ (∃ z, L9 = some (vL z)) → X 4 [some (vR 12 0), some (vL (lN p)), none, some (vL (lN q)), none, some (vL (lN u)), none, some (vL (lN v)), none, L9, none] [] mm := by
    intro v
    induction v using Nat.strongRecOn with
    | _ v ih =>
      intro u hu hv hgg L9 hL
      by_cases h0 : v = 0
      · subst h0
        rw [Nat.gcd_zero_right] at hgg
        subst hgg
        refine h (fun _ => false) 3000 4 _ _ _ ?_
        refine br_t (by decide) ?_
        refine And.intro (fun z => absurd ((pk_lEQ (a := Nat.gcd p q) (b := 0) (by omega) (by omega)).mp z) (by omega)) ?_
        refine And.intro (fun z => absurd ((pk_lEQ (a := Nat.gcd p q) (b := 0) (by omega) (by omega)).mp z) (by omega)) ?_
        refine And.intro ⟨_, rfl⟩ ?_
        refine And.intro bI_in ?_
        rw [pk_lDiv (by omega) hg (by omega), pk_lDiv (by omega) hg (by omega)]
        rfl
      · have n0 : ¬ lg_cmp (lN v) 0 = 0 := fun z => h0 ((pk_lEQ (a := v) (b := 0) (by omega) (by omega)).mp ((lg_cmp_eq _ _).mp z))
        have nv : ¬ lN v = 0 := fun z => h0 ((pk_lEQ (a := v) (b := 0) (by omega) (by omega)).mp z)
        have er : lN u - lN u / lN v * lN v = lN (u % v) := pk_lRem (by omega) (by omega) (by omega)
        have hm : u % v < v := Nat.mod_lt _ (by omega)
        have hk := ih (u % v) hm v (by omega) (by omega) (by rw [← hgg, Nat.gcd_comm u v, Nat.gcd_rec v u, Nat.gcd_comm]) (some (vL (lN (u % v)))) (Or.inr ⟨_, rfl⟩)
        rcases hL with rfl | ⟨z, rfl⟩
        · refine h (fun i => Nat.beq i 4) 3000 4 _ _ _ ?_
          refine br_f n0 ?_
          refine And.intro nv ?_
          rw [← er] at hk
          exact hk
        · refine h (fun i => Nat.beq i 4) 3000 4 _ _ _ ?_
          refine br_f n0 ?_
          refine And.intro nv ?_
          rw [← er] at hk
          exact hk
  refine h (fun i => Nat.beq i 4) 3000 0 _ _ _ ?_
  exact loop q p hp hq rfl none (Or.inl rfl)
theorem con_X12_tellsBy (l : Launch) : CON l y_X12_tellsBy prog_14_method_11_code 11 (some .boolean) rm_X12_tellsBy Pre_X12_tellsBy Fn_X12_tellsBy := CON_of (by decide) rfl rfl (sa_X12_tellsBy l) vc_X12_tellsBy
/-- what is heard is small, and is part of what can be said -/
def HBo (a : Nat → Int32) : Prop := ∀ (s : Int32) (d : Nat), d < 4 → ∃ p q : Nat, p < 2 ^ 31 ∧ q < 2 ^ 31 ∧ hdA a s d = nI p ∧ syA a (thA a s) d = nI q

def Pre_X12_share : PreT := fun m as => VM m ∧ HBo (m.1 54 0) ∧ ∃ x y : Int32, as = [vR 12 0, vI x, vI y]
def shR (m : MM) (x : Int32) (d : Nat) : Option MV × MM := if syA (m.1 54 0) (thA (m.1 54 0) x) d = 0 then (some (vI 0), stM m 6) else (some (vI 1), tbM m (hdA (m.1 54 0) x d).toNatClampNeg (syA (m.1 54 0) (thA (m.1 54 0) x) d).toNatClampNeg)
def Fn_X12_share : FnT := fun m as => match as with
  | [_, Sum.inl x, Sum.inl y] => if suP (m.1 54 0) x ∧ maP (m.1 54 0) y then shR m x y.toNatClampNeg else (some (vI 0), stM m 1)
  | _ => (none, m)
abbrev y_X12_share : MethodName := ⟨"GivenUpModel", "share", "(II)Z"⟩
def P_X12_share : List StpT := [s_aload 0, s_iload 1, s_iload 2, s_callV 12 2 Pre_X12_areBoth Fn_X12_areBoth, s_ifne 9, s_aload 0, s_ic (1), s_callV 12 1 Pre_X12_is Fn_X12_is, s_zret, s_aload 0, s_aload 0, s_iload 1, s_callV 12 1 Pre_X12_thingsOf Fn_X12_thingsOf, s_iload 2, s_callV 12 2 Pre_X12_saidBy Fn_X12_saidBy, s_istore 3, s_iload 3, s_ifne 22, s_aload 0, s_ic (6), s_callV 12 1 Pre_X12_is Fn_X12_is, s_goto 31, s_aload 0, s_aload 0, s_iload 1, s_iload 2, s_callV 12 2 Pre_X12_heardOf Fn_X12_heardOf, s_i2l, s_iload 3, s_i2l, s_callV 12 2 Pre_X12_tellsBy Fn_X12_tellsBy, s_zret]
def pc_X12_share : Nat → Nat := fun i => [0, 1, 2, 3, 6, 9, 10, 11, 14, 15, 16, 17, 18, 21, 22, 25, 26, 27, 30, 31, 33, 36, 39, 40, 41, 42, 43, 46, 47, 48, 49, 52].getD i 0
def dl_X12_share : List (Nat × Instr × Nat) := [(0, .aload_n 0, 1), (1, .iload_n 1, 1), (2, .iload_n 2, 1), (3, .invokevirtual 322, 3), (6, .ifCond .ne 9, 3), (9, .aload_n 0, 1), (10, .iconst 1, 1), (11, .invokevirtual 94, 3), (14, .ireturn, 1), (15, .aload_n 0, 1), (16, .aload_n 0, 1), (17, .iload_n 1, 1), (18, .invokevirtual 280, 3), (21, .iload_n 2, 1), (22, .invokevirtual 283, 3), (25, .istore_n 3, 1), (26, .iload_n 3, 1), (27, .ifCond .ne 12, 3), (30, .aload_n 0, 1), (31, .bipush 6, 2), (33, .invokevirtual 94, 3), (36, .goto 16, 3), (39, .aload_n 0, 1), (40, .aload_n 0, 1), (41, .iload_n 1, 1), (42, .iload_n 2, 1), (43, .invokevirtual 298, 3), (46, .i2l, 1), (47, .iload_n 3, 1), (48, .i2l, 1), (49, .invokevirtual 367, 3), (52, .ireturn, 1)]
theorem dc_X12_share : DEC prog_14_method_108_code pc_X12_share dl_X12_share := DEC_of (by decide +kernel)
abbrev rm_X12_share : Room := { frames := 4, cells := 0, slots := 0, locals := 86 }
set_option maxRecDepth 20000 in
theorem sa_X12_share (l : Launch) : SNDALL l prog_14_method_108_code "GivenUpModel" 4 (some .boolean) rm_X12_share P_X12_share pc_X12_share := fun p e s m args below meth c cells slots Q D dA ad A RR hC hR => by
  have hM := RTX_room (R := rm_X12_share) hR
  exact ⟨st_aload_n hC (n := 0) (k := 0) (dc_X12_share 0 (0, .aload_n 0, 1) rfl rfl) rfl rfl,
    st_iload_n hC (n := 1) (k := 1) (dc_X12_share 1 (1, .iload_n 1, 1) rfl rfl) rfl rfl,
    st_iload_n hC (n := 2) (k := 2) (dc_X12_share 2 (2, .iload_n 2, 1) rfl rfl) rfl rfl,
    st_callV hC (n := 3) (k := 12) (na := 2) (con_X12_areBoth l) (dc_X12_share 3 (3, .invokevirtual 322, 3) rfl rfl) rfl wd_1969 wd_160 (by decide) ⟨rfl, rfl, by decide, by decide⟩ hM wd_1966 wd_1968 wd_99 clf_12,
    st_ifne hC (n := 4) (dc_X12_share 4 (6, .ifCond .ne 9, 3) rfl rfl) rfl (by decide),
    st_aload_n hC (n := 5) (k := 0) (dc_X12_share 5 (9, .aload_n 0, 1) rfl rfl) rfl rfl,
    st_iconst hC (n := 6) (x := 1) (dc_X12_share 6 (10, .iconst 1, 1) rfl rfl) rfl (by decide),
    st_callV hC (n := 7) (k := 12) (na := 1) (con_X12_is l) (dc_X12_share 7 (11, .invokevirtual 94, 3) rfl rfl) rfl wd_1698 wd_160 (by decide) ⟨rfl, rfl, by decide, by decide⟩ hM wd_1695 wd_1697 wd_51 clf_12,
    st_zret hC (n := 8) hR (dc_X12_share 8 (14, .ireturn, 1) rfl rfl),
    st_aload_n hC (n := 9) (k := 0) (dc_X12_share 9 (15, .aload_n 0, 1) rfl rfl) rfl rfl,
    st_aload_n hC (n := 10) (k := 0) (dc_X12_share 10 (16, .aload_n 0, 1) rfl rfl) rfl rfl,
    st_iload_n hC (n := 11) (k := 1) (dc_X12_share 11 (17, .iload_n 1, 1) rfl rfl) rfl rfl,
    st_callV hC (n := 12) (k := 12) (na := 1) (con_X12_thingsOf l) (dc_X12_share 12 (18, .invokevirtual 280, 3) rfl rfl) rfl wd_1892 wd_160 (by decide) ⟨rfl, rfl, by decide, by decide⟩ hM wd_1889 wd_1891 wd_86 clf_12,
    st_iload_n hC (n := 13) (k := 2) (dc_X12_share 13 (21, .iload_n 2, 1) rfl rfl) rfl rfl,
    st_callV hC (n := 14) (k := 12) (na := 2) (con_X12_saidBy l) (dc_X12_share 14 (22, .invokevirtual 283, 3) rfl rfl) rfl wd_2025 wd_160 (by decide) ⟨rfl, rfl, by decide, by decide⟩ hM wd_2022 wd_2024 wd_107 clf_12,
    st_istore_n hC (n := 15) (k := 3) (dc_X12_share 15 (25, .istore_n 3, 1) rfl rfl) rfl rfl (by decide),
    st_iload_n hC (n := 16) (k := 3) (dc_X12_share 16 (26, .iload_n 3, 1) rfl rfl) rfl rfl,
    st_ifne hC (n := 17) (dc_X12_share 17 (27, .ifCond .ne 12, 3) rfl rfl) rfl (by decide),
    st_aload_n hC (n := 18) (k := 0) (dc_X12_share 18 (30, .aload_n 0, 1) rfl rfl) rfl rfl,
    st_bipush hC (n := 19) (x := 6) (dc_X12_share 19 (31, .bipush 6, 2) rfl rfl) rfl (by decide),
    st_callV hC (n := 20) (k := 12) (na := 1) (con_X12_is l) (dc_X12_share 20 (33, .invokevirtual 94, 3) rfl rfl) rfl wd_1698 wd_160 (by decide) ⟨rfl, rfl, by decide, by decide⟩ hM wd_1695 wd_1697 wd_51 clf_12,
    st_goto hC (n := 21) (dc_X12_share 21 (36, .goto 16, 3) rfl rfl) (by decide),
    st_aload_n hC (n := 22) (k := 0) (dc_X12_share 22 (39, .aload_n 0, 1) rfl rfl) rfl rfl,
    st_aload_n hC (n := 23) (k := 0) (dc_X12_share 23 (40, .aload_n 0, 1) rfl rfl) rfl rfl,
    st_iload_n hC (n := 24) (k := 1) (dc_X12_share 24 (41, .iload_n 1, 1) rfl rfl) rfl rfl,
    st_iload_n hC (n := 25) (k := 2) (dc_X12_share 25 (42, .iload_n 2, 1) rfl rfl) rfl rfl,
    st_callV hC (n := 26) (k := 12) (na := 2) (con_X12_heardOf l) (dc_X12_share 26 (43, .invokevirtual 298, 3) rfl rfl) rfl wd_2021 wd_160 (by decide) ⟨rfl, rfl, by decide, by decide⟩ hM wd_2018 wd_2020 wd_106 clf_12,
    st_i2l hC (n := 27) (dc_X12_share 27 (46, .i2l, 1) rfl rfl) rfl,
    st_iload_n hC (n := 28) (k := 3) (dc_X12_share 28 (47, .iload_n 3, 1) rfl rfl) rfl rfl,
    st_i2l hC (n := 29) (dc_X12_share 29 (48, .i2l, 1) rfl rfl) rfl,
    st_callV hC (n := 30) (k := 12) (na := 2) (con_X12_tellsBy l) (dc_X12_share 30 (49, .invokevirtual 367, 3) rfl rfl) rfl wd_2102 wd_160 (by decide) ⟨rfl, rfl, by decide, by decide⟩ hM wd_2099 wd_2101 wd_116 clf_12,
    st_zret hC (n := 31) hR (dc_X12_share 31 (52, .ireturn, 1) rfl rfl), trivial⟩
set_option maxRecDepth 8000 in
theorem vc_X12_share : VC P_X12_share 4 Pre_X12_share Fn_X12_share := by
  rintro mm as hom hoa ⟨⟨ns, nm, nt, hV⟩, hB, x, y, rfl⟩
  refine ⟨Nat.le_of_ble_eq_true rfl, fun X h => ?_⟩
  have hM : VM mm := ⟨ns, nm, nt, hV⟩
  have hnm4 : nm ≤ 4 := hV.2.1.2
  have body : suP (mm.1 54 0) x ∧ maP (mm.1 54 0) y → X 9 [some (vR 12 0), some (vI (x)), some (vI (y)), none] [] mm := by
    intro hp
    obtain ⟨d, hd, rfl⟩ := ma_in hV hp.2
    have ed : (nI d).toNatClampNeg = d := nI_clamp (by omega)
    have eF : Fn_X12_share mm [vR 12 0, vI x, vI (nI d)] = shR mm x d := by
      refine Eq.trans (if_pos hp) ?_
      rw [ed]
    rw [eF] at h
    obtain ⟨p, q, hp31, hq31, e1, e2⟩ := hB x d (by omega)
    unfold shR at h
    rw [e1, e2, nI_clamp hp31, nI_clamp hq31] at h
    have next : X 16 [some (vR 12 0), some (vI (x)), some (vI (nI d)), some (vI (nI q))] [] mm := by
      by_cases h0 : q = 0
      · subst h0
        rw [if_pos (show nI 0 = 0 from rfl)] at h
        show X 16 [some (vR 12 0), some (vI x), some (vI (nI d)), some (vI (nI 0))] [] mm
        refine h (fun _ => false) 3000 16 _ _ _ ?_
        refine brn_f (by decide) ?_
        refine And.intro ⟨_, rfl⟩ ?_
        refine And.intro bI_in ?_
        show ((some (vI (bI (6 = 0))) : Option MV), stM mm 6) = _
        exact rfl
      · have n0 : ¬ nI q = 0 := fun z => h0 ((nI_eq hq31 (by omega)).mp z)
        rw [if_neg n0] at h
        have e3 : (nI p).toInt64 = lN p := nI_l hp31
        have e4 : (nI q).toInt64 = lN q := nI_l hq31
        have fin : X 30 [some (vR 12 0), some (vI x), some (vI (nI d)), some (vI (nI q))] [vL (lN q), vL (lN p), vR 12 0] mm := by
          refine h (fun _ => false) 3000 30 _ _ _ ?_
          refine And.intro ⟨p, q, by omega, by omega, by omega, rfl⟩ ?_
          refine And.intro (Or.inr rfl) ?_
          show (some (vI 1), tbM mm (lN p).toInt.toNat (lN q).toInt.toNat) = _
          rw [pk_lT (by omega), pk_lT (by omega)]
          rfl
        show X 16 [some (vR 12 0), some (vI x), some (vI (nI d)), some (vI (nI q))] [] mm
        refine h (fun i => Nat.beq i 30) 3000 16 _ _ _ ?_
        refine brn_t (n0) ?_
        refine And.intro ⟨hM, _, d, by omega, rfl⟩ ?_
        show X 30 [some (vR 12 0), some (vI x), some (vI (nI d)), some (vI (nI q))] [vL ((nI q).toInt64), vL ((hdA (mm.1 54 0) x (nI d).toNatClampNeg).toInt64), vR 12 0] mm
        rw [ed]
        rw [e1, e3, e4]
        exact fin
    show X 9 [some (vR 12 0), some (vI x), some (vI (nI d)), none] [] mm
    refine h (fun i => Nat.beq i 16) 3000 9 _ _ _ ?_
    refine And.intro ⟨hM, _, rfl⟩ ?_
    refine And.intro ⟨hM, _, d, by omega, rfl⟩ ?_
    show X 16 [some (vR 12 0), some (vI x), some (vI (nI d)), some (vI (syA (mm.1 54 0) (thA (mm.1 54 0) x) (nI d).toNatClampNeg))] [] mm
    rw [ed]
    rw [e2]
    exact next
  show X 0 [some (vR 12 0), some (vI x), some (vI y), none] [] mm
  refine h (fun i => Nat.beq i 9) 3000 0 _ _ _ ?_
  refine And.intro ⟨_, _, rfl⟩ ?_
  refine brn_c (fun b4 => ?_) (fun b4 => ?_)
  · -- 4: bI (suP (mm.1 54 0) x ∧ maP (mm.1 54 0) y) = 0 taken
    replace b4 : suP (mm.1 54 0) x ∧ maP (mm.1 54 0) y := bI_n0.mp b4
    show X 9 [some (vR 12 0), some (vI x), some (vI y), none] [] mm
    exact body b4
  · -- 4: bI (suP (mm.1 54 0) x ∧ maP (mm.1 54 0) y) = 0 on
    replace b4 : ¬ (suP (mm.1 54 0) x ∧ maP (mm.1 54 0) y) := bI_0.mp b4
    refine And.intro ⟨_, rfl⟩ ?_
    refine And.intro bI_in ?_
    show ((some (vI (bI (1 = 0))) : Option MV), stM mm 1) = _
    exact (if_neg b4).symm
theorem con_X12_share (l : Launch) : CON l y_X12_share prog_14_method_108_code 4 (some .boolean) rm_X12_share Pre_X12_share Fn_X12_share := CON_of (by decide) rfl rfl (sa_X12_share l) vc_X12_share
def whA (a : Nat → Int32) (d : Nat) : Nat → Int32
  | 0 => -1
  | t + 1 => if a (15 + 4 * t) = -1 ∧ (whA a d t = -1 ∨ pfP a d t (whA a d t).toNatClampNeg) then nI t else whA a d t
theorem whA_in (a : Nat → Int32) (d : Nat) : ∀ t, t ≤ 4 → whA a d t = -1 ∨ ∃ o, o < 4 ∧ whA a d t = nI o
  | 0, _ => Or.inl rfl
  | t + 1, h => by
    rw [whA]
    split
    · exact Or.inr ⟨t, by omega, rfl⟩
    · exact whA_in a d t (by omega)

def Pre_X12_wouldHave : PreT := fun m as => VM m ∧ ∃ x : Int32, as = [vR 12 0, vI x]
def Fn_X12_wouldHave : FnT := fun m as => match as with
  | [_, Sum.inl x] => if maP (m.1 54 0) x then onM m (whA (m.1 54 0) x.toNatClampNeg (m.1 54 0 0).toNatClampNeg) else rfM m 1
  | _ => (none, m)
abbrev y_X12_wouldHave : MethodName := ⟨"GivenUpModel", "wouldHave", "(I)I"⟩
def P_X12_wouldHave : List StpT := [s_aload 0, s_iload 1, s_callV 12 1 Pre_X12_isMaid Fn_X12_isMaid, s_ifne 8, s_aload 0, s_ic (1), s_callV 12 1 Pre_X12_refuse Fn_X12_refuse, s_iret, s_ic (-1), s_istore 2, s_ic (0), s_istore 3, s_iload 3, s_aload 0, s_getR 12 0 54, s_ic (0), s_iald, s_icge 32, s_aload 0, s_iload 3, s_callV 12 1 Pre_X12_hasWed Fn_X12_hasWed, s_ifne 30, s_aload 0, s_iload 1, s_iload 3, s_iload 2, s_callV 12 3 Pre_X12_prefers Fn_X12_prefers, s_ifeq 30, s_iload 3, s_istore 2, s_iinc 3 (1), s_goto 12, s_aload 0, s_iload 2, s_callV 12 1 Pre_X12_orNone Fn_X12_orNone, s_iret]
def pc_X12_wouldHave : Nat → Nat := fun i => [0, 1, 2, 5, 8, 9, 10, 13, 14, 15, 16, 17, 18, 19, 20, 23, 24, 25, 28, 29, 30, 33, 36, 37, 38, 39, 40, 43, 46, 47, 48, 51, 54, 55, 56, 59].getD i 0
def dl_X12_wouldHave : List (Nat × Instr × Nat) := [(0, .aload_n 0, 1), (1, .iload_n 1, 1), (2, .invokevirtual 268, 3), (5, .ifCond .ne 9, 3), (8, .aload_n 0, 1), (9, .iconst 1, 1), (10, .invokevirtual 87, 3), (13, .ireturn, 1), (14, .iconst (-1), 1), (15, .istore_n 2, 1), (16, .iconst 0, 1), (17, .istore_n 3, 1), (18, .iload_n 3, 1), (19, .aload_n 0, 1), (20, .getfield 7, 3), (23, .iconst 0, 1), (24, .iaload, 1), (25, .if_icmp .ge 29, 3), (28, .aload_n 0, 1), (29, .iload_n 3, 1), (30, .invokevirtual 292, 3), (33, .ifCond .ne 15, 3), (36, .aload_n 0, 1), (37, .iload_n 1, 1), (38, .iload_n 3, 1), (39, .iload_n 2, 1), (40, .invokevirtual 364, 3), (43, .ifCond .eq 5, 3), (46, .iload_n 3, 1), (47, .istore_n 2, 1), (48, .iinc 3 1, 3), (51, .goto (-33), 3), (54, .aload_n 0, 1), (55, .iload_n 2, 1), (56, .invokevirtual 310, 3), (59, .ireturn, 1)]
theorem dc_X12_wouldHave : DEC prog_14_method_105_code pc_X12_wouldHave dl_X12_wouldHave := DEC_of (by decide +kernel)
abbrev rm_X12_wouldHave : Room := { frames := 5, cells := 0, slots := 0, locals := 111 }
set_option maxRecDepth 20000 in
theorem sa_X12_wouldHave (l : Launch) : SNDALL l prog_14_method_105_code "GivenUpModel" 4 (some .int) rm_X12_wouldHave P_X12_wouldHave pc_X12_wouldHave := fun p e s m args below meth c cells slots Q D dA ad A RR hC hR => by
  have hM := RTX_room (R := rm_X12_wouldHave) hR
  exact ⟨st_aload_n hC (n := 0) (k := 0) (dc_X12_wouldHave 0 (0, .aload_n 0, 1) rfl rfl) rfl rfl,
    st_iload_n hC (n := 1) (k := 1) (dc_X12_wouldHave 1 (1, .iload_n 1, 1) rfl rfl) rfl rfl,
    st_callV hC (n := 2) (k := 12) (na := 1) (con_X12_isMaid l) (dc_X12_wouldHave 2 (2, .invokevirtual 268, 3) rfl rfl) rfl wd_1923 wd_160 (by decide) ⟨rfl, rfl, by decide, by decide⟩ hM wd_1920 wd_1922 wd_92 clf_12,
    st_ifne hC (n := 3) (dc_X12_wouldHave 3 (5, .ifCond .ne 9, 3) rfl rfl) rfl (by decide),
    st_aload_n hC (n := 4) (k := 0) (dc_X12_wouldHave 4 (8, .aload_n 0, 1) rfl rfl) rfl rfl,
    st_iconst hC (n := 5) (x := 1) (dc_X12_wouldHave 5 (9, .iconst 1, 1) rfl rfl) rfl (by decide),
    st_callV hC (n := 6) (k := 12) (na := 1) (con_X12_refuse l) (dc_X12_wouldHave 6 (10, .invokevirtual 87, 3) rfl rfl) rfl wd_1758 wd_160 (by decide) ⟨rfl, rfl, by decide, by decide⟩ hM wd_1755 wd_1757 wd_57 clf_12,
    st_iret hC (n := 7) hR (dc_X12_wouldHave 7 (13, .ireturn, 1) rfl rfl),
    st_iconst hC (n := 8) (x := (-1)) (dc_X12_wouldHave 8 (14, .iconst (-1), 1) rfl rfl) rfl (by decide),
    st_istore_n hC (n := 9) (k := 2) (dc_X12_wouldHave 9 (15, .istore_n 2, 1) rfl rfl) rfl rfl (by decide),
    st_iconst hC (n := 10) (x := 0) (dc_X12_wouldHave 10 (16, .iconst 0, 1) rfl rfl) rfl (by decide),
    st_istore_n hC (n := 11) (k := 3) (dc_X12_wouldHave 11 (17, .istore_n 3, 1) rfl rfl) rfl rfl (by decide),
    st_iload_n hC (n := 12) (k := 3) (dc_X12_wouldHave 12 (18, .iload_n 3, 1) rfl rfl) rfl rfl,
    st_aload_n hC (n := 13) (k := 0) (dc_X12_wouldHave 13 (19, .aload_n 0, 1) rfl rfl) rfl rfl,
    st_getR hC (n := 14) (k := 12) (j := 0) (dc_X12_wouldHave 14 (20, .getfield 7, 3) rfl rfl) rfl clf_12 (by decide) rfl (by decide) wd_1552,
    st_iconst hC (n := 15) (x := 0) (dc_X12_wouldHave 15 (23, .iconst 0, 1) rfl rfl) rfl (by decide),
    st_iald hC (n := 16) (dc_X12_wouldHave 16 (24, .iaload, 1) rfl rfl) rfl,
    st_icge hC (n := 17) (dc_X12_wouldHave 17 (25, .if_icmp .ge 29, 3) rfl rfl) rfl (by decide),
    st_aload_n hC (n := 18) (k := 0) (dc_X12_wouldHave 18 (28, .aload_n 0, 1) rfl rfl) rfl rfl,
    st_iload_n hC (n := 19) (k := 3) (dc_X12_wouldHave 19 (29, .iload_n 3, 1) rfl rfl) rfl rfl,
    st_callV hC (n := 20) (k := 12) (na := 1) (con_X12_hasWed l) (dc_X12_wouldHave 20 (30, .invokevirtual 292, 3) rfl rfl) rfl wd_1985 wd_160 (by decide) ⟨rfl, rfl, by decide, by decide⟩ hM wd_1982 wd_1984 wd_102 clf_12,
    st_ifne hC (n := 21) (dc_X12_wouldHave 21 (33, .ifCond .ne 15, 3) rfl rfl) rfl (by decide),
    st_aload_n hC (n := 22) (k := 0) (dc_X12_wouldHave 22 (36, .aload_n 0, 1) rfl rfl) rfl rfl,
    st_iload_n hC (n := 23) (k := 1) (dc_X12_wouldHave 23 (37, .iload_n 1, 1) rfl rfl) rfl rfl,
    st_iload_n hC (n := 24) (k := 3) (dc_X12_wouldHave 24 (38, .iload_n 3, 1) rfl rfl) rfl rfl,
    st_iload_n hC (n := 25) (k := 2) (dc_X12_wouldHave 25 (39, .iload_n 2, 1) rfl rfl) rfl rfl,
    st_callV hC (n := 26) (k := 12) (na := 3) (con_X12_prefers l) (dc_X12_wouldHave 26 (40, .invokevirtual 364, 3) rfl rfl) rfl wd_2086 wd_160 (by decide) ⟨rfl, rfl, by decide, by decide⟩ hM wd_2083 wd_2085 wd_115 clf_12,
    st_ifeq hC (n := 27) (dc_X12_wouldHave 27 (43, .ifCond .eq 5, 3) rfl rfl) rfl (by decide),
    st_iload_n hC (n := 28) (k := 3) (dc_X12_wouldHave 28 (46, .iload_n 3, 1) rfl rfl) rfl rfl,
    st_istore_n hC (n := 29) (k := 2) (dc_X12_wouldHave 29 (47, .istore_n 2, 1) rfl rfl) rfl rfl (by decide),
    st_iinc hC (n := 30) (x := 1) (dc_X12_wouldHave 30 (48, .iinc 3 1, 3) rfl rfl) rfl (by decide) (by decide),
    st_goto hC (n := 31) (dc_X12_wouldHave 31 (51, .goto (-33), 3) rfl rfl) (by decide),
    st_aload_n hC (n := 32) (k := 0) (dc_X12_wouldHave 32 (54, .aload_n 0, 1) rfl rfl) rfl rfl,
    st_iload_n hC (n := 33) (k := 2) (dc_X12_wouldHave 33 (55, .iload_n 2, 1) rfl rfl) rfl rfl,
    st_callV hC (n := 34) (k := 12) (na := 1) (con_X12_orNone l) (dc_X12_wouldHave 34 (56, .invokevirtual 310, 3) rfl rfl) rfl wd_1915 wd_160 (by decide) ⟨rfl, rfl, by decide, by decide⟩ hM wd_1912 wd_1914 wd_91 clf_12,
    st_iret hC (n := 35) hR (dc_X12_wouldHave 35 (59, .ireturn, 1) rfl rfl), trivial⟩
set_option maxRecDepth 8000 in
theorem vc_X12_wouldHave : VC P_X12_wouldHave 4 Pre_X12_wouldHave Fn_X12_wouldHave := by
  rintro mm as hom hoa ⟨⟨ns, nm, nt, hV⟩, x, rfl⟩
  refine ⟨Nat.le_of_ble_eq_true rfl, fun X h => ?_⟩
  have hM : VM mm := ⟨ns, nm, nt, hV⟩
  have hns : mm.1 54 0 0 = nI ns := hV.1.1
  have hns4 : ns ≤ 4 := hV.1.2
  have hnm4 : nm ≤ 4 := hV.2.1.2
  have body : maP (mm.1 54 0) x → X 8 [some (vR 12 0), some (vI (x)), none, none] [] mm := by
    intro hp
    obtain ⟨d, hd, rfl⟩ := ma_in hV hp
    have ed : (nI d).toNatClampNeg = d := nI_clamp (by omega)
    have eF : Fn_X12_wouldHave mm [vR 12 0, vI (nI d)] = onM mm (whA (mm.1 54 0) d ns) := by
      refine Eq.trans (if_pos hp) ?_
      rw [ed, hns, nI_clamp (by omega)]
    rw [eF] at h
    have loop : ∀ t, t ≤ ns → X 12 [some (vR 12 0), some (vI (nI d)), some (vI (whA (mm.1 54 0) d t)), some (vI (nI t))] [] mm := by
      refine up_ind ns ?_ (fun t ht hk => ?_)
      ·
        show X 12 [some (vR 12 0), some (vI (nI d)), some (vI (whA (mm.1 54 0) d ns)), some (vI (nI ns))] [] mm
        refine h (fun _ => false) 3000 12 _ _ _ ?_
        refine And.intro rfl ?_
        refine br_t (by ((try simp (disch := omega) only [hns, li, pk_mul, nI_add, nI_clamp, nI_leI, nI_ltI, nI_eq, bI_0, bI_n0, Decidable.not_not, gu_m1]); first | done | omega | assumption)) ?_
        refine And.intro ⟨_, rfl⟩ ?_
        show ((some (vI (whA (mm.1 54 0) d ns)) : Option MV), stM mm (if (whA (mm.1 54 0) d ns) = -1 then 6 else 0)) = _
        exact rfl
      · have et : (nI t).toNatClampNeg = t := nI_clamp (by omega)
        have st : ∀ v, v = whA (mm.1 54 0) d (t + 1) → X 30 [some (vR 12 0), some (vI (nI d)), some (vI (v)), some (vI (nI t))] [] mm := by
          intro v ev
          show X 30 [some (vR 12 0), some (vI (nI d)), some (vI v), some (vI (nI t))] [] mm
          refine h (fun i => Nat.beq i 12) 3000 30 _ _ _ ?_
          show X 12 [some (vR 12 0), some (vI (nI d)), some (vI v), some (vI ((nI t) + 1))] [] mm
          rw [nI_1, ev]
          exact hk
        show X 12 [some (vR 12 0), some (vI (nI d)), some (vI (whA (mm.1 54 0) d t)), some (vI (nI t))] [] mm
        refine h (fun i => Nat.beq i 30) 3000 12 _ _ _ ?_
        refine And.intro rfl ?_
        refine br_f (by ((try simp (disch := omega) only [hns, li, pk_mul, nI_add, nI_clamp, nI_leI, nI_ltI, nI_eq, bI_0, bI_n0, Decidable.not_not, gu_m1]); first | done | omega | assumption)) ?_
        refine And.intro ⟨t, by omega, rfl⟩ ?_
        refine brn_c (fun b21 => ?_) (fun b21 => ?_)
        · -- 21: bI (¬ mm.1 54 0 (15 + 4 * (nI t).toNatClampNeg) = -1) = 0 taken
          replace b21 : ¬ mm.1 54 0 (15 + 4 * (nI t).toNatClampNeg) = -1 := bI_n0.mp b21
          rw [et] at b21
          show X 30 [some (vR 12 0), some (vI (nI d)), some (vI (whA (mm.1 54 0) d t)), some (vI (nI t))] [] mm
          refine st _ (by rw [whA]; grind)
        · -- 21: bI (¬ mm.1 54 0 (15 + 4 * (nI t).toNatClampNeg) = -1) = 0 on
          replace b21 : ¬ (¬ mm.1 54 0 (15 + 4 * (nI t).toNatClampNeg) = -1) := bI_0.mp b21
          rw [et] at b21
          refine And.intro ⟨hM, d, t, _, by omega, by omega, whA_in _ _ t (by omega), rfl⟩ ?_
          refine br_c (fun b27 => ?_) (fun b27 => ?_)
          · -- 27: bI ((whA (mm.1 54 0) d t) = -1 ∨ pfP (mm.1 54 0) (nI d).toNatClampNeg (nI t).toNatClampNeg (whA (mm.1 54 0) d t).toNatClampNeg) = 0 taken
            replace b27 : ¬ ((whA (mm.1 54 0) d t) = -1 ∨ pfP (mm.1 54 0) (nI d).toNatClampNeg (nI t).toNatClampNeg (whA (mm.1 54 0) d t).toNatClampNeg) := bI_0.mp b27
            rw [et] at b27
            rw [ed] at b27
            show X 30 [some (vR 12 0), some (vI (nI d)), some (vI (whA (mm.1 54 0) d t)), some (vI (nI t))] [] mm
            refine st _ (by rw [whA]; grind)
          · -- 27: bI ((whA (mm.1 54 0) d t) = -1 ∨ pfP (mm.1 54 0) (nI d).toNatClampNeg (nI t).toNatClampNeg (whA (mm.1 54 0) d t).toNatClampNeg) = 0 on
            replace b27 : (whA (mm.1 54 0) d t) = -1 ∨ pfP (mm.1 54 0) (nI d).toNatClampNeg (nI t).toNatClampNeg (whA (mm.1 54 0) d t).toNatClampNeg := bI_n0.mp b27
            rw [et] at b27
            rw [ed] at b27
            show X 30 [some (vR 12 0), some (vI (nI d)), some (vI (nI t)), some (vI (nI t))] [] mm
            refine st _ (by rw [whA]; grind)
    show X 8 [some (vR 12 0), some (vI (nI d)), none, none] [] mm
    refine h (fun i => Nat.beq i 12) 3000 8 _ _ _ ?_
    show X 12 [some (vR 12 0), some (vI (nI d)), some (vI (-1)), some (vI 0)] [] mm
    exact loop 0 (by omega)
  show X 0 [some (vR 12 0), some (vI x), none, none] [] mm
  refine h (fun i => Nat.beq i 8) 3000 0 _ _ _ ?_
  refine And.intro ⟨_, rfl⟩ ?_
  refine brn_c (fun b3 => ?_) (fun b3 => ?_)
  · -- 3: bI (maP (mm.1 54 0) x) = 0 taken
    replace b3 : maP (mm.1 54 0) x := bI_n0.mp b3
    show X 8 [some (vR 12 0), some (vI x), none, none] [] mm
    exact body b3
  · -- 3: bI (maP (mm.1 54 0) x) = 0 on
    replace b3 : ¬ (maP (mm.1 54 0) x) := bI_0.mp b3
    refine And.intro ⟨_, rfl⟩ ?_
    show ((some (vI (-1)) : Option MV), stM mm 1) = _
    exact (if_neg b3).symm
theorem con_X12_wouldHave (l : Launch) : CON l y_X12_wouldHave prog_14_method_105_code 4 (some .int) rm_X12_wouldHave Pre_X12_wouldHave Fn_X12_wouldHave := CON_of (by decide) rfl rfl (sa_X12_wouldHave l) vc_X12_wouldHave
def prS (a : Nat → Int32) (d : Nat) : Nat → Int32
  | 0 => 0
  | t + 1 => prS a d t ||| (if ¬ a (80 + 4 * t + d) ≤ a (45 + 3 * t) then 1 <<< (nI t &&& 31) else 0)

def Pre_X12_proud : PreT := fun m as => VM m ∧ ∃ x : Int32, as = [vR 12 0, vI x]
def Fn_X12_proud : FnT := fun m as => match as with
  | [_, Sum.inl x] => if maP (m.1 54 0) x then gvM m (prS (m.1 54 0) x.toNatClampNeg (m.1 54 0 2).toNatClampNeg) else rfM m 1
  | _ => (none, m)
abbrev y_X12_proud : MethodName := ⟨"GivenUpModel", "proud", "(I)I"⟩
def P_X12_proud : List StpT := [s_aload 0, s_iload 1, s_callV 12 1 Pre_X12_isMaid Fn_X12_isMaid, s_ifne 8, s_aload 0, s_ic (1), s_callV 12 1 Pre_X12_refuse Fn_X12_refuse, s_iret, s_ic (0), s_istore 2, s_ic (0), s_istore 3, s_iload 3, s_aload 0, s_getR 12 0 54, s_ic (2), s_iald, s_icge 46, s_iload 2, s_aload 0, s_getR 12 0 54, s_ic (80), s_ic (4), s_iload 3, s_imul, s_iadd, s_iload 1, s_iadd, s_iald, s_aload 0, s_getR 12 0 54, s_iload 3, s_callS 1 Pre_X12_thingRow Fn_X12_thingRow, s_ic (1), s_iadd, s_iald, s_icle 41, s_ic (1), s_iload 3, s_ishl, s_goto 42, s_ic (0), s_ior, s_istore 2, s_iinc 3 (1), s_goto 12, s_aload 0, s_iload 2, s_callV 12 1 Pre_X12_gives Fn_X12_gives, s_iret]
def pc_X12_proud : Nat → Nat := fun i => [0, 1, 2, 5, 8, 9, 10, 13, 14, 15, 16, 17, 18, 19, 20, 23, 24, 25, 28, 29, 30, 33, 35, 36, 37, 38, 39, 40, 41, 42, 43, 46, 47, 50, 51, 52, 53, 56, 57, 58, 59, 62, 63, 64, 65, 68, 71, 72, 73, 76].getD i 0
def dl_X12_proud : List (Nat × Instr × Nat) := [(0, .aload_n 0, 1), (1, .iload_n 1, 1), (2, .invokevirtual 268, 3), (5, .ifCond .ne 9, 3), (8, .aload_n 0, 1), (9, .iconst 1, 1), (10, .invokevirtual 87, 3), (13, .ireturn, 1), (14, .iconst 0, 1), (15, .istore_n 2, 1), (16, .iconst 0, 1), (17, .istore_n 3, 1), (18, .iload_n 3, 1), (19, .aload_n 0, 1), (20, .getfield 7, 3), (23, .iconst 2, 1), (24, .iaload, 1), (25, .if_icmp .ge 46, 3), (28, .iload_n 2, 1), (29, .aload_n 0, 1), (30, .getfield 7, 3), (33, .bipush 80, 2), (35, .iconst 4, 1), (36, .iload_n 3, 1), (37, .imul, 1), (38, .iadd, 1), (39, .iload_n 1, 1), (40, .iadd, 1), (41, .iaload, 1), (42, .aload_n 0, 1), (43, .getfield 7, 3), (46, .iload_n 3, 1), (47, .invokestatic 271, 3), (50, .iconst 1, 1), (51, .iadd, 1), (52, .iaload, 1), (53, .if_icmp .le 9, 3), (56, .iconst 1, 1), (57, .iload_n 3, 1), (58, .ishl, 1), (59, .goto 4, 3), (62, .iconst 0, 1), (63, .ior, 1), (64, .istore_n 2, 1), (65, .iinc 3 1, 3), (68, .goto (-50), 3), (71, .aload_n 0, 1), (72, .iload_n 2, 1), (73, .invokevirtual 91, 3), (76, .ireturn, 1)]
theorem dc_X12_proud : DEC prog_14_method_106_code pc_X12_proud dl_X12_proud := DEC_of (by decide +kernel)
abbrev rm_X12_proud : Room := { frames := 1, cells := 0, slots := 0, locals := 21 }
set_option maxRecDepth 20000 in
theorem sa_X12_proud (l : Launch) : SNDALL l prog_14_method_106_code "GivenUpModel" 4 (some .int) rm_X12_proud P_X12_proud pc_X12_proud := fun p e s m args below meth c cells slots Q D dA ad A RR hC hR => by
  have hM := RTX_room (R := rm_X12_proud) hR
  exact ⟨st_aload_n hC (n := 0) (k := 0) (dc_X12_proud 0 (0, .aload_n 0, 1) rfl rfl) rfl rfl,
    st_iload_n hC (n := 1) (k := 1) (dc_X12_proud 1 (1, .iload_n 1, 1) rfl rfl) rfl rfl,
    st_callV hC (n := 2) (k := 12) (na := 1) (con_X12_isMaid l) (dc_X12_proud 2 (2, .invokevirtual 268, 3) rfl rfl) rfl wd_1923 wd_160 (by decide) ⟨rfl, rfl, by decide, by decide⟩ hM wd_1920 wd_1922 wd_92 clf_12,
    st_ifne hC (n := 3) (dc_X12_proud 3 (5, .ifCond .ne 9, 3) rfl rfl) rfl (by decide),
    st_aload_n hC (n := 4) (k := 0) (dc_X12_proud 4 (8, .aload_n 0, 1) rfl rfl) rfl rfl,
    st_iconst hC (n := 5) (x := 1) (dc_X12_proud 5 (9, .iconst 1, 1) rfl rfl) rfl (by decide),
    st_callV hC (n := 6) (k := 12) (na := 1) (con_X12_refuse l) (dc_X12_proud 6 (10, .invokevirtual 87, 3) rfl rfl) rfl wd_1758 wd_160 (by decide) ⟨rfl, rfl, by decide, by decide⟩ hM wd_1755 wd_1757 wd_57 clf_12,
    st_iret hC (n := 7) hR (dc_X12_proud 7 (13, .ireturn, 1) rfl rfl),
    st_iconst hC (n := 8) (x := 0) (dc_X12_proud 8 (14, .iconst 0, 1) rfl rfl) rfl (by decide),
    st_istore_n hC (n := 9) (k := 2) (dc_X12_proud 9 (15, .istore_n 2, 1) rfl rfl) rfl rfl (by decide),
    st_iconst hC (n := 10) (x := 0) (dc_X12_proud 10 (16, .iconst 0, 1) rfl rfl) rfl (by decide),
    st_istore_n hC (n := 11) (k := 3) (dc_X12_proud 11 (17, .istore_n 3, 1) rfl rfl) rfl rfl (by decide),
    st_iload_n hC (n := 12) (k := 3) (dc_X12_proud 12 (18, .iload_n 3, 1) rfl rfl) rfl rfl,
    st_aload_n hC (n := 13) (k := 0) (dc_X12_proud 13 (19, .aload_n 0, 1) rfl rfl) rfl rfl,
    st_getR hC (n := 14) (k := 12) (j := 0) (dc_X12_proud 14 (20, .getfield 7, 3) rfl rfl) rfl clf_12 (by decide) rfl (by decide) wd_1552,
    st_iconst hC (n := 15) (x := 2) (dc_X12_proud 15 (23, .iconst 2, 1) rfl rfl) rfl (by decide),
    st_iald hC (n := 16) (dc_X12_proud 16 (24, .iaload, 1) rfl rfl) rfl,
    st_icge hC (n := 17) (dc_X12_proud 17 (25, .if_icmp .ge 46, 3) rfl rfl) rfl (by decide),
    st_iload_n hC (n := 18) (k := 2) (dc_X12_proud 18 (28, .iload_n 2, 1) rfl rfl) rfl rfl,
    st_aload_n hC (n := 19) (k := 0) (dc_X12_proud 19 (29, .aload_n 0, 1) rfl rfl) rfl rfl,
    st_getR hC (n := 20) (k := 12) (j := 0) (dc_X12_proud 20 (30, .getfield 7, 3) rfl rfl) rfl clf_12 (by decide) rfl (by decide) wd_1552,
    st_bipush hC (n := 21) (x := 80) (dc_X12_proud 21 (33, .bipush 80, 2) rfl rfl) rfl (by decide),
    st_iconst hC (n := 22) (x := 4) (dc_X12_proud 22 (35, .iconst 4, 1) rfl rfl) rfl (by decide),
    st_iload_n hC (n := 23) (k := 3) (dc_X12_proud 23 (36, .iload_n 3, 1) rfl rfl) rfl rfl,
    st_imul hC (n := 24) (dc_X12_proud 24 (37, .imul, 1) rfl rfl) rfl,
    st_iadd hC (n := 25) (dc_X12_proud 25 (38, .iadd, 1) rfl rfl) rfl,
    st_iload_n hC (n := 26) (k := 1) (dc_X12_proud 26 (39, .iload_n 1, 1) rfl rfl) rfl rfl,
    st_iadd hC (n := 27) (dc_X12_proud 27 (40, .iadd, 1) rfl rfl) rfl,
    st_iald hC (n := 28) (dc_X12_proud 28 (41, .iaload, 1) rfl rfl) rfl,
    st_aload_n hC (n := 29) (k := 0) (dc_X12_proud 29 (42, .aload_n 0, 1) rfl rfl) rfl rfl,
    st_getR hC (n := 30) (k := 12) (j := 0) (dc_X12_proud 30 (43, .getfield 7, 3) rfl rfl) rfl clf_12 (by decide) rfl (by decide) wd_1552,
    st_iload_n hC (n := 31) (k := 3) (dc_X12_proud 31 (46, .iload_n 3, 1) rfl rfl) rfl rfl,
    st_callS hC (n := 32) (na := 1) (con_X12_thingRow l) (dc_X12_proud 32 (47, .invokestatic 271, 3) rfl rfl) rfl wd_1899 wd_160 (by decide) ⟨rfl, rfl, by decide, by decide⟩ hM wd_1897 wd_1898,
    st_iconst hC (n := 33) (x := 1) (dc_X12_proud 33 (50, .iconst 1, 1) rfl rfl) rfl (by decide),
    st_iadd hC (n := 34) (dc_X12_proud 34 (51, .iadd, 1) rfl rfl) rfl,
    st_iald hC (n := 35) (dc_X12_proud 35 (52, .iaload, 1) rfl rfl) rfl,
    st_icle hC (n := 36) (dc_X12_proud 36 (53, .if_icmp .le 9, 3) rfl rfl) rfl (by decide),
    st_iconst hC (n := 37) (x := 1) (dc_X12_proud 37 (56, .iconst 1, 1) rfl rfl) rfl (by decide),
    st_iload_n hC (n := 38) (k := 3) (dc_X12_proud 38 (57, .iload_n 3, 1) rfl rfl) rfl rfl,
    st_ishl hC (n := 39) (dc_X12_proud 39 (58, .ishl, 1) rfl rfl) rfl,
    st_goto hC (n := 40) (dc_X12_proud 40 (59, .goto 4, 3) rfl rfl) (by decide),
    st_iconst hC (n := 41) (x := 0) (dc_X12_proud 41 (62, .iconst 0, 1) rfl rfl) rfl (by decide),
    st_ior hC (n := 42) (dc_X12_proud 42 (63, .ior, 1) rfl rfl) rfl,
    st_istore_n hC (n := 43) (k := 2) (dc_X12_proud 43 (64, .istore_n 2, 1) rfl rfl) rfl rfl (by decide),
    st_iinc hC (n := 44) (x := 1) (dc_X12_proud 44 (65, .iinc 3 1, 3) rfl rfl) rfl (by decide) (by decide),
    st_goto hC (n := 45) (dc_X12_proud 45 (68, .goto (-50), 3) rfl rfl) (by decide),
    st_aload_n hC (n := 46) (k := 0) (dc_X12_proud 46 (71, .aload_n 0, 1) rfl rfl) rfl rfl,
    st_iload_n hC (n := 47) (k := 2) (dc_X12_proud 47 (72, .iload_n 2, 1) rfl rfl) rfl rfl,
    st_callV hC (n := 48) (k := 12) (na := 1) (con_X12_gives l) (dc_X12_proud 48 (73, .invokevirtual 91, 3) rfl rfl) rfl wd_1849 wd_160 (by decide) ⟨rfl, rfl, by decide, by decide⟩ hM wd_1846 wd_1848 wd_79 clf_12,
    st_iret hC (n := 49) hR (dc_X12_proud 49 (76, .ireturn, 1) rfl rfl), trivial⟩
set_option maxRecDepth 8000 in
theorem vc_X12_proud : VC P_X12_proud 4 Pre_X12_proud Fn_X12_proud := by
  rintro mm as hom hoa ⟨⟨ns, nm, n, hV⟩, x, rfl⟩
  refine ⟨Nat.le_of_ble_eq_true rfl, fun X h => ?_⟩
  have hn : mm.1 54 0 2 = nI n := hV.2.2.1.1
  have hn12 : n ≤ 12 := hV.2.2.1.2
  have hnm4 : nm ≤ 4 := hV.2.1.2
  have body : maP (mm.1 54 0) x → X 8 [some (vR 12 0), some (vI (x)), none, none] [] mm := by
    intro hp
    obtain ⟨d, hd, rfl⟩ := ma_in hV hp
    have eF : Fn_X12_proud mm [vR 12 0, vI (nI d)] = gvM mm (prS (mm.1 54 0) d n) := by
      refine Eq.trans (if_pos hp) ?_
      rw [nI_clamp (show d < 2 ^ 31 by omega), hn, nI_clamp (by omega)]
    rw [eF] at h
    have loop : ∀ t, t ≤ n → X 12 [some (vR 12 0), some (vI (nI d)), some (vI (prS (mm.1 54 0) d t)), some (vI (nI t))] [] mm := by
      refine up_ind n ?_ (fun t ht hk => ?_)
      ·
        show X 12 [some (vR 12 0), some (vI (nI d)), some (vI (prS (mm.1 54 0) d n)), some (vI (nI n))] [] mm
        refine h (fun _ => false) 3000 12 _ _ _ ?_
        refine And.intro rfl ?_
        refine br_t (by ((try simp (disch := omega) only [hn, li, pk_mul, nI_add, nI_clamp, nI_leI, nI_ltI, nI_eq, bI_0, bI_n0, Decidable.not_not, gu_m1]); first | done | omega | assumption)) ?_
        refine And.intro ⟨_, rfl⟩ ?_
        show ((some (vI (prS (mm.1 54 0) d n)) : Option MV), stM mm 0) = _
        exact rfl
      · have x1 : (80 + 4 * nI t + nI d).toNatClampNeg = 80 + 4 * t + d := by simp (disch := omega) only [li, pk_mul, nI_add, nI_clamp]
        have x2 : (44 + 3 * nI t + 1).toNatClampNeg = 45 + 3 * t := by simp (disch := omega) only [li, pk_mul, nI_add, nI_clamp]; omega
        have st : ∀ v, prS (mm.1 54 0) d t ||| v = prS (mm.1 54 0) d (t + 1) → X 42 [some (vR 12 0), some (vI (nI d)), some (vI (prS (mm.1 54 0) d t)), some (vI (nI t))] [vI (v), vI (prS (mm.1 54 0) d t)] mm := by
          intro v ev
          show X 42 [some (vR 12 0), some (vI (nI d)), some (vI (prS (mm.1 54 0) d t)), some (vI (nI t))] [vI v, vI (prS (mm.1 54 0) d t)] mm
          refine h (fun i => Nat.beq i 12) 3000 42 _ _ _ ?_
          show X 12 [some (vR 12 0), some (vI (nI d)), some (vI ((prS (mm.1 54 0) d t) ||| v)), some (vI ((nI t) + 1))] [] mm
          rw [nI_1, ev]
          exact hk
        show X 12 [some (vR 12 0), some (vI (nI d)), some (vI (prS (mm.1 54 0) d t)), some (vI (nI t))] [] mm
        refine h (fun i => Nat.beq i 42) 3000 12 _ _ _ ?_
        refine And.intro rfl ?_
        refine br_f (by ((try simp (disch := omega) only [hn, li, pk_mul, nI_add, nI_clamp, nI_leI, nI_ltI, nI_eq, bI_0, bI_n0, Decidable.not_not, gu_m1]); first | done | omega | assumption)) ?_
        refine And.intro (inb_o 3060 rfl rfl (show (80 + (4 * (nI t))) + (nI d) = nI ((80 + (4 * ( t))) + ( d)) by simp (disch := omega) only [li, pk_mul, nI_add, nI_clamp]) (by omega)) ?_
        refine And.intro ⟨_, rfl⟩ ?_
        refine And.intro (inb_o 3060 rfl rfl (show (44 + 3 * (nI t)) + 1 = nI ((44 + 3 * ( t)) + 1) by simp (disch := omega) only [li, pk_mul, nI_add, nI_clamp]) (by omega)) ?_
        refine br_c (fun b36 => ?_) (fun b36 => ?_)
        · -- 36: mm.1 54 0 ((80 + (4 * (nI t))) + (nI d)).toNatClampNeg ≤ mm.1 54 0 ((44 + 3 * (nI t)) + 1).toNatClampNeg taken
          replace b36 : mm.1 54 0 ((80 + (4 * (nI t))) + (nI d)).toNatClampNeg ≤ mm.1 54 0 ((44 + 3 * (nI t)) + 1).toNatClampNeg := b36
          rw [x1, x2] at b36
          show X 42 [some (vR 12 0), some (vI (nI d)), some (vI (prS (mm.1 54 0) d t)), some (vI (nI t))] [vI 0, vI (prS (mm.1 54 0) d t)] mm
          refine st _ (by rw [prS]; first | rw [if_pos b36] | rw [if_neg (fun z => z b36)])
        · -- 36: mm.1 54 0 ((80 + (4 * (nI t))) + (nI d)).toNatClampNeg ≤ mm.1 54 0 ((44 + 3 * (nI t)) + 1).toNatClampNeg on
          replace b36 : ¬ (mm.1 54 0 ((80 + (4 * (nI t))) + (nI d)).toNatClampNeg ≤ mm.1 54 0 ((44 + 3 * (nI t)) + 1).toNatClampNeg) := b36
          rw [x1, x2] at b36
          show X 42 [some (vR 12 0), some (vI (nI d)), some (vI (prS (mm.1 54 0) d t)), some (vI (nI t))] [vI (1 <<< ((nI t) &&& 31)), vI (prS (mm.1 54 0) d t)] mm
          refine st _ (by rw [prS]; first | rw [if_pos b36] | rw [if_neg (fun z => z b36)])
    show X 8 [some (vR 12 0), some (vI (nI d)), none, none] [] mm
    refine h (fun i => Nat.beq i 12) 3000 8 _ _ _ ?_
    show X 12 [some (vR 12 0), some (vI (nI d)), some (vI 0), some (vI 0)] [] mm
    exact loop 0 (by omega)
  show X 0 [some (vR 12 0), some (vI x), none, none] [] mm
  refine h (fun i => Nat.beq i 8) 3000 0 _ _ _ ?_
  refine And.intro ⟨_, rfl⟩ ?_
  refine brn_c (fun b3 => ?_) (fun b3 => ?_)
  · -- 3: bI (maP (mm.1 54 0) x) = 0 taken
    replace b3 : maP (mm.1 54 0) x := bI_n0.mp b3
    show X 8 [some (vR 12 0), some (vI x), none, none] [] mm
    exact body b3
  · -- 3: bI (maP (mm.1 54 0) x) = 0 on
    replace b3 : ¬ (maP (mm.1 54 0) x) := bI_0.mp b3
    refine And.intro ⟨_, rfl⟩ ?_
    show ((some (vI (-1)) : Option MV), stM mm 1) = _
    exact (if_neg b3).symm
theorem con_X12_proud (l : Launch) : CON l y_X12_proud prog_14_method_106_code 4 (some .int) rm_X12_proud Pre_X12_proud Fn_X12_proud := CON_of (by decide) rfl rfl (sa_X12_proud l) vc_X12_proud
def dsA (a : Nat → Int32) (set : Int32) (d : Nat) : Nat → Int32
  | 0 => -1
  | t + 1 => if inS set (nI t) ∧ (dsA a set d t = -1 ∨ ¬ a (80 + 4 * t + d) * (a (45 + 3 * (dsA a set d t).toNatClampNeg) + 1) ≤ a (80 + 4 * (dsA a set d t).toNatClampNeg + d) * (a (45 + 3 * t) + 1)) then nI t else dsA a set d t
theorem dsA_in (a : Nat → Int32) (set : Int32) (d : Nat) : ∀ t, t ≤ 12 → dsA a set d t = -1 ∨ ∃ o, o < 12 ∧ dsA a set d t = nI o
  | 0, _ => Or.inl rfl
  | t + 1, h => by
    rw [dsA]
    split
    · exact Or.inr ⟨t, by omega, rfl⟩
    · exact dsA_in a set d t (by omega)
/-- what a SUITOR has neither given nor feigned -/
def hsA (a : Nat → Int32) (s : Int32) : Int32 := thA a s &&& (a 8 ^^^ -1) &&& (a 9 ^^^ -1)

def Pre_X12_dearest : PreT := fun m as => VM m ∧ ∃ x y : Int32, as = [vR 12 0, vI x, vI y]
def Fn_X12_dearest : FnT := fun m as => match as with
  | [_, Sum.inl x, Sum.inl y] => if suP (m.1 54 0) x ∧ maP (m.1 54 0) y then onM m (dsA (m.1 54 0) (hsA (m.1 54 0) x) y.toNatClampNeg (m.1 54 0 2).toNatClampNeg) else rfM m 1
  | _ => (none, m)
abbrev y_X12_dearest : MethodName := ⟨"GivenUpModel", "dearest", "(II)I"⟩
def P_X12_dearest : List StpT := [s_aload 0, s_iload 1, s_iload 2, s_callV 12 2 Pre_X12_areBoth Fn_X12_areBoth, s_ifne 9, s_aload 0, s_ic (1), s_callV 12 1 Pre_X12_refuse Fn_X12_refuse, s_iret, s_aload 0, s_iload 1, s_callV 12 1 Pre_X12_thingsOf Fn_X12_thingsOf, s_aload 0, s_getR 12 0 54, s_ic (8), s_iald, s_ic (-1), s_ixor, s_iand, s_aload 0, s_getR 12 0 54, s_ic (9), s_iald, s_ic (-1), s_ixor, s_iand, s_istore 3, s_ic (-1), s_istore 4, s_ic (0), s_istore 5, s_iload 5, s_aload 0, s_getR 12 0 54, s_ic (2), s_iald, s_icge 90, s_aload 0, s_iload 3, s_iload 5, s_callV 12 2 Pre_X12_isIn Fn_X12_isIn, s_ifeq 88, s_iload 4, s_ic (-1), s_iceq 86, s_aload 0, s_getR 12 0 54, s_ic (80), s_ic (4), s_iload 5, s_imul, s_iadd, s_iload 2, s_iadd, s_iald, s_aload 0, s_getR 12 0 54, s_iload 4, s_callS 1 Pre_X12_thingRow Fn_X12_thingRow, s_ic (1), s_iadd, s_iald, s_ic (1), s_iadd, s_imul, s_aload 0, s_getR 12 0 54, s_ic (80), s_ic (4), s_iload 4, s_imul, s_iadd, s_iload 2, s_iadd, s_iald, s_aload 0, s_getR 12 0 54, s_iload 5, s_callS 1 Pre_X12_thingRow Fn_X12_thingRow, s_ic (1), s_iadd, s_iald, s_ic (1), s_iadd, s_imul, s_icle 88, s_iload 5, s_istore 4, s_iinc 5 (1), s_goto 31, s_aload 0, s_iload 4, s_callV 12 1 Pre_X12_orNone Fn_X12_orNone, s_iret]
def pc_X12_dearest : Nat → Nat := fun i => [0, 1, 2, 3, 6, 9, 10, 11, 14, 15, 16, 17, 20, 21, 24, 26, 27, 28, 29, 30, 31, 34, 36, 37, 38, 39, 40, 41, 42, 44, 45, 47, 49, 50, 53, 54, 55, 58, 59, 60, 62, 65, 68, 70, 71, 74, 75, 78, 80, 81, 83, 84, 85, 86, 87, 88, 89, 92, 94, 97, 98, 99, 100, 101, 102, 103, 104, 107, 109, 110, 112, 113, 114, 115, 116, 117, 118, 121, 123, 126, 127, 128, 129, 130, 131, 132, 135, 137, 139, 142, 145, 146, 148, 151].getD i 0
def dl_X12_dearest : List (Nat × Instr × Nat) := [(0, .aload_n 0, 1), (1, .iload_n 1, 1), (2, .iload_n 2, 1), (3, .invokevirtual 322, 3), (6, .ifCond .ne 9, 3), (9, .aload_n 0, 1), (10, .iconst 1, 1), (11, .invokevirtual 87, 3), (14, .ireturn, 1), (15, .aload_n 0, 1), (16, .iload_n 1, 1), (17, .invokevirtual 280, 3), (20, .aload_n 0, 1), (21, .getfield 7, 3), (24, .bipush 8, 2), (26, .iaload, 1), (27, .iconst (-1), 1), (28, .ixor, 1), (29, .iand, 1), (30, .aload_n 0, 1), (31, .getfield 7, 3), (34, .bipush 9, 2), (36, .iaload, 1), (37, .iconst (-1), 1), (38, .ixor, 1), (39, .iand, 1), (40, .istore_n 3, 1), (41, .iconst (-1), 1), (42, .istore 4, 2), (44, .iconst 0, 1), (45, .istore 5, 2), (47, .iload 5, 2), (49, .aload_n 0, 1), (50, .getfield 7, 3), (53, .iconst 2, 1), (54, .iaload, 1), (55, .if_icmp .ge 90, 3), (58, .aload_n 0, 1), (59, .iload_n 3, 1), (60, .iload 5, 2), (62, .invokevirtual 277, 3), (65, .ifCond .eq 74, 3), (68, .iload 4, 2), (70, .iconst (-1), 1), (71, .if_icmp .eq 64, 3), (74, .aload_n 0, 1), (75, .getfield 7, 3), (78, .bipush 80, 2), (80, .iconst 4, 1), (81, .iload 5, 2), (83, .imul, 1), (84, .iadd, 1), (85, .iload_n 2, 1), (86, .iadd, 1), (87, .iaload, 1), (88, .aload_n 0, 1), (89, .getfield 7, 3), (92, .iload 4, 2), (94, .invokestatic 271, 3), (97, .iconst 1, 1), (98, .iadd, 1), (99, .iaload, 1), (100, .iconst 1, 1), (101, .iadd, 1), (102, .imul, 1), (103, .aload_n 0, 1), (104, .getfield 7, 3), (107, .bipush 80, 2), (109, .iconst 4, 1), (110, .iload 4, 2), (112, .imul, 1), (113, .iadd, 1), (114, .iload_n 2, 1), (115, .iadd, 1), (116, .iaload, 1), (117, .aload_n 0, 1), (118, .getfield 7, 3), (121, .iload 5, 2), (123, .invokestatic 271, 3), (126, .iconst 1, 1), (127, .iadd, 1), (128, .iaload, 1), (129, .iconst 1, 1), (130, .iadd, 1), (131, .imul, 1), (132, .if_icmp .le 7, 3), (135, .iload 5, 2), (137, .istore 4, 2), (139, .iinc 5 1, 3), (142, .goto (-95), 3), (145, .aload_n 0, 1), (146, .iload 4, 2), (148, .invokevirtual 310, 3), (151, .ireturn, 1)]
theorem dc_X12_dearest : DEC prog_14_method_107_code pc_X12_dearest dl_X12_dearest := DEC_of (by decide +kernel)
abbrev rm_X12_dearest : Room := { frames := 3, cells := 0, slots := 0, locals := 64 }
set_option maxRecDepth 20000 in
theorem sa_X12_dearest (l : Launch) : SNDALL l prog_14_method_107_code "GivenUpModel" 6 (some .int) rm_X12_dearest P_X12_dearest pc_X12_dearest := fun p e s m args below meth c cells slots Q D dA ad A RR hC hR => by
  have hM := RTX_room (R := rm_X12_dearest) hR
  exact ⟨st_aload_n hC (n := 0) (k := 0) (dc_X12_dearest 0 (0, .aload_n 0, 1) rfl rfl) rfl rfl,
    st_iload_n hC (n := 1) (k := 1) (dc_X12_dearest 1 (1, .iload_n 1, 1) rfl rfl) rfl rfl,
    st_iload_n hC (n := 2) (k := 2) (dc_X12_dearest 2 (2, .iload_n 2, 1) rfl rfl) rfl rfl,
    st_callV hC (n := 3) (k := 12) (na := 2) (con_X12_areBoth l) (dc_X12_dearest 3 (3, .invokevirtual 322, 3) rfl rfl) rfl wd_1969 wd_160 (by decide) ⟨rfl, rfl, by decide, by decide⟩ hM wd_1966 wd_1968 wd_99 clf_12,
    st_ifne hC (n := 4) (dc_X12_dearest 4 (6, .ifCond .ne 9, 3) rfl rfl) rfl (by decide),
    st_aload_n hC (n := 5) (k := 0) (dc_X12_dearest 5 (9, .aload_n 0, 1) rfl rfl) rfl rfl,
    st_iconst hC (n := 6) (x := 1) (dc_X12_dearest 6 (10, .iconst 1, 1) rfl rfl) rfl (by decide),
    st_callV hC (n := 7) (k := 12) (na := 1) (con_X12_refuse l) (dc_X12_dearest 7 (11, .invokevirtual 87, 3) rfl rfl) rfl wd_1758 wd_160 (by decide) ⟨rfl, rfl, by decide, by decide⟩ hM wd_1755 wd_1757 wd_57 clf_12,
    st_iret hC (n := 8) hR (dc_X12_dearest 8 (14, .ireturn, 1) rfl rfl),
    st_aload_n hC (n := 9) (k := 0) (dc_X12_dearest 9 (15, .aload_n 0, 1) rfl rfl) rfl rfl,
    st_iload_n hC (n := 10) (k := 1) (dc_X12_dearest 10 (16, .iload_n 1, 1) rfl rfl) rfl rfl,
    st_callV hC (n := 11) (k := 12) (na := 1) (con_X12_thingsOf l) (dc_X12_dearest 11 (17, .invokevirtual 280, 3) rfl rfl) rfl wd_1892 wd_160 (by decide) ⟨rfl, rfl, by decide, by decide⟩ hM wd_1889 wd_1891 wd_86 clf_12,
    st_aload_n hC (n := 12) (k := 0) (dc_X12_dearest 12 (20, .aload_n 0, 1) rfl rfl) rfl rfl,
    st_getR hC (n := 13) (k := 12) (j := 0) (dc_X12_dearest 13 (21, .getfield 7, 3) rfl rfl) rfl clf_12 (by decide) rfl (by decide) wd_1552,
    st_bipush hC (n := 14) (x := 8) (dc_X12_dearest 14 (24, .bipush 8, 2) rfl rfl) rfl (by decide),
    st_iald hC (n := 15) (dc_X12_dearest 15 (26, .iaload, 1) rfl rfl) rfl,
    st_iconst hC (n := 16) (x := (-1)) (dc_X12_dearest 16 (27, .iconst (-1), 1) rfl rfl) rfl (by decide),
    st_ixor hC (n := 17) (dc_X12_dearest 17 (28, .ixor, 1) rfl rfl) rfl,
    st_iand hC (n := 18) (dc_X12_dearest 18 (29, .iand, 1) rfl rfl) rfl,
    st_aload_n hC (n := 19) (k := 0) (dc_X12_dearest 19 (30, .aload_n 0, 1) rfl rfl) rfl rfl,
    st_getR hC (n := 20) (k := 12) (j := 0) (dc_X12_dearest 20 (31, .getfield 7, 3) rfl rfl) rfl clf_12 (by decide) rfl (by decide) wd_1552,
    st_bipush hC (n := 21) (x := 9) (dc_X12_dearest 21 (34, .bipush 9, 2) rfl rfl) rfl (by decide),
    st_iald hC (n := 22) (dc_X12_dearest 22 (36, .iaload, 1) rfl rfl) rfl,
    st_iconst hC (n := 23) (x := (-1)) (dc_X12_dearest 23 (37, .iconst (-1), 1) rfl rfl) rfl (by decide),
    st_ixor hC (n := 24) (dc_X12_dearest 24 (38, .ixor, 1) rfl rfl) rfl,
    st_iand hC (n := 25) (dc_X12_dearest 25 (39, .iand, 1) rfl rfl) rfl,
    st_istore_n hC (n := 26) (k := 3) (dc_X12_dearest 26 (40, .istore_n 3, 1) rfl rfl) rfl rfl (by decide),
    st_iconst hC (n := 27) (x := (-1)) (dc_X12_dearest 27 (41, .iconst (-1), 1) rfl rfl) rfl (by decide),
    st_istore hC (n := 28) (dc_X12_dearest 28 (42, .istore 4, 2) rfl rfl) rfl (by decide),
    st_iconst hC (n := 29) (x := 0) (dc_X12_dearest 29 (44, .iconst 0, 1) rfl rfl) rfl (by decide),
    st_istore hC (n := 30) (dc_X12_dearest 30 (45, .istore 5, 2) rfl rfl) rfl (by decide),
    st_iload hC (n := 31) (dc_X12_dearest 31 (47, .iload 5, 2) rfl rfl) rfl,
    st_aload_n hC (n := 32) (k := 0) (dc_X12_dearest 32 (49, .aload_n 0, 1) rfl rfl) rfl rfl,
    st_getR hC (n := 33) (k := 12) (j := 0) (dc_X12_dearest 33 (50, .getfield 7, 3) rfl rfl) rfl clf_12 (by decide) rfl (by decide) wd_1552,
    st_iconst hC (n := 34) (x := 2) (dc_X12_dearest 34 (53, .iconst 2, 1) rfl rfl) rfl (by decide),
    st_iald hC (n := 35) (dc_X12_dearest 35 (54, .iaload, 1) rfl rfl) rfl,
    st_icge hC (n := 36) (dc_X12_dearest 36 (55, .if_icmp .ge 90, 3) rfl rfl) rfl (by decide),
    st_aload_n hC (n := 37) (k := 0) (dc_X12_dearest 37 (58, .aload_n 0, 1) rfl rfl) rfl rfl,
    st_iload_n hC (n := 38) (k := 3) (dc_X12_dearest 38 (59, .iload_n 3, 1) rfl rfl) rfl rfl,
    st_iload hC (n := 39) (dc_X12_dearest 39 (60, .iload 5, 2) rfl rfl) rfl,
    st_callV hC (n := 40) (k := 12) (na := 2) (con_X12_isIn l) (dc_X12_dearest 40 (62, .invokevirtual 277, 3) rfl rfl) rfl wd_1907 wd_160 (by decide) ⟨rfl, rfl, by decide, by decide⟩ hM wd_1904 wd_1906 wd_89 clf_12,
    st_ifeq hC (n := 41) (dc_X12_dearest 41 (65, .ifCond .eq 74, 3) rfl rfl) rfl (by decide),
    st_iload hC (n := 42) (dc_X12_dearest 42 (68, .iload 4, 2) rfl rfl) rfl,
    st_iconst hC (n := 43) (x := (-1)) (dc_X12_dearest 43 (70, .iconst (-1), 1) rfl rfl) rfl (by decide),
    st_iceq hC (n := 44) (dc_X12_dearest 44 (71, .if_icmp .eq 64, 3) rfl rfl) rfl (by decide),
    st_aload_n hC (n := 45) (k := 0) (dc_X12_dearest 45 (74, .aload_n 0, 1) rfl rfl) rfl rfl,
    st_getR hC (n := 46) (k := 12) (j := 0) (dc_X12_dearest 46 (75, .getfield 7, 3) rfl rfl) rfl clf_12 (by decide) rfl (by decide) wd_1552,
    st_bipush hC (n := 47) (x := 80) (dc_X12_dearest 47 (78, .bipush 80, 2) rfl rfl) rfl (by decide),
    st_iconst hC (n := 48) (x := 4) (dc_X12_dearest 48 (80, .iconst 4, 1) rfl rfl) rfl (by decide),
    st_iload hC (n := 49) (dc_X12_dearest 49 (81, .iload 5, 2) rfl rfl) rfl,
    st_imul hC (n := 50) (dc_X12_dearest 50 (83, .imul, 1) rfl rfl) rfl,
    st_iadd hC (n := 51) (dc_X12_dearest 51 (84, .iadd, 1) rfl rfl) rfl,
    st_iload_n hC (n := 52) (k := 2) (dc_X12_dearest 52 (85, .iload_n 2, 1) rfl rfl) rfl rfl,
    st_iadd hC (n := 53) (dc_X12_dearest 53 (86, .iadd, 1) rfl rfl) rfl,
    st_iald hC (n := 54) (dc_X12_dearest 54 (87, .iaload, 1) rfl rfl) rfl,
    st_aload_n hC (n := 55) (k := 0) (dc_X12_dearest 55 (88, .aload_n 0, 1) rfl rfl) rfl rfl,
    st_getR hC (n := 56) (k := 12) (j := 0) (dc_X12_dearest 56 (89, .getfield 7, 3) rfl rfl) rfl clf_12 (by decide) rfl (by decide) wd_1552,
    st_iload hC (n := 57) (dc_X12_dearest 57 (92, .iload 4, 2) rfl rfl) rfl,
    st_callS hC (n := 58) (na := 1) (con_X12_thingRow l) (dc_X12_dearest 58 (94, .invokestatic 271, 3) rfl rfl) rfl wd_1899 wd_160 (by decide) ⟨rfl, rfl, by decide, by decide⟩ hM wd_1897 wd_1898,
    st_iconst hC (n := 59) (x := 1) (dc_X12_dearest 59 (97, .iconst 1, 1) rfl rfl) rfl (by decide),
    st_iadd hC (n := 60) (dc_X12_dearest 60 (98, .iadd, 1) rfl rfl) rfl,
    st_iald hC (n := 61) (dc_X12_dearest 61 (99, .iaload, 1) rfl rfl) rfl,
    st_iconst hC (n := 62) (x := 1) (dc_X12_dearest 62 (100, .iconst 1, 1) rfl rfl) rfl (by decide),
    st_iadd hC (n := 63) (dc_X12_dearest 63 (101, .iadd, 1) rfl rfl) rfl,
    st_imul hC (n := 64) (dc_X12_dearest 64 (102, .imul, 1) rfl rfl) rfl,
    st_aload_n hC (n := 65) (k := 0) (dc_X12_dearest 65 (103, .aload_n 0, 1) rfl rfl) rfl rfl,
    st_getR hC (n := 66) (k := 12) (j := 0) (dc_X12_dearest 66 (104, .getfield 7, 3) rfl rfl) rfl clf_12 (by decide) rfl (by decide) wd_1552,
    st_bipush hC (n := 67) (x := 80) (dc_X12_dearest 67 (107, .bipush 80, 2) rfl rfl) rfl (by decide),
    st_iconst hC (n := 68) (x := 4) (dc_X12_dearest 68 (109, .iconst 4, 1) rfl rfl) rfl (by decide),
    st_iload hC (n := 69) (dc_X12_dearest 69 (110, .iload 4, 2) rfl rfl) rfl,
    st_imul hC (n := 70) (dc_X12_dearest 70 (112, .imul, 1) rfl rfl) rfl,
    st_iadd hC (n := 71) (dc_X12_dearest 71 (113, .iadd, 1) rfl rfl) rfl,
    st_iload_n hC (n := 72) (k := 2) (dc_X12_dearest 72 (114, .iload_n 2, 1) rfl rfl) rfl rfl,
    st_iadd hC (n := 73) (dc_X12_dearest 73 (115, .iadd, 1) rfl rfl) rfl,
    st_iald hC (n := 74) (dc_X12_dearest 74 (116, .iaload, 1) rfl rfl) rfl,
    st_aload_n hC (n := 75) (k := 0) (dc_X12_dearest 75 (117, .aload_n 0, 1) rfl rfl) rfl rfl,
    st_getR hC (n := 76) (k := 12) (j := 0) (dc_X12_dearest 76 (118, .getfield 7, 3) rfl rfl) rfl clf_12 (by decide) rfl (by decide) wd_1552,
    st_iload hC (n := 77) (dc_X12_dearest 77 (121, .iload 5, 2) rfl rfl) rfl,
    st_callS hC (n := 78) (na := 1) (con_X12_thingRow l) (dc_X12_dearest 78 (123, .invokestatic 271, 3) rfl rfl) rfl wd_1899 wd_160 (by decide) ⟨rfl, rfl, by decide, by decide⟩ hM wd_1897 wd_1898,
    st_iconst hC (n := 79) (x := 1) (dc_X12_dearest 79 (126, .iconst 1, 1) rfl rfl) rfl (by decide),
    st_iadd hC (n := 80) (dc_X12_dearest 80 (127, .iadd, 1) rfl rfl) rfl,
    st_iald hC (n := 81) (dc_X12_dearest 81 (128, .iaload, 1) rfl rfl) rfl,
    st_iconst hC (n := 82) (x := 1) (dc_X12_dearest 82 (129, .iconst 1, 1) rfl rfl) rfl (by decide),
    st_iadd hC (n := 83) (dc_X12_dearest 83 (130, .iadd, 1) rfl rfl) rfl,
    st_imul hC (n := 84) (dc_X12_dearest 84 (131, .imul, 1) rfl rfl) rfl,
    st_icle hC (n := 85) (dc_X12_dearest 85 (132, .if_icmp .le 7, 3) rfl rfl) rfl (by decide),
    st_iload hC (n := 86) (dc_X12_dearest 86 (135, .iload 5, 2) rfl rfl) rfl,
    st_istore hC (n := 87) (dc_X12_dearest 87 (137, .istore 4, 2) rfl rfl) rfl (by decide),
    st_iinc hC (n := 88) (x := 1) (dc_X12_dearest 88 (139, .iinc 5 1, 3) rfl rfl) rfl (by decide) (by decide),
    st_goto hC (n := 89) (dc_X12_dearest 89 (142, .goto (-95), 3) rfl rfl) (by decide),
    st_aload_n hC (n := 90) (k := 0) (dc_X12_dearest 90 (145, .aload_n 0, 1) rfl rfl) rfl rfl,
    st_iload hC (n := 91) (dc_X12_dearest 91 (146, .iload 4, 2) rfl rfl) rfl,
    st_callV hC (n := 92) (k := 12) (na := 1) (con_X12_orNone l) (dc_X12_dearest 92 (148, .invokevirtual 310, 3) rfl rfl) rfl wd_1915 wd_160 (by decide) ⟨rfl, rfl, by decide, by decide⟩ hM wd_1912 wd_1914 wd_91 clf_12,
    st_iret hC (n := 93) hR (dc_X12_dearest 93 (151, .ireturn, 1) rfl rfl), trivial⟩
set_option maxRecDepth 8000 in
theorem vc_X12_dearest : VC P_X12_dearest 6 Pre_X12_dearest Fn_X12_dearest := by
  rintro mm as hom hoa ⟨⟨ns, nm, n, hV⟩, x, y, rfl⟩
  refine ⟨Nat.le_of_ble_eq_true rfl, fun X h => ?_⟩
  have hM : VM mm := ⟨ns, nm, n, hV⟩
  have hn : mm.1 54 0 2 = nI n := hV.2.2.1.1
  have hn12 : n ≤ 12 := hV.2.2.1.2
  have hnm4 : nm ≤ 4 := hV.2.1.2
  have body : suP (mm.1 54 0) x ∧ maP (mm.1 54 0) y → X 9 [some (vR 12 0), some (vI (x)), some (vI (y)), none, none, none] [] mm := by
    intro hp
    obtain ⟨d, hd, rfl⟩ := ma_in hV hp.2
    have eF : Fn_X12_dearest mm [vR 12 0, vI x, vI (nI d)] = onM mm (dsA (mm.1 54 0) (hsA (mm.1 54 0) x) d n) := by
      refine Eq.trans (if_pos hp) ?_
      rw [nI_clamp (show d < 2 ^ 31 by omega), hn, nI_clamp (by omega)]
    rw [eF] at h
    have loop : ∀ t, t ≤ n → X 31 [some (vR 12 0), some (vI (x)), some (vI (nI d)), some (vI (hsA (mm.1 54 0) x)), some (vI (dsA (mm.1 54 0) (hsA (mm.1 54 0) x) d t)), some (vI (nI t))] [] mm := by
      refine up_ind n ?_ (fun t ht hk => ?_)
      ·
        show X 31 [some (vR 12 0), some (vI x), some (vI (nI d)), some (vI (hsA (mm.1 54 0) x)), some (vI (dsA (mm.1 54 0) (hsA (mm.1 54 0) x) d n)), some (vI (nI n))] [] mm
        refine h (fun _ => false) 3000 31 _ _ _ ?_
        refine And.intro rfl ?_
        refine br_t (by ((try simp (disch := omega) only [hn, li, pk_mul, nI_add, nI_clamp, nI_leI, nI_ltI, nI_eq, bI_0, bI_n0, Decidable.not_not, gu_m1]); first | done | omega | assumption)) ?_
        refine And.intro ⟨_, rfl⟩ ?_
        show ((some (vI (dsA (mm.1 54 0) (hsA (mm.1 54 0) x) d n)) : Option MV), stM mm (if (dsA (mm.1 54 0) (hsA (mm.1 54 0) x) d n) = -1 then 6 else 0)) = _
        exact rfl
      · have x1 : (80 + 4 * nI t + nI d).toNatClampNeg = 80 + 4 * t + d := by simp (disch := omega) only [li, pk_mul, nI_add, nI_clamp]
        have x2 : (44 + 3 * nI t + 1).toNatClampNeg = 45 + 3 * t := by simp (disch := omega) only [li, pk_mul, nI_add, nI_clamp]; omega
        have yes : (inS (hsA (mm.1 54 0) x) (nI t) ∧ (dsA (mm.1 54 0) (hsA (mm.1 54 0) x) d t = -1 ∨ ¬ mm.1 54 0 (80 + 4 * t + d) * (mm.1 54 0 (45 + 3 * (dsA (mm.1 54 0) (hsA (mm.1 54 0) x) d t).toNatClampNeg) + 1) ≤ mm.1 54 0 (80 + 4 * (dsA (mm.1 54 0) (hsA (mm.1 54 0) x) d t).toNatClampNeg + d) * (mm.1 54 0 (45 + 3 * t) + 1))) → X 86 [some (vR 12 0), some (vI (x)), some (vI (nI d)), some (vI (hsA (mm.1 54 0) x)), some (vI (dsA (mm.1 54 0) (hsA (mm.1 54 0) x) d t)), some (vI (nI t))] [] mm := by
          intro hc
          show X 86 [some (vR 12 0), some (vI x), some (vI (nI d)), some (vI (hsA (mm.1 54 0) x)), some (vI (dsA (mm.1 54 0) (hsA (mm.1 54 0) x) d t)), some (vI (nI t))] [] mm
          refine h (fun i => Nat.beq i 31) 3000 86 _ _ _ ?_
          show X 31 [some (vR 12 0), some (vI x), some (vI (nI d)), some (vI (hsA (mm.1 54 0) x)), some (vI (nI t)), some (vI ((nI t) + 1))] [] mm
          rw [nI_1]
          rw [dsA, if_pos hc] at hk 
          exact hk
        have noo : ¬ (inS (hsA (mm.1 54 0) x) (nI t) ∧ (dsA (mm.1 54 0) (hsA (mm.1 54 0) x) d t = -1 ∨ ¬ mm.1 54 0 (80 + 4 * t + d) * (mm.1 54 0 (45 + 3 * (dsA (mm.1 54 0) (hsA (mm.1 54 0) x) d t).toNatClampNeg) + 1) ≤ mm.1 54 0 (80 + 4 * (dsA (mm.1 54 0) (hsA (mm.1 54 0) x) d t).toNatClampNeg + d) * (mm.1 54 0 (45 + 3 * t) + 1))) → X 88 [some (vR 12 0), some (vI (x)), some (vI (nI d)), some (vI (hsA (mm.1 54 0) x)), some (vI (dsA (mm.1 54 0) (hsA (mm.1 54 0) x) d t)), some (vI (nI t))] [] mm := by
          intro hc
          show X 88 [some (vR 12 0), some (vI x), some (vI (nI d)), some (vI (hsA (mm.1 54 0) x)), some (vI (dsA (mm.1 54 0) (hsA (mm.1 54 0) x) d t)), some (vI (nI t))] [] mm
          refine h (fun i => Nat.beq i 31) 3000 88 _ _ _ ?_
          show X 31 [some (vR 12 0), some (vI x), some (vI (nI d)), some (vI (hsA (mm.1 54 0) x)), some (vI (dsA (mm.1 54 0) (hsA (mm.1 54 0) x) d t)), some (vI ((nI t) + 1))] [] mm
          rw [nI_1]
          rw [dsA, if_neg hc] at hk 
          exact hk
        have mid : inS (hsA (mm.1 54 0) x) (nI t) → X 42 [some (vR 12 0), some (vI (x)), some (vI (nI d)), some (vI (hsA (mm.1 54 0) x)), some (vI (dsA (mm.1 54 0) (hsA (mm.1 54 0) x) d t)), some (vI (nI t))] [] mm := by
          intro hi
          rcases dsA_in (mm.1 54 0) (hsA (mm.1 54 0) x) d t (by omega) with e0 | ⟨o, ho, e0⟩
          ·
            show X 42 [some (vR 12 0), some (vI x), some (vI (nI d)), some (vI (hsA (mm.1 54 0) x)), some (vI (dsA (mm.1 54 0) (hsA (mm.1 54 0) x) d t)), some (vI (nI t))] [] mm
            refine h (fun i => Nat.beq i 86) 3000 42 _ _ _ ?_
            refine br_t (e0) ?_
            show X 86 [some (vR 12 0), some (vI x), some (vI (nI d)), some (vI (hsA (mm.1 54 0) x)), some (vI (dsA (mm.1 54 0) (hsA (mm.1 54 0) x) d t)), some (vI (nI t))] [] mm
            exact yes ⟨hi, Or.inl e0⟩
          · rw [e0] at yes noo ⊢
            have x3 : (80 + 4 * nI o + nI d).toNatClampNeg = 80 + 4 * o + d := by simp (disch := omega) only [li, pk_mul, nI_add, nI_clamp]
            have x4 : (44 + 3 * nI o + 1).toNatClampNeg = 45 + 3 * o := by simp (disch := omega) only [li, pk_mul, nI_add, nI_clamp]; omega
            have n1 : ¬ nI o = -1 := fun z => (gu_m1 (by omega)).mp z
            rw [nI_clamp (show o < 2 ^ 31 by omega)] at yes noo
            show X 42 [some (vR 12 0), some (vI x), some (vI (nI d)), some (vI (hsA (mm.1 54 0) x)), some (vI (nI o)), some (vI (nI t))] [] mm
            refine h (fun i => Nat.beq i 86 || Nat.beq i 88) 3000 42 _ _ _ ?_
            refine br_f (n1) ?_
            refine And.intro (inb_o 3060 rfl rfl (show (80 + (4 * (nI t))) + (nI d) = nI ((80 + (4 * ( t))) + ( d)) by simp (disch := omega) only [li, pk_mul, nI_add, nI_clamp]) (by omega)) ?_
            refine And.intro ⟨_, rfl⟩ ?_
            refine And.intro (inb_o 3060 rfl rfl (show (44 + 3 * (nI o)) + 1 = nI ((44 + 3 * ( o)) + 1) by simp (disch := omega) only [li, pk_mul, nI_add, nI_clamp]) (by omega)) ?_
            refine And.intro (inb_o 3060 rfl rfl (show (80 + (4 * (nI o))) + (nI d) = nI ((80 + (4 * ( o))) + ( d)) by simp (disch := omega) only [li, pk_mul, nI_add, nI_clamp]) (by omega)) ?_
            refine And.intro ⟨_, rfl⟩ ?_
            refine And.intro (inb_o 3060 rfl rfl (show (44 + 3 * (nI t)) + 1 = nI ((44 + 3 * ( t)) + 1) by simp (disch := omega) only [li, pk_mul, nI_add, nI_clamp]) (by omega)) ?_
            refine br_c (fun b85 => ?_) (fun b85 => ?_)
            · -- 85: (mm.1 54 0 ((80 + (4 * (nI t))) + (nI d)).toNatClampNeg) * ((mm.1 54 0 ((44 + 3 * (nI o)) + 1).toNatClampNeg) + 1) ≤ (mm.1 54 0 ((80 + (4 * (nI o))) + (nI d)).toNatClampNeg) * ((mm.1 54 0 ((44 + 3 * (nI t)) + 1).toNatClampNeg) + 1) taken
              replace b85 : (mm.1 54 0 ((80 + (4 * (nI t))) + (nI d)).toNatClampNeg) * ((mm.1 54 0 ((44 + 3 * (nI o)) + 1).toNatClampNeg) + 1) ≤ (mm.1 54 0 ((80 + (4 * (nI o))) + (nI d)).toNatClampNeg) * ((mm.1 54 0 ((44 + 3 * (nI t)) + 1).toNatClampNeg) + 1) := b85
              rw [x1, x2, x3, x4] at b85
              show X 88 [some (vR 12 0), some (vI x), some (vI (nI d)), some (vI (hsA (mm.1 54 0) x)), some (vI (nI o)), some (vI (nI t))] [] mm
              exact noo (fun z => z.2.elim n1 (fun q => q b85))
            · -- 85: (mm.1 54 0 ((80 + (4 * (nI t))) + (nI d)).toNatClampNeg) * ((mm.1 54 0 ((44 + 3 * (nI o)) + 1).toNatClampNeg) + 1) ≤ (mm.1 54 0 ((80 + (4 * (nI o))) + (nI d)).toNatClampNeg) * ((mm.1 54 0 ((44 + 3 * (nI t)) + 1).toNatClampNeg) + 1) on
              replace b85 : ¬ ((mm.1 54 0 ((80 + (4 * (nI t))) + (nI d)).toNatClampNeg) * ((mm.1 54 0 ((44 + 3 * (nI o)) + 1).toNatClampNeg) + 1) ≤ (mm.1 54 0 ((80 + (4 * (nI o))) + (nI d)).toNatClampNeg) * ((mm.1 54 0 ((44 + 3 * (nI t)) + 1).toNatClampNeg) + 1)) := b85
              rw [x1, x2, x3, x4] at b85
              show X 86 [some (vR 12 0), some (vI x), some (vI (nI d)), some (vI (hsA (mm.1 54 0) x)), some (vI (nI o)), some (vI (nI t))] [] mm
              exact yes ⟨hi, Or.inr b85⟩
        show X 31 [some (vR 12 0), some (vI x), some (vI (nI d)), some (vI (hsA (mm.1 54 0) x)), some (vI (dsA (mm.1 54 0) (hsA (mm.1 54 0) x) d t)), some (vI (nI t))] [] mm
        refine h (fun i => Nat.beq i 42 || Nat.beq i 88) 3000 31 _ _ _ ?_
        refine And.intro rfl ?_
        refine br_f (by ((try simp (disch := omega) only [hn, li, pk_mul, nI_add, nI_clamp, nI_leI, nI_ltI, nI_eq, bI_0, bI_n0, Decidable.not_not, gu_m1]); first | done | omega | assumption)) ?_
        refine And.intro ⟨_, _, rfl⟩ ?_
        refine br_c (fun b41 => ?_) (fun b41 => ?_)
        · -- 41: bI (inS (hsA (mm.1 54 0) x) (nI t)) = 0 taken
          replace b41 : ¬ (inS (hsA (mm.1 54 0) x) (nI t)) := bI_0.mp b41
          show X 88 [some (vR 12 0), some (vI x), some (vI (nI d)), some (vI (hsA (mm.1 54 0) x)), some (vI (dsA (mm.1 54 0) (hsA (mm.1 54 0) x) d t)), some (vI (nI t))] [] mm
          exact noo (fun z => b41 z.1)
        · -- 41: bI (inS (hsA (mm.1 54 0) x) (nI t)) = 0 on
          replace b41 : inS (hsA (mm.1 54 0) x) (nI t) := bI_n0.mp b41
          show X 42 [some (vR 12 0), some (vI x), some (vI (nI d)), some (vI (hsA (mm.1 54 0) x)), some (vI (dsA (mm.1 54 0) (hsA (mm.1 54 0) x) d t)), some (vI (nI t))] [] mm
          exact mid b41
    show X 9 [some (vR 12 0), some (vI x), some (vI (nI d)), none, none, none] [] mm
    refine h (fun i => Nat.beq i 31) 3000 9 _ _ _ ?_
    refine And.intro ⟨hM, _, rfl⟩ ?_
    refine And.intro rfl ?_
    refine And.intro rfl ?_
    show X 31 [some (vR 12 0), some (vI x), some (vI (nI d)), some (vI (((thA (mm.1 54 0) x) &&& ((mm.1 54 0 8) ^^^ (-1))) &&& ((mm.1 54 0 9) ^^^ (-1)))), some (vI (-1)), some (vI 0)] [] mm
    exact loop 0 (by omega)
  show X 0 [some (vR 12 0), some (vI x), some (vI y), none, none, none] [] mm
  refine h (fun i => Nat.beq i 9) 3000 0 _ _ _ ?_
  refine And.intro ⟨_, _, rfl⟩ ?_
  refine brn_c (fun b4 => ?_) (fun b4 => ?_)
  · -- 4: bI (suP (mm.1 54 0) x ∧ maP (mm.1 54 0) y) = 0 taken
    replace b4 : suP (mm.1 54 0) x ∧ maP (mm.1 54 0) y := bI_n0.mp b4
    show X 9 [some (vR 12 0), some (vI x), some (vI y), none, none, none] [] mm
    exact body b4
  · -- 4: bI (suP (mm.1 54 0) x ∧ maP (mm.1 54 0) y) = 0 on
    replace b4 : ¬ (suP (mm.1 54 0) x ∧ maP (mm.1 54 0) y) := bI_0.mp b4
    refine And.intro ⟨_, rfl⟩ ?_
    show ((some (vI (-1)) : Option MV), stM mm 1) = _
    exact (if_neg b4).symm
theorem con_X12_dearest (l : Launch) : CON l y_X12_dearest prog_14_method_107_code 6 (some .int) rm_X12_dearest Pre_X12_dearest Fn_X12_dearest := CON_of (by decide) rfl rfl (sa_X12_dearest l) vc_X12_dearest
def chS (a : Nat → Int32) (d : Nat) : Nat → Int32
  | 0 => 0
  | t + 1 => chS a d t ||| (if ysA a t d ∧ ¬ brA a d (a 6) ≤ syA a (thA a (nI t) &&& a 8) d then 1 <<< (nI t &&& 31) else 0)

def Pre_X12_cheats : PreT := fun m as => VM m ∧ ∃ x : Int32, as = [vR 12 0, vI x]
def Fn_X12_cheats : FnT := fun m as => match as with
  | [_, Sum.inl x] => if maP (m.1 54 0) x then gvM m (chS (m.1 54 0) x.toNatClampNeg (m.1 54 0 0).toNatClampNeg) else rfM m 1
  | _ => (none, m)
abbrev y_X12_cheats : MethodName := ⟨"GivenUpModel", "cheats", "(I)I"⟩
def P_X12_cheats : List StpT := [s_aload 0, s_iload 1, s_callV 12 1 Pre_X12_isMaid Fn_X12_isMaid, s_ifne 8, s_aload 0, s_ic (1), s_callV 12 1 Pre_X12_refuse Fn_X12_refuse, s_iret, s_ic (0), s_istore 2, s_ic (0), s_istore 3, s_iload 3, s_aload 0, s_getR 12 0 54, s_ic (0), s_iald, s_icge 52, s_iload 2, s_aload 0, s_iload 3, s_iload 1, s_callV 12 2 Pre_X12_saysYes Fn_X12_saysYes, s_ifeq 47, s_aload 0, s_aload 0, s_iload 3, s_callV 12 1 Pre_X12_thingsOf Fn_X12_thingsOf, s_aload 0, s_getR 12 0 54, s_ic (8), s_iald, s_iand, s_iload 1, s_callV 12 2 Pre_X12_saidBy Fn_X12_saidBy, s_aload 0, s_iload 1, s_aload 0, s_getR 12 0 54, s_ic (6), s_iald, s_callV 12 2 Pre_X12_barIn Fn_X12_barIn, s_icge 47, s_ic (1), s_iload 3, s_ishl, s_goto 48, s_ic (0), s_ior, s_istore 2, s_iinc 3 (1), s_goto 12, s_aload 0, s_iload 2, s_callV 12 1 Pre_X12_gives Fn_X12_gives, s_iret]
def pc_X12_cheats : Nat → Nat := fun i => [0, 1, 2, 5, 8, 9, 10, 13, 14, 15, 16, 17, 18, 19, 20, 23, 24, 25, 28, 29, 30, 31, 32, 35, 38, 39, 40, 41, 44, 45, 48, 50, 51, 52, 53, 56, 57, 58, 59, 62, 64, 65, 68, 71, 72, 73, 74, 77, 78, 79, 80, 83, 86, 87, 88, 91].getD i 0
def dl_X12_cheats : List (Nat × Instr × Nat) := [(0, .aload_n 0, 1), (1, .iload_n 1, 1), (2, .invokevirtual 268, 3), (5, .ifCond .ne 9, 3), (8, .aload_n 0, 1), (9, .iconst 1, 1), (10, .invokevirtual 87, 3), (13, .ireturn, 1), (14, .iconst 0, 1), (15, .istore_n 2, 1), (16, .iconst 0, 1), (17, .istore_n 3, 1), (18, .iload_n 3, 1), (19, .aload_n 0, 1), (20, .getfield 7, 3), (23, .iconst 0, 1), (24, .iaload, 1), (25, .if_icmp .ge 61, 3), (28, .iload_n 2, 1), (29, .aload_n 0, 1), (30, .iload_n 3, 1), (31, .iload_n 1, 1), (32, .invokevirtual 343, 3), (35, .ifCond .eq 42, 3), (38, .aload_n 0, 1), (39, .aload_n 0, 1), (40, .iload_n 3, 1), (41, .invokevirtual 280, 3), (44, .aload_n 0, 1), (45, .getfield 7, 3), (48, .bipush 8, 2), (50, .iaload, 1), (51, .iand, 1), (52, .iload_n 1, 1), (53, .invokevirtual 283, 3), (56, .aload_n 0, 1), (57, .iload_n 1, 1), (58, .aload_n 0, 1), (59, .getfield 7, 3), (62, .bipush 6, 2), (64, .iaload, 1), (65, .invokevirtual 301, 3), (68, .if_icmp .ge 9, 3), (71, .iconst 1, 1), (72, .iload_n 3, 1), (73, .ishl, 1), (74, .goto 4, 3), (77, .iconst 0, 1), (78, .ior, 1), (79, .istore_n 2, 1), (80, .iinc 3 1, 3), (83, .goto (-65), 3), (86, .aload_n 0, 1), (87, .iload_n 2, 1), (88, .invokevirtual 91, 3), (91, .ireturn, 1)]
theorem dc_X12_cheats : DEC prog_14_method_152_code pc_X12_cheats dl_X12_cheats := DEC_of (by decide +kernel)
abbrev rm_X12_cheats : Room := { frames := 5, cells := 0, slots := 0, locals := 108 }
set_option maxRecDepth 20000 in
theorem sa_X12_cheats (l : Launch) : SNDALL l prog_14_method_152_code "GivenUpModel" 4 (some .int) rm_X12_cheats P_X12_cheats pc_X12_cheats := fun p e s m args below meth c cells slots Q D dA ad A RR hC hR => by
  have hM := RTX_room (R := rm_X12_cheats) hR
  exact ⟨st_aload_n hC (n := 0) (k := 0) (dc_X12_cheats 0 (0, .aload_n 0, 1) rfl rfl) rfl rfl,
    st_iload_n hC (n := 1) (k := 1) (dc_X12_cheats 1 (1, .iload_n 1, 1) rfl rfl) rfl rfl,
    st_callV hC (n := 2) (k := 12) (na := 1) (con_X12_isMaid l) (dc_X12_cheats 2 (2, .invokevirtual 268, 3) rfl rfl) rfl wd_1923 wd_160 (by decide) ⟨rfl, rfl, by decide, by decide⟩ hM wd_1920 wd_1922 wd_92 clf_12,
    st_ifne hC (n := 3) (dc_X12_cheats 3 (5, .ifCond .ne 9, 3) rfl rfl) rfl (by decide),
    st_aload_n hC (n := 4) (k := 0) (dc_X12_cheats 4 (8, .aload_n 0, 1) rfl rfl) rfl rfl,
    st_iconst hC (n := 5) (x := 1) (dc_X12_cheats 5 (9, .iconst 1, 1) rfl rfl) rfl (by decide),
    st_callV hC (n := 6) (k := 12) (na := 1) (con_X12_refuse l) (dc_X12_cheats 6 (10, .invokevirtual 87, 3) rfl rfl) rfl wd_1758 wd_160 (by decide) ⟨rfl, rfl, by decide, by decide⟩ hM wd_1755 wd_1757 wd_57 clf_12,
    st_iret hC (n := 7) hR (dc_X12_cheats 7 (13, .ireturn, 1) rfl rfl),
    st_iconst hC (n := 8) (x := 0) (dc_X12_cheats 8 (14, .iconst 0, 1) rfl rfl) rfl (by decide),
    st_istore_n hC (n := 9) (k := 2) (dc_X12_cheats 9 (15, .istore_n 2, 1) rfl rfl) rfl rfl (by decide),
    st_iconst hC (n := 10) (x := 0) (dc_X12_cheats 10 (16, .iconst 0, 1) rfl rfl) rfl (by decide),
    st_istore_n hC (n := 11) (k := 3) (dc_X12_cheats 11 (17, .istore_n 3, 1) rfl rfl) rfl rfl (by decide),
    st_iload_n hC (n := 12) (k := 3) (dc_X12_cheats 12 (18, .iload_n 3, 1) rfl rfl) rfl rfl,
    st_aload_n hC (n := 13) (k := 0) (dc_X12_cheats 13 (19, .aload_n 0, 1) rfl rfl) rfl rfl,
    st_getR hC (n := 14) (k := 12) (j := 0) (dc_X12_cheats 14 (20, .getfield 7, 3) rfl rfl) rfl clf_12 (by decide) rfl (by decide) wd_1552,
    st_iconst hC (n := 15) (x := 0) (dc_X12_cheats 15 (23, .iconst 0, 1) rfl rfl) rfl (by decide),
    st_iald hC (n := 16) (dc_X12_cheats 16 (24, .iaload, 1) rfl rfl) rfl,
    st_icge hC (n := 17) (dc_X12_cheats 17 (25, .if_icmp .ge 61, 3) rfl rfl) rfl (by decide),
    st_iload_n hC (n := 18) (k := 2) (dc_X12_cheats 18 (28, .iload_n 2, 1) rfl rfl) rfl rfl,
    st_aload_n hC (n := 19) (k := 0) (dc_X12_cheats 19 (29, .aload_n 0, 1) rfl rfl) rfl rfl,
    st_iload_n hC (n := 20) (k := 3) (dc_X12_cheats 20 (30, .iload_n 3, 1) rfl rfl) rfl rfl,
    st_iload_n hC (n := 21) (k := 1) (dc_X12_cheats 21 (31, .iload_n 1, 1) rfl rfl) rfl rfl,
    st_callV hC (n := 22) (k := 12) (na := 2) (con_X12_saysYes l) (dc_X12_cheats 22 (32, .invokevirtual 343, 3) rfl rfl) rfl wd_2033 wd_160 (by decide) ⟨rfl, rfl, by decide, by decide⟩ hM wd_2030 wd_2032 wd_108 clf_12,
    st_ifeq hC (n := 23) (dc_X12_cheats 23 (35, .ifCond .eq 42, 3) rfl rfl) rfl (by decide),
    st_aload_n hC (n := 24) (k := 0) (dc_X12_cheats 24 (38, .aload_n 0, 1) rfl rfl) rfl rfl,
    st_aload_n hC (n := 25) (k := 0) (dc_X12_cheats 25 (39, .aload_n 0, 1) rfl rfl) rfl rfl,
    st_iload_n hC (n := 26) (k := 3) (dc_X12_cheats 26 (40, .iload_n 3, 1) rfl rfl) rfl rfl,
    st_callV hC (n := 27) (k := 12) (na := 1) (con_X12_thingsOf l) (dc_X12_cheats 27 (41, .invokevirtual 280, 3) rfl rfl) rfl wd_1892 wd_160 (by decide) ⟨rfl, rfl, by decide, by decide⟩ hM wd_1889 wd_1891 wd_86 clf_12,
    st_aload_n hC (n := 28) (k := 0) (dc_X12_cheats 28 (44, .aload_n 0, 1) rfl rfl) rfl rfl,
    st_getR hC (n := 29) (k := 12) (j := 0) (dc_X12_cheats 29 (45, .getfield 7, 3) rfl rfl) rfl clf_12 (by decide) rfl (by decide) wd_1552,
    st_bipush hC (n := 30) (x := 8) (dc_X12_cheats 30 (48, .bipush 8, 2) rfl rfl) rfl (by decide),
    st_iald hC (n := 31) (dc_X12_cheats 31 (50, .iaload, 1) rfl rfl) rfl,
    st_iand hC (n := 32) (dc_X12_cheats 32 (51, .iand, 1) rfl rfl) rfl,
    st_iload_n hC (n := 33) (k := 1) (dc_X12_cheats 33 (52, .iload_n 1, 1) rfl rfl) rfl rfl,
    st_callV hC (n := 34) (k := 12) (na := 2) (con_X12_saidBy l) (dc_X12_cheats 34 (53, .invokevirtual 283, 3) rfl rfl) rfl wd_2025 wd_160 (by decide) ⟨rfl, rfl, by decide, by decide⟩ hM wd_2022 wd_2024 wd_107 clf_12,
    st_aload_n hC (n := 35) (k := 0) (dc_X12_cheats 35 (56, .aload_n 0, 1) rfl rfl) rfl rfl,
    st_iload_n hC (n := 36) (k := 1) (dc_X12_cheats 36 (57, .iload_n 1, 1) rfl rfl) rfl rfl,
    st_aload_n hC (n := 37) (k := 0) (dc_X12_cheats 37 (58, .aload_n 0, 1) rfl rfl) rfl rfl,
    st_getR hC (n := 38) (k := 12) (j := 0) (dc_X12_cheats 38 (59, .getfield 7, 3) rfl rfl) rfl clf_12 (by decide) rfl (by decide) wd_1552,
    st_bipush hC (n := 39) (x := 6) (dc_X12_cheats 39 (62, .bipush 6, 2) rfl rfl) rfl (by decide),
    st_iald hC (n := 40) (dc_X12_cheats 40 (64, .iaload, 1) rfl rfl) rfl,
    st_callV hC (n := 41) (k := 12) (na := 2) (con_X12_barIn l) (dc_X12_cheats 41 (65, .invokevirtual 301, 3) rfl rfl) rfl wd_1930 wd_160 (by decide) ⟨rfl, rfl, by decide, by decide⟩ hM wd_1927 wd_1929 wd_93 clf_12,
    st_icge hC (n := 42) (dc_X12_cheats 42 (68, .if_icmp .ge 9, 3) rfl rfl) rfl (by decide),
    st_iconst hC (n := 43) (x := 1) (dc_X12_cheats 43 (71, .iconst 1, 1) rfl rfl) rfl (by decide),
    st_iload_n hC (n := 44) (k := 3) (dc_X12_cheats 44 (72, .iload_n 3, 1) rfl rfl) rfl rfl,
    st_ishl hC (n := 45) (dc_X12_cheats 45 (73, .ishl, 1) rfl rfl) rfl,
    st_goto hC (n := 46) (dc_X12_cheats 46 (74, .goto 4, 3) rfl rfl) (by decide),
    st_iconst hC (n := 47) (x := 0) (dc_X12_cheats 47 (77, .iconst 0, 1) rfl rfl) rfl (by decide),
    st_ior hC (n := 48) (dc_X12_cheats 48 (78, .ior, 1) rfl rfl) rfl,
    st_istore_n hC (n := 49) (k := 2) (dc_X12_cheats 49 (79, .istore_n 2, 1) rfl rfl) rfl rfl (by decide),
    st_iinc hC (n := 50) (x := 1) (dc_X12_cheats 50 (80, .iinc 3 1, 3) rfl rfl) rfl (by decide) (by decide),
    st_goto hC (n := 51) (dc_X12_cheats 51 (83, .goto (-65), 3) rfl rfl) (by decide),
    st_aload_n hC (n := 52) (k := 0) (dc_X12_cheats 52 (86, .aload_n 0, 1) rfl rfl) rfl rfl,
    st_iload_n hC (n := 53) (k := 2) (dc_X12_cheats 53 (87, .iload_n 2, 1) rfl rfl) rfl rfl,
    st_callV hC (n := 54) (k := 12) (na := 1) (con_X12_gives l) (dc_X12_cheats 54 (88, .invokevirtual 91, 3) rfl rfl) rfl wd_1849 wd_160 (by decide) ⟨rfl, rfl, by decide, by decide⟩ hM wd_1846 wd_1848 wd_79 clf_12,
    st_iret hC (n := 55) hR (dc_X12_cheats 55 (91, .ireturn, 1) rfl rfl), trivial⟩
set_option maxRecDepth 8000 in
theorem vc_X12_cheats : VC P_X12_cheats 4 Pre_X12_cheats Fn_X12_cheats := by
  rintro mm as hom hoa ⟨⟨ns, nm, nt, hV⟩, x, rfl⟩
  refine ⟨Nat.le_of_ble_eq_true rfl, fun X h => ?_⟩
  have hM : VM mm := ⟨ns, nm, nt, hV⟩
  have hns : mm.1 54 0 0 = nI ns := hV.1.1
  have hns4 : ns ≤ 4 := hV.1.2
  have hnm4 : nm ≤ 4 := hV.2.1.2
  have body : maP (mm.1 54 0) x → X 8 [some (vR 12 0), some (vI (x)), none, none] [] mm := by
    intro hp
    obtain ⟨d, hd, rfl⟩ := ma_in hV hp
    have ed : (nI d).toNatClampNeg = d := nI_clamp (by omega)
    have eF : Fn_X12_cheats mm [vR 12 0, vI (nI d)] = gvM mm (chS (mm.1 54 0) d ns) := by
      refine Eq.trans (if_pos hp) ?_
      rw [ed, hns, nI_clamp (by omega)]
    rw [eF] at h
    have loop : ∀ t, t ≤ ns → X 12 [some (vR 12 0), some (vI (nI d)), some (vI (chS (mm.1 54 0) d t)), some (vI (nI t))] [] mm := by
      refine up_ind ns ?_ (fun t ht hk => ?_)
      ·
        show X 12 [some (vR 12 0), some (vI (nI d)), some (vI (chS (mm.1 54 0) d ns)), some (vI (nI ns))] [] mm
        refine h (fun _ => false) 3000 12 _ _ _ ?_
        refine And.intro rfl ?_
        refine br_t (by ((try simp (disch := omega) only [hns, li, pk_mul, nI_add, nI_clamp, nI_leI, nI_ltI, nI_eq, bI_0, bI_n0, Decidable.not_not, gu_m1]); first | done | omega | assumption)) ?_
        refine And.intro ⟨_, rfl⟩ ?_
        show ((some (vI (chS (mm.1 54 0) d ns)) : Option MV), stM mm 0) = _
        exact rfl
      · have et : (nI t).toNatClampNeg = t := nI_clamp (by omega)
        have st : ∀ v, chS (mm.1 54 0) d t ||| v = chS (mm.1 54 0) d (t + 1) → X 48 [some (vR 12 0), some (vI (nI d)), some (vI (chS (mm.1 54 0) d t)), some (vI (nI t))] [vI (v), vI (chS (mm.1 54 0) d t)] mm := by
          intro v ev
          show X 48 [some (vR 12 0), some (vI (nI d)), some (vI (chS (mm.1 54 0) d t)), some (vI (nI t))] [vI v, vI (chS (mm.1 54 0) d t)] mm
          refine h (fun i => Nat.beq i 12) 3000 48 _ _ _ ?_
          show X 12 [some (vR 12 0), some (vI (nI d)), some (vI ((chS (mm.1 54 0) d t) ||| v)), some (vI ((nI t) + 1))] [] mm
          rw [nI_1, ev]
          exact hk
        show X 12 [some (vR 12 0), some (vI (nI d)), some (vI (chS (mm.1 54 0) d t)), some (vI (nI t))] [] mm
        refine h (fun i => Nat.beq i 48) 3000 12 _ _ _ ?_
        refine And.intro rfl ?_
        refine br_f (by ((try simp (disch := omega) only [hns, li, pk_mul, nI_add, nI_clamp, nI_leI, nI_ltI, nI_eq, bI_0, bI_n0, Decidable.not_not, gu_m1]); first | done | omega | assumption)) ?_
        refine And.intro ⟨hM, t, d, by omega, by omega, rfl⟩ ?_
        refine br_c (fun b23 => ?_) (fun b23 => ?_)
        · -- 23: bI (ysA (mm.1 54 0) (nI t).toNatClampNeg (nI d).toNatClampNeg) = 0 taken
          replace b23 : ¬ (ysA (mm.1 54 0) (nI t).toNatClampNeg (nI d).toNatClampNeg) := bI_0.mp b23
          rw [et] at b23
          rw [ed] at b23
          show X 48 [some (vR 12 0), some (vI (nI d)), some (vI (chS (mm.1 54 0) d t)), some (vI (nI t))] [vI 0, vI (chS (mm.1 54 0) d t)] mm
          refine st _ (by rw [chS]; grind)
        · -- 23: bI (ysA (mm.1 54 0) (nI t).toNatClampNeg (nI d).toNatClampNeg) = 0 on
          replace b23 : ysA (mm.1 54 0) (nI t).toNatClampNeg (nI d).toNatClampNeg := bI_n0.mp b23
          rw [et] at b23
          rw [ed] at b23
          refine And.intro ⟨hM, _, rfl⟩ ?_
          refine And.intro rfl ?_
          refine And.intro ⟨hM, _, d, by omega, rfl⟩ ?_
          refine And.intro rfl ?_
          refine And.intro ⟨d, _, by omega, rfl⟩ ?_
          refine br_c (fun b42 => ?_) (fun b42 => ?_)
          · -- 42: brA (mm.1 54 0) (nI d).toNatClampNeg (mm.1 54 0 6) ≤ syA (mm.1 54 0) ((thA (mm.1 54 0) (nI t)) &&& (mm.1 54 0 8)) (nI d).toNatClampNeg taken
            replace b42 : brA (mm.1 54 0) (nI d).toNatClampNeg (mm.1 54 0 6) ≤ syA (mm.1 54 0) ((thA (mm.1 54 0) (nI t)) &&& (mm.1 54 0 8)) (nI d).toNatClampNeg := b42
            rw [ed] at b42
            show X 48 [some (vR 12 0), some (vI (nI d)), some (vI (chS (mm.1 54 0) d t)), some (vI (nI t))] [vI 0, vI (chS (mm.1 54 0) d t)] mm
            refine st _ (by rw [chS]; grind)
          · -- 42: brA (mm.1 54 0) (nI d).toNatClampNeg (mm.1 54 0 6) ≤ syA (mm.1 54 0) ((thA (mm.1 54 0) (nI t)) &&& (mm.1 54 0 8)) (nI d).toNatClampNeg on
            replace b42 : ¬ (brA (mm.1 54 0) (nI d).toNatClampNeg (mm.1 54 0 6) ≤ syA (mm.1 54 0) ((thA (mm.1 54 0) (nI t)) &&& (mm.1 54 0 8)) (nI d).toNatClampNeg) := b42
            rw [ed] at b42
            show X 48 [some (vR 12 0), some (vI (nI d)), some (vI (chS (mm.1 54 0) d t)), some (vI (nI t))] [vI (1 <<< ((nI t) &&& 31)), vI (chS (mm.1 54 0) d t)] mm
            refine st _ (by rw [chS]; grind)
    show X 8 [some (vR 12 0), some (vI (nI d)), none, none] [] mm
    refine h (fun i => Nat.beq i 12) 3000 8 _ _ _ ?_
    show X 12 [some (vR 12 0), some (vI (nI d)), some (vI 0), some (vI 0)] [] mm
    exact loop 0 (by omega)
  show X 0 [some (vR 12 0), some (vI x), none, none] [] mm
  refine h (fun i => Nat.beq i 8) 3000 0 _ _ _ ?_
  refine And.intro ⟨_, rfl⟩ ?_
  refine brn_c (fun b3 => ?_) (fun b3 => ?_)
  · -- 3: bI (maP (mm.1 54 0) x) = 0 taken
    replace b3 : maP (mm.1 54 0) x := bI_n0.mp b3
    show X 8 [some (vR 12 0), some (vI x), none, none] [] mm
    exact body b3
  · -- 3: bI (maP (mm.1 54 0) x) = 0 on
    replace b3 : ¬ (maP (mm.1 54 0) x) := bI_0.mp b3
    refine And.intro ⟨_, rfl⟩ ?_
    show ((some (vI (-1)) : Option MV), stM mm 1) = _
    exact (if_neg b3).symm
theorem con_X12_cheats (l : Launch) : CON l y_X12_cheats prog_14_method_152_code 4 (some .int) rm_X12_cheats Pre_X12_cheats Fn_X12_cheats := CON_of (by decide) rfl rfl (sa_X12_cheats l) vc_X12_cheats
