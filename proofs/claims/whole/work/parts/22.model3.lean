/-! PART 22: the model: giving, wedding -/

def Pre_X12_bits : PreT := fun _ as => ∃ n : Nat, n < 4096 ∧ as = [vI (nI n)]
def Fn_X12_bits : FnT := fun m as => match as with
  | [Sum.inl x] => (some (vI (nI (pcN x.toNatClampNeg))), m)
  | _ => (none, m)
abbrev y_X12_bits : MethodName := ⟨"GivenUpModel", "bits", "(I)I"⟩
def P_X12_bits : List StpT := [s_ic (0), s_istore 1, s_iload 0, s_istore 2, s_iload 2, s_ifeq 14, s_iinc 1 (1), s_iload 2, s_iload 2, s_ic (1), s_isub, s_iand, s_istore 2, s_goto 4, s_iload 1, s_iret]
def pc_X12_bits : Nat → Nat := fun i => [0, 1, 2, 3, 4, 5, 8, 11, 12, 13, 14, 15, 16, 17, 20, 21].getD i 0
def dl_X12_bits : List (Nat × Instr × Nat) := [(0, .iconst 0, 1), (1, .istore_n 1, 1), (2, .iload_n 0, 1), (3, .istore_n 2, 1), (4, .iload_n 2, 1), (5, .ifCond .eq 15, 3), (8, .iinc 1 1, 3), (11, .iload_n 2, 1), (12, .iload_n 2, 1), (13, .iconst 1, 1), (14, .isub, 1), (15, .iand, 1), (16, .istore_n 2, 1), (17, .goto (-13), 3), (20, .iload_n 1, 1), (21, .ireturn, 1)]
theorem dc_X12_bits : DEC prog_14_method_64_code pc_X12_bits dl_X12_bits := DEC_of (by decide +kernel)
abbrev rm_X12_bits : Room := { frames := 0, cells := 0, slots := 0, locals := 0 }
set_option maxRecDepth 20000 in
theorem sa_X12_bits (l : Launch) : SNDALL l prog_14_method_64_code "GivenUpModel" 3 (some .int) rm_X12_bits P_X12_bits pc_X12_bits := fun p e s m args below meth c cells slots Q D dA ad A RR hC hR => by
  have hM := RTX_room (R := rm_X12_bits) hR
  exact ⟨st_iconst hC (n := 0) (x := 0) (dc_X12_bits 0 (0, .iconst 0, 1) rfl rfl) rfl (by decide),
    st_istore_n hC (n := 1) (k := 1) (dc_X12_bits 1 (1, .istore_n 1, 1) rfl rfl) rfl rfl (by decide),
    st_iload_n hC (n := 2) (k := 0) (dc_X12_bits 2 (2, .iload_n 0, 1) rfl rfl) rfl rfl,
    st_istore_n hC (n := 3) (k := 2) (dc_X12_bits 3 (3, .istore_n 2, 1) rfl rfl) rfl rfl (by decide),
    st_iload_n hC (n := 4) (k := 2) (dc_X12_bits 4 (4, .iload_n 2, 1) rfl rfl) rfl rfl,
    st_ifeq hC (n := 5) (dc_X12_bits 5 (5, .ifCond .eq 15, 3) rfl rfl) rfl (by decide),
    st_iinc hC (n := 6) (x := 1) (dc_X12_bits 6 (8, .iinc 1 1, 3) rfl rfl) rfl (by decide) (by decide),
    st_iload_n hC (n := 7) (k := 2) (dc_X12_bits 7 (11, .iload_n 2, 1) rfl rfl) rfl rfl,
    st_iload_n hC (n := 8) (k := 2) (dc_X12_bits 8 (12, .iload_n 2, 1) rfl rfl) rfl rfl,
    st_iconst hC (n := 9) (x := 1) (dc_X12_bits 9 (13, .iconst 1, 1) rfl rfl) rfl (by decide),
    st_isub hC (n := 10) (dc_X12_bits 10 (14, .isub, 1) rfl rfl) rfl,
    st_iand hC (n := 11) (dc_X12_bits 11 (15, .iand, 1) rfl rfl) rfl,
    st_istore_n hC (n := 12) (k := 2) (dc_X12_bits 12 (16, .istore_n 2, 1) rfl rfl) rfl rfl (by decide),
    st_goto hC (n := 13) (dc_X12_bits 13 (17, .goto (-13), 3) rfl rfl) (by decide),
    st_iload_n hC (n := 14) (k := 1) (dc_X12_bits 14 (20, .iload_n 1, 1) rfl rfl) rfl rfl,
    st_iret hC (n := 15) hR (dc_X12_bits 15 (21, .ireturn, 1) rfl rfl), trivial⟩
theorem vc_X12_bits : VC P_X12_bits 3 Pre_X12_bits Fn_X12_bits := by
  rintro mm as hom hoa ⟨n, hn, rfl⟩
  refine ⟨Nat.le_of_ble_eq_true rfl, fun X h => ?_⟩
  have loop : ∀ q k c, k < 4096 → pcN k = q → c + q = pcN n → X 4 [some (vI (nI n)), some (vI (nI c)), some (vI (nI k))] [] mm := by
    intro q
    induction q with
    | zero =>
      intro k c hk hq hc
      have e := pc_zero hk hq
      subst e
      refine h (fun i => Nat.beq i 4) 3000 4 _ _ _ ?_
      refine br_t nI_0 ?_
      refine leaf ?_
      simp only [Fn_X12_bits, nI_clamp (show n < 2 ^ 31 by omega)]
      rw [← hc]
      rfl
    | succ q ih =>
      intro k c hk hq hc
      have e0 : pcN 0 = 0 := by decide +kernel
      have h0 : k ≠ 0 := by intro e; subst e; omega
      obtain ⟨h1, h2⟩ := pc_step k hk h0
      refine h (fun i => Nat.beq i 4) 3000 4 _ _ _ ?_
      refine br_f (nI_ne0 (by omega) (by omega)) ?_
      have hk2 := ih (k &&& (k - 1)) (c + 1) h2 (by omega) (by omega)
      have e : nI k &&& (nI k - 1) = nI (k &&& (k - 1)) := by
        rw [← nIand, ← pk_sub (by omega)]
        rfl
      rw [← nI_1, ← e] at hk2
      exact hk2
  refine h (fun i => Nat.beq i 4) 3000 0 _ _ _ ?_
  exact loop _ n 0 hn rfl (Nat.zero_add _)
theorem con_X12_bits (l : Launch) : CON l y_X12_bits prog_14_method_64_code 3 (some .int) rm_X12_bits Pre_X12_bits Fn_X12_bits := CON_of (by decide) rfl rfl (sa_X12_bits l) vc_X12_bits
abbrev VMx (m : MM) (ns nm nt : Nat) : Prop := VA (m.1 54 0) ns nm nt
theorem VM_of {m : MM} {ns nm nt : Nat} (h : VMx m ns nm nt) : VM m := ⟨ns, nm, nt, h⟩
/-- who owns a THING -/
def owA (a : Nat → Int32) (j : Nat) : Nat := (a (44 + 3 * j)).toNatClampNeg
theorem owA_at {a : Nat → Int32} {ns nm nt j : Nat} (h : VA a ns nm nt) (hj : j < nt) : owA a j < ns ∧ a (44 + 3 * j) = nI (owA a j) := by
  obtain ⟨⟨-, h4⟩, -, -, h1, -⟩ := h
  obtain ⟨o, ho, e⟩ := h1 j hj
  have : owA a j = o := by unfold owA; rw [e, nI_clamp (by omega)]
  rw [this]
  exact ⟨ho, e⟩
/-- who says yes, who may give -/
abbrev ysA (a : Nat → Int32) (i d : Nat) : Prop := a (15 + 4 * i) = -1 ∧ a (31 + 4 * d) = -1 ∧ ¬ hdA a (nI i) d < brA a d (a 6)
abbrev mgA (a : Nat → Int32) (j : Nat) : Prop := ¬ inS (a 8 ||| a 9) (nI j) ∧ a (15 + 4 * owA a j) = -1 ∧ a (46 + 3 * j) &&& (a 8 ^^^ -1) = 0 ∧ ¬ a 4 ≤ a (14 + 4 * owA a j)

def Pre_X12_saysYes : PreT := fun m as => VM m ∧ ∃ (i d : Nat), i < 4 ∧ d < 4 ∧ as = [vR 12 0, vI (nI i), vI (nI d)]
def Fn_X12_saysYes : FnT := fun m as => match as with
  | [_, Sum.inl i, Sum.inl d] => (some (vI (bI (ysA (m.1 54 0) i.toNatClampNeg d.toNatClampNeg))), m)
  | _ => (none, m)
abbrev y_X12_saysYes : MethodName := ⟨"GivenUpModel", "saysYes", "(II)Z"⟩
def P_X12_saysYes : List StpT := [s_aload 0, s_iload 1, s_callV 12 1 Pre_X12_hasWed Fn_X12_hasWed, s_ifne 22, s_aload 0, s_iload 2, s_callV 12 1 Pre_X12_isWed Fn_X12_isWed, s_ifne 22, s_aload 0, s_iload 1, s_iload 2, s_callV 12 2 Pre_X12_heardOf Fn_X12_heardOf, s_aload 0, s_iload 2, s_aload 0, s_getR 12 0 54, s_ic (6), s_iald, s_callV 12 2 Pre_X12_barIn Fn_X12_barIn, s_iclt 22, s_ic (1), s_goto 23, s_ic (0), s_zret]
def pc_X12_saysYes : Nat → Nat := fun i => [0, 1, 2, 5, 8, 9, 10, 13, 16, 17, 18, 19, 22, 23, 24, 25, 28, 30, 31, 34, 37, 38, 41, 42].getD i 0
def dl_X12_saysYes : List (Nat × Instr × Nat) := [(0, .aload_n 0, 1), (1, .iload_n 1, 1), (2, .invokevirtual 292, 3), (5, .ifCond .ne 36, 3), (8, .aload_n 0, 1), (9, .iload_n 2, 1), (10, .invokevirtual 295, 3), (13, .ifCond .ne 28, 3), (16, .aload_n 0, 1), (17, .iload_n 1, 1), (18, .iload_n 2, 1), (19, .invokevirtual 298, 3), (22, .aload_n 0, 1), (23, .iload_n 2, 1), (24, .aload_n 0, 1), (25, .getfield 7, 3), (28, .bipush 6, 2), (30, .iaload, 1), (31, .invokevirtual 301, 3), (34, .if_icmp .lt 7, 3), (37, .iconst 1, 1), (38, .goto 4, 3), (41, .iconst 0, 1), (42, .ireturn, 1)]
theorem dc_X12_saysYes : DEC prog_14_method_74_code pc_X12_saysYes dl_X12_saysYes := DEC_of (by decide +kernel)
abbrev rm_X12_saysYes : Room := { frames := 4, cells := 0, slots := 0, locals := 86 }
set_option maxRecDepth 20000 in
theorem sa_X12_saysYes (l : Launch) : SNDALL l prog_14_method_74_code "GivenUpModel" 3 (some .boolean) rm_X12_saysYes P_X12_saysYes pc_X12_saysYes := fun p e s m args below meth c cells slots Q D dA ad A RR hC hR => by
  have hM := RTX_room (R := rm_X12_saysYes) hR
  exact ⟨st_aload_n hC (n := 0) (k := 0) (dc_X12_saysYes 0 (0, .aload_n 0, 1) rfl rfl) rfl rfl,
    st_iload_n hC (n := 1) (k := 1) (dc_X12_saysYes 1 (1, .iload_n 1, 1) rfl rfl) rfl rfl,
    st_callV hC (n := 2) (k := 12) (na := 1) (con_X12_hasWed l) (dc_X12_saysYes 2 (2, .invokevirtual 292, 3) rfl rfl) rfl wd_1985 wd_160 (by decide) ⟨rfl, rfl, by decide, by decide⟩ hM wd_1982 wd_1984 wd_102 clf_12,
    st_ifne hC (n := 3) (dc_X12_saysYes 3 (5, .ifCond .ne 36, 3) rfl rfl) rfl (by decide),
    st_aload_n hC (n := 4) (k := 0) (dc_X12_saysYes 4 (8, .aload_n 0, 1) rfl rfl) rfl rfl,
    st_iload_n hC (n := 5) (k := 2) (dc_X12_saysYes 5 (9, .iload_n 2, 1) rfl rfl) rfl rfl,
    st_callV hC (n := 6) (k := 12) (na := 1) (con_X12_isWed l) (dc_X12_saysYes 6 (10, .invokevirtual 295, 3) rfl rfl) rfl wd_2037 wd_160 (by decide) ⟨rfl, rfl, by decide, by decide⟩ hM wd_2034 wd_2036 wd_109 clf_12,
    st_ifne hC (n := 7) (dc_X12_saysYes 7 (13, .ifCond .ne 28, 3) rfl rfl) rfl (by decide),
    st_aload_n hC (n := 8) (k := 0) (dc_X12_saysYes 8 (16, .aload_n 0, 1) rfl rfl) rfl rfl,
    st_iload_n hC (n := 9) (k := 1) (dc_X12_saysYes 9 (17, .iload_n 1, 1) rfl rfl) rfl rfl,
    st_iload_n hC (n := 10) (k := 2) (dc_X12_saysYes 10 (18, .iload_n 2, 1) rfl rfl) rfl rfl,
    st_callV hC (n := 11) (k := 12) (na := 2) (con_X12_heardOf l) (dc_X12_saysYes 11 (19, .invokevirtual 298, 3) rfl rfl) rfl wd_2021 wd_160 (by decide) ⟨rfl, rfl, by decide, by decide⟩ hM wd_2018 wd_2020 wd_106 clf_12,
    st_aload_n hC (n := 12) (k := 0) (dc_X12_saysYes 12 (22, .aload_n 0, 1) rfl rfl) rfl rfl,
    st_iload_n hC (n := 13) (k := 2) (dc_X12_saysYes 13 (23, .iload_n 2, 1) rfl rfl) rfl rfl,
    st_aload_n hC (n := 14) (k := 0) (dc_X12_saysYes 14 (24, .aload_n 0, 1) rfl rfl) rfl rfl,
    st_getR hC (n := 15) (k := 12) (j := 0) (dc_X12_saysYes 15 (25, .getfield 7, 3) rfl rfl) rfl clf_12 (by decide) rfl (by decide) wd_1552,
    st_bipush hC (n := 16) (x := 6) (dc_X12_saysYes 16 (28, .bipush 6, 2) rfl rfl) rfl (by decide),
    st_iald hC (n := 17) (dc_X12_saysYes 17 (30, .iaload, 1) rfl rfl) rfl,
    st_callV hC (n := 18) (k := 12) (na := 2) (con_X12_barIn l) (dc_X12_saysYes 18 (31, .invokevirtual 301, 3) rfl rfl) rfl wd_1930 wd_160 (by decide) ⟨rfl, rfl, by decide, by decide⟩ hM wd_1927 wd_1929 wd_93 clf_12,
    st_iclt hC (n := 19) (dc_X12_saysYes 19 (34, .if_icmp .lt 7, 3) rfl rfl) rfl (by decide),
    st_iconst hC (n := 20) (x := 1) (dc_X12_saysYes 20 (37, .iconst 1, 1) rfl rfl) rfl (by decide),
    st_goto hC (n := 21) (dc_X12_saysYes 21 (38, .goto 4, 3) rfl rfl) (by decide),
    st_iconst hC (n := 22) (x := 0) (dc_X12_saysYes 22 (41, .iconst 0, 1) rfl rfl) rfl (by decide),
    st_zret hC (n := 23) hR (dc_X12_saysYes 23 (42, .ireturn, 1) rfl rfl), trivial⟩
theorem vc_X12_saysYes : VC P_X12_saysYes 3 Pre_X12_saysYes Fn_X12_saysYes := by
  rintro mm as hom hoa ⟨hV, i, d, hi, hd, rfl⟩
  refine ⟨Nat.le_of_ble_eq_true rfl, fun X h => ?_⟩
  have ei : (nI i).toNatClampNeg = i := nI_clamp (by omega)
  have ed : (nI d).toNatClampNeg = d := nI_clamp (by omega)
  have eF : Fn_X12_saysYes mm [vR 12 0, vI (nI i), vI (nI d)] = (some (vI (bI (ysA (mm.1 54 0) i d))), mm) := by
    simp only [Fn_X12_saysYes, ei, ed]
  rw [eF] at h
  refine h (fun _ => false) 3000 0 _ _ _ ?_
  refine And.intro ⟨_, hi, rfl⟩ ?_
  refine brn_c (fun h1 => ?_) (fun h1 => ?_)
  · replace h1 := bI_n0.mp h1
    rw [ei] at h1
    repeat' (first | refine And.intro (by (first | exact rfl | exact Or.inl rfl | exact Or.inr rfl | exact bI_in | exact inb_o 3060 rfl rfl (by (try simp (disch := omega) only [li, pk_mul, nI_add, nI_clamp]); rfl) (by omega) | exact inb_o 12 rfl rfl (by (try simp (disch := omega) only [li, pk_mul, nI_add, nI_clamp]); rfl) (by omega) | exact inb_o 4 rfl rfl (by (try simp (disch := omega) only [li, pk_mul, nI_add, nI_clamp]); rfl) (by omega) | exact inb_o 5 rfl rfl (by (try simp (disch := omega) only [li, pk_mul, nI_add, nI_clamp]); rfl) (by omega) | exact inb_o 16 rfl rfl (by (try simp (disch := omega) only [li, pk_mul, nI_add, nI_clamp]); rfl) (by omega) | exact inb_o 20 rfl rfl (by (try simp (disch := omega) only [li, pk_mul, nI_add, nI_clamp]); rfl) (by omega) | exact inb_o 30 rfl rfl (by (try simp (disch := omega) only [li, pk_mul, nI_add, nI_clamp]); rfl) (by omega) | exact inb_o 48 rfl rfl (by (try simp (disch := omega) only [li, pk_mul, nI_add, nI_clamp]); rfl) (by omega) | exact inb_o 60 rfl rfl (by (try simp (disch := omega) only [li, pk_mul, nI_add, nI_clamp]); rfl) (by omega) | exact inb_o 80 rfl rfl (by (try simp (disch := omega) only [li, pk_mul, nI_add, nI_clamp]); rfl) (by omega) | exact inb_o 120 rfl rfl (by (try simp (disch := omega) only [li, pk_mul, nI_add, nI_clamp]); rfl) (by omega) | exact inb_o 240 rfl rfl (by (try simp (disch := omega) only [li, pk_mul, nI_add, nI_clamp]); rfl) (by omega) | exact inb_o 900 rfl rfl (by (try simp (disch := omega) only [li, pk_mul, nI_add, nI_clamp]); rfl) (by omega) | exact inb_o 4096 rfl rfl (by (try simp (disch := omega) only [li, pk_mul, nI_add, nI_clamp]); rfl) (by omega) | exact inb_o 3 rfl rfl (by (try simp (disch := omega) only [li, pk_mul, nI_add, nI_clamp]); rfl) (by omega))) ?_ | refine br_t (by ((try simp (disch := omega) only [li, pk_mul, nI_add, nI_clamp, nI_leI, nI_ltI, nI_eq, bI_0, bI_n0, Decidable.not_not, gu_m1]); first | done | omega | assumption)) ?_ | refine br_f (by ((try simp (disch := omega) only [li, pk_mul, nI_add, nI_clamp, nI_leI, nI_ltI, nI_eq, bI_0, bI_n0, Decidable.not_not, gu_m1]); first | done | omega | assumption)) ?_ | refine brn_t (by ((try simp (disch := omega) only [li, pk_mul, nI_add, nI_clamp, nI_leI, nI_ltI, nI_eq, bI_0, bI_n0, Decidable.not_not, gu_m1]); first | done | omega | assumption)) ?_ | refine brn_f (by ((try simp (disch := omega) only [li, pk_mul, nI_add, nI_clamp, nI_leI, nI_ltI, nI_eq, bI_0, bI_n0, Decidable.not_not, gu_m1]); first | done | omega | assumption)) ?_ | refine br_c (fun _ => ?_) (fun _ => ?_) | refine brn_c (fun _ => ?_) (fun _ => ?_))
    exact ret_f (fun z => h1 z.1)
  replace h1 := bI_0.mp h1
  rw [ei, Decidable.not_not] at h1
  refine And.intro ⟨_, hd, rfl⟩ ?_
  refine brn_c (fun h2 => ?_) (fun h2 => ?_)
  · replace h2 := bI_n0.mp h2
    rw [ed] at h2
    repeat' (first | refine And.intro (by (first | exact rfl | exact Or.inl rfl | exact Or.inr rfl | exact bI_in | exact inb_o 3060 rfl rfl (by (try simp (disch := omega) only [li, pk_mul, nI_add, nI_clamp]); rfl) (by omega) | exact inb_o 12 rfl rfl (by (try simp (disch := omega) only [li, pk_mul, nI_add, nI_clamp]); rfl) (by omega) | exact inb_o 4 rfl rfl (by (try simp (disch := omega) only [li, pk_mul, nI_add, nI_clamp]); rfl) (by omega) | exact inb_o 5 rfl rfl (by (try simp (disch := omega) only [li, pk_mul, nI_add, nI_clamp]); rfl) (by omega) | exact inb_o 16 rfl rfl (by (try simp (disch := omega) only [li, pk_mul, nI_add, nI_clamp]); rfl) (by omega) | exact inb_o 20 rfl rfl (by (try simp (disch := omega) only [li, pk_mul, nI_add, nI_clamp]); rfl) (by omega) | exact inb_o 30 rfl rfl (by (try simp (disch := omega) only [li, pk_mul, nI_add, nI_clamp]); rfl) (by omega) | exact inb_o 48 rfl rfl (by (try simp (disch := omega) only [li, pk_mul, nI_add, nI_clamp]); rfl) (by omega) | exact inb_o 60 rfl rfl (by (try simp (disch := omega) only [li, pk_mul, nI_add, nI_clamp]); rfl) (by omega) | exact inb_o 80 rfl rfl (by (try simp (disch := omega) only [li, pk_mul, nI_add, nI_clamp]); rfl) (by omega) | exact inb_o 120 rfl rfl (by (try simp (disch := omega) only [li, pk_mul, nI_add, nI_clamp]); rfl) (by omega) | exact inb_o 240 rfl rfl (by (try simp (disch := omega) only [li, pk_mul, nI_add, nI_clamp]); rfl) (by omega) | exact inb_o 900 rfl rfl (by (try simp (disch := omega) only [li, pk_mul, nI_add, nI_clamp]); rfl) (by omega) | exact inb_o 4096 rfl rfl (by (try simp (disch := omega) only [li, pk_mul, nI_add, nI_clamp]); rfl) (by omega) | exact inb_o 3 rfl rfl (by (try simp (disch := omega) only [li, pk_mul, nI_add, nI_clamp]); rfl) (by omega))) ?_ | refine br_t (by ((try simp (disch := omega) only [li, pk_mul, nI_add, nI_clamp, nI_leI, nI_ltI, nI_eq, bI_0, bI_n0, Decidable.not_not, gu_m1]); first | done | omega | assumption)) ?_ | refine br_f (by ((try simp (disch := omega) only [li, pk_mul, nI_add, nI_clamp, nI_leI, nI_ltI, nI_eq, bI_0, bI_n0, Decidable.not_not, gu_m1]); first | done | omega | assumption)) ?_ | refine brn_t (by ((try simp (disch := omega) only [li, pk_mul, nI_add, nI_clamp, nI_leI, nI_ltI, nI_eq, bI_0, bI_n0, Decidable.not_not, gu_m1]); first | done | omega | assumption)) ?_ | refine brn_f (by ((try simp (disch := omega) only [li, pk_mul, nI_add, nI_clamp, nI_leI, nI_ltI, nI_eq, bI_0, bI_n0, Decidable.not_not, gu_m1]); first | done | omega | assumption)) ?_ | refine br_c (fun _ => ?_) (fun _ => ?_) | refine brn_c (fun _ => ?_) (fun _ => ?_))
    exact ret_f (fun z => h2 z.2.1)
  replace h2 := bI_0.mp h2
  rw [ed, Decidable.not_not] at h2
  refine And.intro ⟨hV, _, d, hd, rfl⟩ ?_
  repeat' (first | refine And.intro (by (first | exact rfl | exact Or.inl rfl | exact Or.inr rfl | exact bI_in | exact inb_o 3060 rfl rfl (by (try simp (disch := omega) only [li, pk_mul, nI_add, nI_clamp]); rfl) (by omega) | exact inb_o 12 rfl rfl (by (try simp (disch := omega) only [li, pk_mul, nI_add, nI_clamp]); rfl) (by omega) | exact inb_o 4 rfl rfl (by (try simp (disch := omega) only [li, pk_mul, nI_add, nI_clamp]); rfl) (by omega) | exact inb_o 5 rfl rfl (by (try simp (disch := omega) only [li, pk_mul, nI_add, nI_clamp]); rfl) (by omega) | exact inb_o 16 rfl rfl (by (try simp (disch := omega) only [li, pk_mul, nI_add, nI_clamp]); rfl) (by omega) | exact inb_o 20 rfl rfl (by (try simp (disch := omega) only [li, pk_mul, nI_add, nI_clamp]); rfl) (by omega) | exact inb_o 30 rfl rfl (by (try simp (disch := omega) only [li, pk_mul, nI_add, nI_clamp]); rfl) (by omega) | exact inb_o 48 rfl rfl (by (try simp (disch := omega) only [li, pk_mul, nI_add, nI_clamp]); rfl) (by omega) | exact inb_o 60 rfl rfl (by (try simp (disch := omega) only [li, pk_mul, nI_add, nI_clamp]); rfl) (by omega) | exact inb_o 80 rfl rfl (by (try simp (disch := omega) only [li, pk_mul, nI_add, nI_clamp]); rfl) (by omega) | exact inb_o 120 rfl rfl (by (try simp (disch := omega) only [li, pk_mul, nI_add, nI_clamp]); rfl) (by omega) | exact inb_o 240 rfl rfl (by (try simp (disch := omega) only [li, pk_mul, nI_add, nI_clamp]); rfl) (by omega) | exact inb_o 900 rfl rfl (by (try simp (disch := omega) only [li, pk_mul, nI_add, nI_clamp]); rfl) (by omega) | exact inb_o 4096 rfl rfl (by (try simp (disch := omega) only [li, pk_mul, nI_add, nI_clamp]); rfl) (by omega) | exact inb_o 3 rfl rfl (by (try simp (disch := omega) only [li, pk_mul, nI_add, nI_clamp]); rfl) (by omega))) ?_ | refine br_t (by ((try simp (disch := omega) only [li, pk_mul, nI_add, nI_clamp, nI_leI, nI_ltI, nI_eq, bI_0, bI_n0, Decidable.not_not, gu_m1]); first | done | omega | assumption)) ?_ | refine br_f (by ((try simp (disch := omega) only [li, pk_mul, nI_add, nI_clamp, nI_leI, nI_ltI, nI_eq, bI_0, bI_n0, Decidable.not_not, gu_m1]); first | done | omega | assumption)) ?_ | refine brn_t (by ((try simp (disch := omega) only [li, pk_mul, nI_add, nI_clamp, nI_leI, nI_ltI, nI_eq, bI_0, bI_n0, Decidable.not_not, gu_m1]); first | done | omega | assumption)) ?_ | refine brn_f (by ((try simp (disch := omega) only [li, pk_mul, nI_add, nI_clamp, nI_leI, nI_ltI, nI_eq, bI_0, bI_n0, Decidable.not_not, gu_m1]); first | done | omega | assumption)) ?_ | refine br_c (fun _ => ?_) (fun _ => ?_) | refine brn_c (fun _ => ?_) (fun _ => ?_))
  refine And.intro ⟨d, _, hd, rfl⟩ ?_
  refine br_c (fun h3 => ?_) (fun h3 => ?_)
  · have h3' : hdA (mm.1 54 0) (nI i) (nI d).toNatClampNeg < brA (mm.1 54 0) (nI d).toNatClampNeg (mm.1 54 0 6) := h3
    rw [ed] at h3'
    repeat' (first | refine And.intro (by (first | exact rfl | exact Or.inl rfl | exact Or.inr rfl | exact bI_in | exact inb_o 3060 rfl rfl (by (try simp (disch := omega) only [li, pk_mul, nI_add, nI_clamp]); rfl) (by omega) | exact inb_o 12 rfl rfl (by (try simp (disch := omega) only [li, pk_mul, nI_add, nI_clamp]); rfl) (by omega) | exact inb_o 4 rfl rfl (by (try simp (disch := omega) only [li, pk_mul, nI_add, nI_clamp]); rfl) (by omega) | exact inb_o 5 rfl rfl (by (try simp (disch := omega) only [li, pk_mul, nI_add, nI_clamp]); rfl) (by omega) | exact inb_o 16 rfl rfl (by (try simp (disch := omega) only [li, pk_mul, nI_add, nI_clamp]); rfl) (by omega) | exact inb_o 20 rfl rfl (by (try simp (disch := omega) only [li, pk_mul, nI_add, nI_clamp]); rfl) (by omega) | exact inb_o 30 rfl rfl (by (try simp (disch := omega) only [li, pk_mul, nI_add, nI_clamp]); rfl) (by omega) | exact inb_o 48 rfl rfl (by (try simp (disch := omega) only [li, pk_mul, nI_add, nI_clamp]); rfl) (by omega) | exact inb_o 60 rfl rfl (by (try simp (disch := omega) only [li, pk_mul, nI_add, nI_clamp]); rfl) (by omega) | exact inb_o 80 rfl rfl (by (try simp (disch := omega) only [li, pk_mul, nI_add, nI_clamp]); rfl) (by omega) | exact inb_o 120 rfl rfl (by (try simp (disch := omega) only [li, pk_mul, nI_add, nI_clamp]); rfl) (by omega) | exact inb_o 240 rfl rfl (by (try simp (disch := omega) only [li, pk_mul, nI_add, nI_clamp]); rfl) (by omega) | exact inb_o 900 rfl rfl (by (try simp (disch := omega) only [li, pk_mul, nI_add, nI_clamp]); rfl) (by omega) | exact inb_o 4096 rfl rfl (by (try simp (disch := omega) only [li, pk_mul, nI_add, nI_clamp]); rfl) (by omega) | exact inb_o 3 rfl rfl (by (try simp (disch := omega) only [li, pk_mul, nI_add, nI_clamp]); rfl) (by omega))) ?_ | refine br_t (by ((try simp (disch := omega) only [li, pk_mul, nI_add, nI_clamp, nI_leI, nI_ltI, nI_eq, bI_0, bI_n0, Decidable.not_not, gu_m1]); first | done | omega | assumption)) ?_ | refine br_f (by ((try simp (disch := omega) only [li, pk_mul, nI_add, nI_clamp, nI_leI, nI_ltI, nI_eq, bI_0, bI_n0, Decidable.not_not, gu_m1]); first | done | omega | assumption)) ?_ | refine brn_t (by ((try simp (disch := omega) only [li, pk_mul, nI_add, nI_clamp, nI_leI, nI_ltI, nI_eq, bI_0, bI_n0, Decidable.not_not, gu_m1]); first | done | omega | assumption)) ?_ | refine brn_f (by ((try simp (disch := omega) only [li, pk_mul, nI_add, nI_clamp, nI_leI, nI_ltI, nI_eq, bI_0, bI_n0, Decidable.not_not, gu_m1]); first | done | omega | assumption)) ?_ | refine br_c (fun _ => ?_) (fun _ => ?_) | refine brn_c (fun _ => ?_) (fun _ => ?_))
    exact ret_f (fun z => z.2.2 h3')
  · have h3' : ¬ hdA (mm.1 54 0) (nI i) (nI d).toNatClampNeg < brA (mm.1 54 0) (nI d).toNatClampNeg (mm.1 54 0 6) := h3
    rw [ed] at h3'
    repeat' (first | refine And.intro (by (first | exact rfl | exact Or.inl rfl | exact Or.inr rfl | exact bI_in | exact inb_o 3060 rfl rfl (by (try simp (disch := omega) only [li, pk_mul, nI_add, nI_clamp]); rfl) (by omega) | exact inb_o 12 rfl rfl (by (try simp (disch := omega) only [li, pk_mul, nI_add, nI_clamp]); rfl) (by omega) | exact inb_o 4 rfl rfl (by (try simp (disch := omega) only [li, pk_mul, nI_add, nI_clamp]); rfl) (by omega) | exact inb_o 5 rfl rfl (by (try simp (disch := omega) only [li, pk_mul, nI_add, nI_clamp]); rfl) (by omega) | exact inb_o 16 rfl rfl (by (try simp (disch := omega) only [li, pk_mul, nI_add, nI_clamp]); rfl) (by omega) | exact inb_o 20 rfl rfl (by (try simp (disch := omega) only [li, pk_mul, nI_add, nI_clamp]); rfl) (by omega) | exact inb_o 30 rfl rfl (by (try simp (disch := omega) only [li, pk_mul, nI_add, nI_clamp]); rfl) (by omega) | exact inb_o 48 rfl rfl (by (try simp (disch := omega) only [li, pk_mul, nI_add, nI_clamp]); rfl) (by omega) | exact inb_o 60 rfl rfl (by (try simp (disch := omega) only [li, pk_mul, nI_add, nI_clamp]); rfl) (by omega) | exact inb_o 80 rfl rfl (by (try simp (disch := omega) only [li, pk_mul, nI_add, nI_clamp]); rfl) (by omega) | exact inb_o 120 rfl rfl (by (try simp (disch := omega) only [li, pk_mul, nI_add, nI_clamp]); rfl) (by omega) | exact inb_o 240 rfl rfl (by (try simp (disch := omega) only [li, pk_mul, nI_add, nI_clamp]); rfl) (by omega) | exact inb_o 900 rfl rfl (by (try simp (disch := omega) only [li, pk_mul, nI_add, nI_clamp]); rfl) (by omega) | exact inb_o 4096 rfl rfl (by (try simp (disch := omega) only [li, pk_mul, nI_add, nI_clamp]); rfl) (by omega) | exact inb_o 3 rfl rfl (by (try simp (disch := omega) only [li, pk_mul, nI_add, nI_clamp]); rfl) (by omega))) ?_ | refine br_t (by ((try simp (disch := omega) only [li, pk_mul, nI_add, nI_clamp, nI_leI, nI_ltI, nI_eq, bI_0, bI_n0, Decidable.not_not, gu_m1]); first | done | omega | assumption)) ?_ | refine br_f (by ((try simp (disch := omega) only [li, pk_mul, nI_add, nI_clamp, nI_leI, nI_ltI, nI_eq, bI_0, bI_n0, Decidable.not_not, gu_m1]); first | done | omega | assumption)) ?_ | refine brn_t (by ((try simp (disch := omega) only [li, pk_mul, nI_add, nI_clamp, nI_leI, nI_ltI, nI_eq, bI_0, bI_n0, Decidable.not_not, gu_m1]); first | done | omega | assumption)) ?_ | refine brn_f (by ((try simp (disch := omega) only [li, pk_mul, nI_add, nI_clamp, nI_leI, nI_ltI, nI_eq, bI_0, bI_n0, Decidable.not_not, gu_m1]); first | done | omega | assumption)) ?_ | refine br_c (fun _ => ?_) (fun _ => ?_) | refine brn_c (fun _ => ?_) (fun _ => ?_))
    exact ret_t ⟨h1, h2, h3'⟩
theorem con_X12_saysYes (l : Launch) : CON l y_X12_saysYes prog_14_method_74_code 3 (some .boolean) rm_X12_saysYes Pre_X12_saysYes Fn_X12_saysYes := CON_of (by decide) rfl rfl (sa_X12_saysYes l) vc_X12_saysYes
def Pre_X12_mayGive : PreT := fun m as => ∃ (ns nm nt j : Nat), VMx m ns nm nt ∧ j < nt ∧ as = [vR 12 0, vI (nI j)]
def Fn_X12_mayGive : FnT := fun m as => match as with
  | [_, Sum.inl j] => (some (vI (bI (mgA (m.1 54 0) j.toNatClampNeg))), m)
  | _ => (none, m)
abbrev y_X12_mayGive : MethodName := ⟨"GivenUpModel", "mayGive", "(I)Z"⟩
def P_X12_mayGive : List StpT := [s_aload 0, s_iload 1, s_callV 12 1 Pre_X12_ownerOf Fn_X12_ownerOf, s_istore 2, s_aload 0, s_aload 0, s_getR 12 0 54, s_ic (8), s_iald, s_aload 0, s_getR 12 0 54, s_ic (9), s_iald, s_ior, s_iload 1, s_callV 12 2 Pre_X12_isIn Fn_X12_isIn, s_ifne 46, s_aload 0, s_iload 2, s_callV 12 1 Pre_X12_hasWed Fn_X12_hasWed, s_ifne 46, s_aload 0, s_iload 1, s_callV 12 1 Pre_X12_aheadOf Fn_X12_aheadOf, s_aload 0, s_getR 12 0 54, s_ic (8), s_iald, s_ic (-1), s_ixor, s_iand, s_ifne 46, s_aload 0, s_getR 12 0 54, s_iload 2, s_callS 1 Pre_X12_suitorRow Fn_X12_suitorRow, s_ic (2), s_iadd, s_iald, s_aload 0, s_getR 12 0 54, s_ic (4), s_iald, s_icge 46, s_ic (1), s_goto 47, s_ic (0), s_zret]
def pc_X12_mayGive : Nat → Nat := fun i => [0, 1, 2, 5, 6, 7, 8, 11, 13, 14, 15, 18, 20, 21, 22, 23, 26, 29, 30, 31, 34, 37, 38, 39, 42, 43, 46, 48, 49, 50, 51, 52, 55, 56, 59, 60, 63, 64, 65, 66, 67, 70, 71, 72, 75, 76, 79, 80].getD i 0
def dl_X12_mayGive : List (Nat × Instr × Nat) := [(0, .aload_n 0, 1), (1, .iload_n 1, 1), (2, .invokevirtual 274, 3), (5, .istore_n 2, 1), (6, .aload_n 0, 1), (7, .aload_n 0, 1), (8, .getfield 7, 3), (11, .bipush 8, 2), (13, .iaload, 1), (14, .aload_n 0, 1), (15, .getfield 7, 3), (18, .bipush 9, 2), (20, .iaload, 1), (21, .ior, 1), (22, .iload_n 1, 1), (23, .invokevirtual 277, 3), (26, .ifCond .ne 53, 3), (29, .aload_n 0, 1), (30, .iload_n 2, 1), (31, .invokevirtual 292, 3), (34, .ifCond .ne 45, 3), (37, .aload_n 0, 1), (38, .iload_n 1, 1), (39, .invokevirtual 316, 3), (42, .aload_n 0, 1), (43, .getfield 7, 3), (46, .bipush 8, 2), (48, .iaload, 1), (49, .iconst (-1), 1), (50, .ixor, 1), (51, .iand, 1), (52, .ifCond .ne 27, 3), (55, .aload_n 0, 1), (56, .getfield 7, 3), (59, .iload_n 2, 1), (60, .invokestatic 289, 3), (63, .iconst 2, 1), (64, .iadd, 1), (65, .iaload, 1), (66, .aload_n 0, 1), (67, .getfield 7, 3), (70, .iconst 4, 1), (71, .iaload, 1), (72, .if_icmp .ge 7, 3), (75, .iconst 1, 1), (76, .goto 4, 3), (79, .iconst 0, 1), (80, .ireturn, 1)]
theorem dc_X12_mayGive : DEC prog_14_method_82_code pc_X12_mayGive dl_X12_mayGive := DEC_of (by decide +kernel)
abbrev rm_X12_mayGive : Room := { frames := 2, cells := 0, slots := 0, locals := 41 }
set_option maxRecDepth 20000 in
theorem sa_X12_mayGive (l : Launch) : SNDALL l prog_14_method_82_code "GivenUpModel" 3 (some .boolean) rm_X12_mayGive P_X12_mayGive pc_X12_mayGive := fun p e s m args below meth c cells slots Q D dA ad A RR hC hR => by
  have hM := RTX_room (R := rm_X12_mayGive) hR
  exact ⟨st_aload_n hC (n := 0) (k := 0) (dc_X12_mayGive 0 (0, .aload_n 0, 1) rfl rfl) rfl rfl,
    st_iload_n hC (n := 1) (k := 1) (dc_X12_mayGive 1 (1, .iload_n 1, 1) rfl rfl) rfl rfl,
    st_callV hC (n := 2) (k := 12) (na := 1) (con_X12_ownerOf l) (dc_X12_mayGive 2 (2, .invokevirtual 274, 3) rfl rfl) rfl wd_1896 wd_160 (by decide) ⟨rfl, rfl, by decide, by decide⟩ hM wd_1893 wd_1895 wd_87 clf_12,
    st_istore_n hC (n := 3) (k := 2) (dc_X12_mayGive 3 (5, .istore_n 2, 1) rfl rfl) rfl rfl (by decide),
    st_aload_n hC (n := 4) (k := 0) (dc_X12_mayGive 4 (6, .aload_n 0, 1) rfl rfl) rfl rfl,
    st_aload_n hC (n := 5) (k := 0) (dc_X12_mayGive 5 (7, .aload_n 0, 1) rfl rfl) rfl rfl,
    st_getR hC (n := 6) (k := 12) (j := 0) (dc_X12_mayGive 6 (8, .getfield 7, 3) rfl rfl) rfl clf_12 (by decide) rfl (by decide) wd_1552,
    st_bipush hC (n := 7) (x := 8) (dc_X12_mayGive 7 (11, .bipush 8, 2) rfl rfl) rfl (by decide),
    st_iald hC (n := 8) (dc_X12_mayGive 8 (13, .iaload, 1) rfl rfl) rfl,
    st_aload_n hC (n := 9) (k := 0) (dc_X12_mayGive 9 (14, .aload_n 0, 1) rfl rfl) rfl rfl,
    st_getR hC (n := 10) (k := 12) (j := 0) (dc_X12_mayGive 10 (15, .getfield 7, 3) rfl rfl) rfl clf_12 (by decide) rfl (by decide) wd_1552,
    st_bipush hC (n := 11) (x := 9) (dc_X12_mayGive 11 (18, .bipush 9, 2) rfl rfl) rfl (by decide),
    st_iald hC (n := 12) (dc_X12_mayGive 12 (20, .iaload, 1) rfl rfl) rfl,
    st_ior hC (n := 13) (dc_X12_mayGive 13 (21, .ior, 1) rfl rfl) rfl,
    st_iload_n hC (n := 14) (k := 1) (dc_X12_mayGive 14 (22, .iload_n 1, 1) rfl rfl) rfl rfl,
    st_callV hC (n := 15) (k := 12) (na := 2) (con_X12_isIn l) (dc_X12_mayGive 15 (23, .invokevirtual 277, 3) rfl rfl) rfl wd_1907 wd_160 (by decide) ⟨rfl, rfl, by decide, by decide⟩ hM wd_1904 wd_1906 wd_89 clf_12,
    st_ifne hC (n := 16) (dc_X12_mayGive 16 (26, .ifCond .ne 53, 3) rfl rfl) rfl (by decide),
    st_aload_n hC (n := 17) (k := 0) (dc_X12_mayGive 17 (29, .aload_n 0, 1) rfl rfl) rfl rfl,
    st_iload_n hC (n := 18) (k := 2) (dc_X12_mayGive 18 (30, .iload_n 2, 1) rfl rfl) rfl rfl,
    st_callV hC (n := 19) (k := 12) (na := 1) (con_X12_hasWed l) (dc_X12_mayGive 19 (31, .invokevirtual 292, 3) rfl rfl) rfl wd_1985 wd_160 (by decide) ⟨rfl, rfl, by decide, by decide⟩ hM wd_1982 wd_1984 wd_102 clf_12,
    st_ifne hC (n := 20) (dc_X12_mayGive 20 (34, .ifCond .ne 45, 3) rfl rfl) rfl (by decide),
    st_aload_n hC (n := 21) (k := 0) (dc_X12_mayGive 21 (37, .aload_n 0, 1) rfl rfl) rfl rfl,
    st_iload_n hC (n := 22) (k := 1) (dc_X12_mayGive 22 (38, .iload_n 1, 1) rfl rfl) rfl rfl,
    st_callV hC (n := 23) (k := 12) (na := 1) (con_X12_aheadOf l) (dc_X12_mayGive 23 (39, .invokevirtual 316, 3) rfl rfl) rfl wd_1942 wd_160 (by decide) ⟨rfl, rfl, by decide, by decide⟩ hM wd_1939 wd_1941 wd_95 clf_12,
    st_aload_n hC (n := 24) (k := 0) (dc_X12_mayGive 24 (42, .aload_n 0, 1) rfl rfl) rfl rfl,
    st_getR hC (n := 25) (k := 12) (j := 0) (dc_X12_mayGive 25 (43, .getfield 7, 3) rfl rfl) rfl clf_12 (by decide) rfl (by decide) wd_1552,
    st_bipush hC (n := 26) (x := 8) (dc_X12_mayGive 26 (46, .bipush 8, 2) rfl rfl) rfl (by decide),
    st_iald hC (n := 27) (dc_X12_mayGive 27 (48, .iaload, 1) rfl rfl) rfl,
    st_iconst hC (n := 28) (x := (-1)) (dc_X12_mayGive 28 (49, .iconst (-1), 1) rfl rfl) rfl (by decide),
    st_ixor hC (n := 29) (dc_X12_mayGive 29 (50, .ixor, 1) rfl rfl) rfl,
    st_iand hC (n := 30) (dc_X12_mayGive 30 (51, .iand, 1) rfl rfl) rfl,
    st_ifne hC (n := 31) (dc_X12_mayGive 31 (52, .ifCond .ne 27, 3) rfl rfl) rfl (by decide),
    st_aload_n hC (n := 32) (k := 0) (dc_X12_mayGive 32 (55, .aload_n 0, 1) rfl rfl) rfl rfl,
    st_getR hC (n := 33) (k := 12) (j := 0) (dc_X12_mayGive 33 (56, .getfield 7, 3) rfl rfl) rfl clf_12 (by decide) rfl (by decide) wd_1552,
    st_iload_n hC (n := 34) (k := 2) (dc_X12_mayGive 34 (59, .iload_n 2, 1) rfl rfl) rfl rfl,
    st_callS hC (n := 35) (na := 1) (con_X12_suitorRow l) (dc_X12_mayGive 35 (60, .invokestatic 289, 3) rfl rfl) rfl wd_1888 wd_160 (by decide) ⟨rfl, rfl, by decide, by decide⟩ hM wd_1886 wd_1887,
    st_iconst hC (n := 36) (x := 2) (dc_X12_mayGive 36 (63, .iconst 2, 1) rfl rfl) rfl (by decide),
    st_iadd hC (n := 37) (dc_X12_mayGive 37 (64, .iadd, 1) rfl rfl) rfl,
    st_iald hC (n := 38) (dc_X12_mayGive 38 (65, .iaload, 1) rfl rfl) rfl,
    st_aload_n hC (n := 39) (k := 0) (dc_X12_mayGive 39 (66, .aload_n 0, 1) rfl rfl) rfl rfl,
    st_getR hC (n := 40) (k := 12) (j := 0) (dc_X12_mayGive 40 (67, .getfield 7, 3) rfl rfl) rfl clf_12 (by decide) rfl (by decide) wd_1552,
    st_iconst hC (n := 41) (x := 4) (dc_X12_mayGive 41 (70, .iconst 4, 1) rfl rfl) rfl (by decide),
    st_iald hC (n := 42) (dc_X12_mayGive 42 (71, .iaload, 1) rfl rfl) rfl,
    st_icge hC (n := 43) (dc_X12_mayGive 43 (72, .if_icmp .ge 7, 3) rfl rfl) rfl (by decide),
    st_iconst hC (n := 44) (x := 1) (dc_X12_mayGive 44 (75, .iconst 1, 1) rfl rfl) rfl (by decide),
    st_goto hC (n := 45) (dc_X12_mayGive 45 (76, .goto 4, 3) rfl rfl) (by decide),
    st_iconst hC (n := 46) (x := 0) (dc_X12_mayGive 46 (79, .iconst 0, 1) rfl rfl) rfl (by decide),
    st_zret hC (n := 47) hR (dc_X12_mayGive 47 (80, .ireturn, 1) rfl rfl), trivial⟩
theorem vc_X12_mayGive : VC P_X12_mayGive 3 Pre_X12_mayGive Fn_X12_mayGive := by
  rintro mm as hom hoa ⟨ns, nm, nt, j, hV, hj, rfl⟩
  refine ⟨Nat.le_of_ble_eq_true rfl, fun X h => ?_⟩
  have hns : ns ≤ 4 := hV.1.2
  have hnt : nt ≤ 12 := hV.2.2.1.2
  have ej : (nI j).toNatClampNeg = j := nI_clamp (by omega)
  obtain ⟨hlt, how⟩ := owA_at hV hj
  have how' : mm.1 54 0 (44 + 3 * (nI j).toNatClampNeg) = nI (owA (mm.1 54 0) j) := by rw [ej]; exact how
  have eo : (nI (owA (mm.1 54 0) j)).toNatClampNeg = owA (mm.1 54 0) j := nI_clamp (by omega)
  have eF : Fn_X12_mayGive mm [vR 12 0, vI (nI j)] = (some (vI (bI (mgA (mm.1 54 0) j))), mm) := by
    simp only [Fn_X12_mayGive, ej]
  rw [eF] at h
  refine h (fun i => Nat.beq i 4) 3000 0 _ _ _ ?_
  refine And.intro ⟨j, by omega, rfl⟩ ?_
  show X 4 [some (vR 12 0), some (vI (nI j)), some (vI (mm.1 54 0 (44 + 3 * (nI j).toNatClampNeg)))] [] mm
  rw [how']
  refine h (fun _ => false) 3000 4 _ _ _ ?_
  repeat' (first | refine And.intro (by (first | exact rfl | exact Or.inl rfl | exact Or.inr rfl | exact bI_in | exact inb_o 3060 rfl rfl (by (try simp (disch := omega) only [li, pk_mul, nI_add, nI_clamp]); rfl) (by omega) | exact inb_o 12 rfl rfl (by (try simp (disch := omega) only [li, pk_mul, nI_add, nI_clamp]); rfl) (by omega) | exact inb_o 4 rfl rfl (by (try simp (disch := omega) only [li, pk_mul, nI_add, nI_clamp]); rfl) (by omega) | exact inb_o 5 rfl rfl (by (try simp (disch := omega) only [li, pk_mul, nI_add, nI_clamp]); rfl) (by omega) | exact inb_o 16 rfl rfl (by (try simp (disch := omega) only [li, pk_mul, nI_add, nI_clamp]); rfl) (by omega) | exact inb_o 20 rfl rfl (by (try simp (disch := omega) only [li, pk_mul, nI_add, nI_clamp]); rfl) (by omega) | exact inb_o 30 rfl rfl (by (try simp (disch := omega) only [li, pk_mul, nI_add, nI_clamp]); rfl) (by omega) | exact inb_o 48 rfl rfl (by (try simp (disch := omega) only [li, pk_mul, nI_add, nI_clamp]); rfl) (by omega) | exact inb_o 60 rfl rfl (by (try simp (disch := omega) only [li, pk_mul, nI_add, nI_clamp]); rfl) (by omega) | exact inb_o 80 rfl rfl (by (try simp (disch := omega) only [li, pk_mul, nI_add, nI_clamp]); rfl) (by omega) | exact inb_o 120 rfl rfl (by (try simp (disch := omega) only [li, pk_mul, nI_add, nI_clamp]); rfl) (by omega) | exact inb_o 240 rfl rfl (by (try simp (disch := omega) only [li, pk_mul, nI_add, nI_clamp]); rfl) (by omega) | exact inb_o 900 rfl rfl (by (try simp (disch := omega) only [li, pk_mul, nI_add, nI_clamp]); rfl) (by omega) | exact inb_o 4096 rfl rfl (by (try simp (disch := omega) only [li, pk_mul, nI_add, nI_clamp]); rfl) (by omega) | exact inb_o 3 rfl rfl (by (try simp (disch := omega) only [li, pk_mul, nI_add, nI_clamp]); rfl) (by omega))) ?_ | refine br_t (by ((try simp (disch := omega) only [li, pk_mul, nI_add, nI_clamp, nI_leI, nI_ltI, nI_eq, bI_0, bI_n0, Decidable.not_not, gu_m1]); first | done | omega | assumption)) ?_ | refine br_f (by ((try simp (disch := omega) only [li, pk_mul, nI_add, nI_clamp, nI_leI, nI_ltI, nI_eq, bI_0, bI_n0, Decidable.not_not, gu_m1]); first | done | omega | assumption)) ?_ | refine brn_t (by ((try simp (disch := omega) only [li, pk_mul, nI_add, nI_clamp, nI_leI, nI_ltI, nI_eq, bI_0, bI_n0, Decidable.not_not, gu_m1]); first | done | omega | assumption)) ?_ | refine brn_f (by ((try simp (disch := omega) only [li, pk_mul, nI_add, nI_clamp, nI_leI, nI_ltI, nI_eq, bI_0, bI_n0, Decidable.not_not, gu_m1]); first | done | omega | assumption)) ?_ | refine br_c (fun _ => ?_) (fun _ => ?_) | refine brn_c (fun _ => ?_) (fun _ => ?_))
  refine And.intro ⟨_, _, rfl⟩ ?_
  refine brn_c (fun h1 => ?_) (fun h1 => ?_)
  · replace h1 := bI_n0.mp h1
    repeat' (first | refine And.intro (by (first | exact rfl | exact Or.inl rfl | exact Or.inr rfl | exact bI_in | exact inb_o 3060 rfl rfl (by (try simp (disch := omega) only [li, pk_mul, nI_add, nI_clamp]); rfl) (by omega) | exact inb_o 12 rfl rfl (by (try simp (disch := omega) only [li, pk_mul, nI_add, nI_clamp]); rfl) (by omega) | exact inb_o 4 rfl rfl (by (try simp (disch := omega) only [li, pk_mul, nI_add, nI_clamp]); rfl) (by omega) | exact inb_o 5 rfl rfl (by (try simp (disch := omega) only [li, pk_mul, nI_add, nI_clamp]); rfl) (by omega) | exact inb_o 16 rfl rfl (by (try simp (disch := omega) only [li, pk_mul, nI_add, nI_clamp]); rfl) (by omega) | exact inb_o 20 rfl rfl (by (try simp (disch := omega) only [li, pk_mul, nI_add, nI_clamp]); rfl) (by omega) | exact inb_o 30 rfl rfl (by (try simp (disch := omega) only [li, pk_mul, nI_add, nI_clamp]); rfl) (by omega) | exact inb_o 48 rfl rfl (by (try simp (disch := omega) only [li, pk_mul, nI_add, nI_clamp]); rfl) (by omega) | exact inb_o 60 rfl rfl (by (try simp (disch := omega) only [li, pk_mul, nI_add, nI_clamp]); rfl) (by omega) | exact inb_o 80 rfl rfl (by (try simp (disch := omega) only [li, pk_mul, nI_add, nI_clamp]); rfl) (by omega) | exact inb_o 120 rfl rfl (by (try simp (disch := omega) only [li, pk_mul, nI_add, nI_clamp]); rfl) (by omega) | exact inb_o 240 rfl rfl (by (try simp (disch := omega) only [li, pk_mul, nI_add, nI_clamp]); rfl) (by omega) | exact inb_o 900 rfl rfl (by (try simp (disch := omega) only [li, pk_mul, nI_add, nI_clamp]); rfl) (by omega) | exact inb_o 4096 rfl rfl (by (try simp (disch := omega) only [li, pk_mul, nI_add, nI_clamp]); rfl) (by omega) | exact inb_o 3 rfl rfl (by (try simp (disch := omega) only [li, pk_mul, nI_add, nI_clamp]); rfl) (by omega))) ?_ | refine br_t (by ((try simp (disch := omega) only [li, pk_mul, nI_add, nI_clamp, nI_leI, nI_ltI, nI_eq, bI_0, bI_n0, Decidable.not_not, gu_m1]); first | done | omega | assumption)) ?_ | refine br_f (by ((try simp (disch := omega) only [li, pk_mul, nI_add, nI_clamp, nI_leI, nI_ltI, nI_eq, bI_0, bI_n0, Decidable.not_not, gu_m1]); first | done | omega | assumption)) ?_ | refine brn_t (by ((try simp (disch := omega) only [li, pk_mul, nI_add, nI_clamp, nI_leI, nI_ltI, nI_eq, bI_0, bI_n0, Decidable.not_not, gu_m1]); first | done | omega | assumption)) ?_ | refine brn_f (by ((try simp (disch := omega) only [li, pk_mul, nI_add, nI_clamp, nI_leI, nI_ltI, nI_eq, bI_0, bI_n0, Decidable.not_not, gu_m1]); first | done | omega | assumption)) ?_ | refine br_c (fun _ => ?_) (fun _ => ?_) | refine brn_c (fun _ => ?_) (fun _ => ?_))
    exact ret_f (fun z => z.1 h1)
  replace h1 := bI_0.mp h1
  refine And.intro ⟨_, by omega, rfl⟩ ?_
  refine brn_c (fun h2 => ?_) (fun h2 => ?_)
  · replace h2 := bI_n0.mp h2
    rw [eo] at h2
    repeat' (first | refine And.intro (by (first | exact rfl | exact Or.inl rfl | exact Or.inr rfl | exact bI_in | exact inb_o 3060 rfl rfl (by (try simp (disch := omega) only [li, pk_mul, nI_add, nI_clamp]); rfl) (by omega) | exact inb_o 12 rfl rfl (by (try simp (disch := omega) only [li, pk_mul, nI_add, nI_clamp]); rfl) (by omega) | exact inb_o 4 rfl rfl (by (try simp (disch := omega) only [li, pk_mul, nI_add, nI_clamp]); rfl) (by omega) | exact inb_o 5 rfl rfl (by (try simp (disch := omega) only [li, pk_mul, nI_add, nI_clamp]); rfl) (by omega) | exact inb_o 16 rfl rfl (by (try simp (disch := omega) only [li, pk_mul, nI_add, nI_clamp]); rfl) (by omega) | exact inb_o 20 rfl rfl (by (try simp (disch := omega) only [li, pk_mul, nI_add, nI_clamp]); rfl) (by omega) | exact inb_o 30 rfl rfl (by (try simp (disch := omega) only [li, pk_mul, nI_add, nI_clamp]); rfl) (by omega) | exact inb_o 48 rfl rfl (by (try simp (disch := omega) only [li, pk_mul, nI_add, nI_clamp]); rfl) (by omega) | exact inb_o 60 rfl rfl (by (try simp (disch := omega) only [li, pk_mul, nI_add, nI_clamp]); rfl) (by omega) | exact inb_o 80 rfl rfl (by (try simp (disch := omega) only [li, pk_mul, nI_add, nI_clamp]); rfl) (by omega) | exact inb_o 120 rfl rfl (by (try simp (disch := omega) only [li, pk_mul, nI_add, nI_clamp]); rfl) (by omega) | exact inb_o 240 rfl rfl (by (try simp (disch := omega) only [li, pk_mul, nI_add, nI_clamp]); rfl) (by omega) | exact inb_o 900 rfl rfl (by (try simp (disch := omega) only [li, pk_mul, nI_add, nI_clamp]); rfl) (by omega) | exact inb_o 4096 rfl rfl (by (try simp (disch := omega) only [li, pk_mul, nI_add, nI_clamp]); rfl) (by omega) | exact inb_o 3 rfl rfl (by (try simp (disch := omega) only [li, pk_mul, nI_add, nI_clamp]); rfl) (by omega))) ?_ | refine br_t (by ((try simp (disch := omega) only [li, pk_mul, nI_add, nI_clamp, nI_leI, nI_ltI, nI_eq, bI_0, bI_n0, Decidable.not_not, gu_m1]); first | done | omega | assumption)) ?_ | refine br_f (by ((try simp (disch := omega) only [li, pk_mul, nI_add, nI_clamp, nI_leI, nI_ltI, nI_eq, bI_0, bI_n0, Decidable.not_not, gu_m1]); first | done | omega | assumption)) ?_ | refine brn_t (by ((try simp (disch := omega) only [li, pk_mul, nI_add, nI_clamp, nI_leI, nI_ltI, nI_eq, bI_0, bI_n0, Decidable.not_not, gu_m1]); first | done | omega | assumption)) ?_ | refine brn_f (by ((try simp (disch := omega) only [li, pk_mul, nI_add, nI_clamp, nI_leI, nI_ltI, nI_eq, bI_0, bI_n0, Decidable.not_not, gu_m1]); first | done | omega | assumption)) ?_ | refine br_c (fun _ => ?_) (fun _ => ?_) | refine brn_c (fun _ => ?_) (fun _ => ?_))
    exact ret_f (fun z => h2 z.2.1)
  replace h2 := bI_0.mp h2
  rw [eo, Decidable.not_not] at h2
  refine And.intro ⟨j, by omega, rfl⟩ ?_
  repeat' (first | refine And.intro (by (first | exact rfl | exact Or.inl rfl | exact Or.inr rfl | exact bI_in | exact inb_o 3060 rfl rfl (by (try simp (disch := omega) only [li, pk_mul, nI_add, nI_clamp]); rfl) (by omega) | exact inb_o 12 rfl rfl (by (try simp (disch := omega) only [li, pk_mul, nI_add, nI_clamp]); rfl) (by omega) | exact inb_o 4 rfl rfl (by (try simp (disch := omega) only [li, pk_mul, nI_add, nI_clamp]); rfl) (by omega) | exact inb_o 5 rfl rfl (by (try simp (disch := omega) only [li, pk_mul, nI_add, nI_clamp]); rfl) (by omega) | exact inb_o 16 rfl rfl (by (try simp (disch := omega) only [li, pk_mul, nI_add, nI_clamp]); rfl) (by omega) | exact inb_o 20 rfl rfl (by (try simp (disch := omega) only [li, pk_mul, nI_add, nI_clamp]); rfl) (by omega) | exact inb_o 30 rfl rfl (by (try simp (disch := omega) only [li, pk_mul, nI_add, nI_clamp]); rfl) (by omega) | exact inb_o 48 rfl rfl (by (try simp (disch := omega) only [li, pk_mul, nI_add, nI_clamp]); rfl) (by omega) | exact inb_o 60 rfl rfl (by (try simp (disch := omega) only [li, pk_mul, nI_add, nI_clamp]); rfl) (by omega) | exact inb_o 80 rfl rfl (by (try simp (disch := omega) only [li, pk_mul, nI_add, nI_clamp]); rfl) (by omega) | exact inb_o 120 rfl rfl (by (try simp (disch := omega) only [li, pk_mul, nI_add, nI_clamp]); rfl) (by omega) | exact inb_o 240 rfl rfl (by (try simp (disch := omega) only [li, pk_mul, nI_add, nI_clamp]); rfl) (by omega) | exact inb_o 900 rfl rfl (by (try simp (disch := omega) only [li, pk_mul, nI_add, nI_clamp]); rfl) (by omega) | exact inb_o 4096 rfl rfl (by (try simp (disch := omega) only [li, pk_mul, nI_add, nI_clamp]); rfl) (by omega) | exact inb_o 3 rfl rfl (by (try simp (disch := omega) only [li, pk_mul, nI_add, nI_clamp]); rfl) (by omega))) ?_ | refine br_t (by ((try simp (disch := omega) only [li, pk_mul, nI_add, nI_clamp, nI_leI, nI_ltI, nI_eq, bI_0, bI_n0, Decidable.not_not, gu_m1]); first | done | omega | assumption)) ?_ | refine br_f (by ((try simp (disch := omega) only [li, pk_mul, nI_add, nI_clamp, nI_leI, nI_ltI, nI_eq, bI_0, bI_n0, Decidable.not_not, gu_m1]); first | done | omega | assumption)) ?_ | refine brn_t (by ((try simp (disch := omega) only [li, pk_mul, nI_add, nI_clamp, nI_leI, nI_ltI, nI_eq, bI_0, bI_n0, Decidable.not_not, gu_m1]); first | done | omega | assumption)) ?_ | refine brn_f (by ((try simp (disch := omega) only [li, pk_mul, nI_add, nI_clamp, nI_leI, nI_ltI, nI_eq, bI_0, bI_n0, Decidable.not_not, gu_m1]); first | done | omega | assumption)) ?_ | refine br_c (fun _ => ?_) (fun _ => ?_) | refine brn_c (fun _ => ?_) (fun _ => ?_))
  · rename_i h3
    have h3' : ¬ mm.1 54 0 (46 + 3 * (nI j).toNatClampNeg) &&& (mm.1 54 0 8 ^^^ -1) = 0 := h3
    rw [ej] at h3'
    exact ret_f (fun z => h3' z.2.2.1)
  rename_i h3
  have h3' : mm.1 54 0 (46 + 3 * (nI j).toNatClampNeg) &&& (mm.1 54 0 8 ^^^ -1) = 0 := h3
  rw [ej] at h3'
  refine And.intro ⟨_, rfl⟩ ?_
  have e2 : (12 + 4 * nI (owA (mm.1 54 0) j) + 2).toNatClampNeg = 14 + 4 * owA (mm.1 54 0) j := by simp (disch := omega) only [li, pk_mul, nI_add, nI_clamp]; omega
  repeat' (first | refine And.intro (by (first | exact rfl | exact Or.inl rfl | exact Or.inr rfl | exact bI_in | exact inb_o 3060 rfl rfl (by (try simp (disch := omega) only [li, pk_mul, nI_add, nI_clamp]); rfl) (by omega) | exact inb_o 12 rfl rfl (by (try simp (disch := omega) only [li, pk_mul, nI_add, nI_clamp]); rfl) (by omega) | exact inb_o 4 rfl rfl (by (try simp (disch := omega) only [li, pk_mul, nI_add, nI_clamp]); rfl) (by omega) | exact inb_o 5 rfl rfl (by (try simp (disch := omega) only [li, pk_mul, nI_add, nI_clamp]); rfl) (by omega) | exact inb_o 16 rfl rfl (by (try simp (disch := omega) only [li, pk_mul, nI_add, nI_clamp]); rfl) (by omega) | exact inb_o 20 rfl rfl (by (try simp (disch := omega) only [li, pk_mul, nI_add, nI_clamp]); rfl) (by omega) | exact inb_o 30 rfl rfl (by (try simp (disch := omega) only [li, pk_mul, nI_add, nI_clamp]); rfl) (by omega) | exact inb_o 48 rfl rfl (by (try simp (disch := omega) only [li, pk_mul, nI_add, nI_clamp]); rfl) (by omega) | exact inb_o 60 rfl rfl (by (try simp (disch := omega) only [li, pk_mul, nI_add, nI_clamp]); rfl) (by omega) | exact inb_o 80 rfl rfl (by (try simp (disch := omega) only [li, pk_mul, nI_add, nI_clamp]); rfl) (by omega) | exact inb_o 120 rfl rfl (by (try simp (disch := omega) only [li, pk_mul, nI_add, nI_clamp]); rfl) (by omega) | exact inb_o 240 rfl rfl (by (try simp (disch := omega) only [li, pk_mul, nI_add, nI_clamp]); rfl) (by omega) | exact inb_o 900 rfl rfl (by (try simp (disch := omega) only [li, pk_mul, nI_add, nI_clamp]); rfl) (by omega) | exact inb_o 4096 rfl rfl (by (try simp (disch := omega) only [li, pk_mul, nI_add, nI_clamp]); rfl) (by omega) | exact inb_o 3 rfl rfl (by (try simp (disch := omega) only [li, pk_mul, nI_add, nI_clamp]); rfl) (by omega))) ?_ | refine br_t (by ((try simp (disch := omega) only [li, pk_mul, nI_add, nI_clamp, nI_leI, nI_ltI, nI_eq, bI_0, bI_n0, Decidable.not_not, gu_m1]); first | done | omega | assumption)) ?_ | refine br_f (by ((try simp (disch := omega) only [li, pk_mul, nI_add, nI_clamp, nI_leI, nI_ltI, nI_eq, bI_0, bI_n0, Decidable.not_not, gu_m1]); first | done | omega | assumption)) ?_ | refine brn_t (by ((try simp (disch := omega) only [li, pk_mul, nI_add, nI_clamp, nI_leI, nI_ltI, nI_eq, bI_0, bI_n0, Decidable.not_not, gu_m1]); first | done | omega | assumption)) ?_ | refine brn_f (by ((try simp (disch := omega) only [li, pk_mul, nI_add, nI_clamp, nI_leI, nI_ltI, nI_eq, bI_0, bI_n0, Decidable.not_not, gu_m1]); first | done | omega | assumption)) ?_ | refine br_c (fun _ => ?_) (fun _ => ?_) | refine brn_c (fun _ => ?_) (fun _ => ?_))
  · rename_i h4
    have h4' : mm.1 54 0 4 ≤ mm.1 54 0 (12 + 4 * nI (owA (mm.1 54 0) j) + 2).toNatClampNeg := h4
    rw [e2] at h4'
    exact ret_f (fun z => z.2.2.2 h4')
  · rename_i h4
    have h4' : ¬ mm.1 54 0 4 ≤ mm.1 54 0 (12 + 4 * nI (owA (mm.1 54 0) j) + 2).toNatClampNeg := h4
    rw [e2] at h4'
    exact ret_t ⟨h1, h2, h3', h4'⟩
theorem con_X12_mayGive (l : Launch) : CON l y_X12_mayGive prog_14_method_82_code 3 (some .boolean) rm_X12_mayGive Pre_X12_mayGive Fn_X12_mayGive := CON_of (by decide) rfl rfl (sa_X12_mayGive l) vc_X12_mayGive
/-- what giving, feigning does: the set, the count of the WEEK -/
def putA (m : MM) (how j : Nat) : MM :=
  mI (mI m 54 0 how (m.1 54 0 how ||| 1 <<< (nI j &&& 31))) 54 0 (14 + 4 * owA (m.1 54 0) j) (m.1 54 0 (14 + 4 * owA (m.1 54 0) j) + 1)
def mite (p : Prop) [Decidable p] (a b : MM) : MM := if p then a else b
theorem mite_t {p : Prop} [Decidable p] {a b : MM} (h : p) : mite p a b = a := if_pos h
theorem mite_f {p : Prop} [Decidable p] {a b : MM} (h : ¬ p) : mite p a b = b := if_neg h
theorem rit_t {p : Prop} [Decidable p] {a b : MM} (h : p) : ((some (Sum.inl 1) : Option MV), a) = (some (vI (bI p)), mite p a b) := by rw [bI_t h, mite_t h]
theorem rit_f {p : Prop} [Decidable p] {a b : MM} (h : ¬ p) : ((some (Sum.inl 0) : Option MV), b) = (some (vI (bI p)), mite p a b) := by rw [bI_f h, mite_f h]
theorem upd_ne {f : Nat → Int32} {k j : Nat} {x : Int32} (h : j ≠ k) : upd f k x j = f j := if_neg h
theorem upd_eq {f : Nat → Int32} {k : Nat} {x : Int32} : upd f k x k = x := if_pos rfl

def Pre_X12_parts : PreT := fun m as => ∃ (ns nm nt j : Nat) (how : Nat), VMx m ns nm nt ∧ j < nt ∧ (how = 8 ∨ how = 9) ∧ as = [vR 12 0, vI (nI j), vI (nI how)]
def Fn_X12_parts : FnT := fun m as => match as with
  | [_, Sum.inl j, Sum.inl how] => (some (vI (bI (mgA (m.1 54 0) j.toNatClampNeg))), mite (mgA (m.1 54 0) j.toNatClampNeg) (putA m how.toNatClampNeg j.toNatClampNeg) m)
  | _ => (none, m)
abbrev y_X12_parts : MethodName := ⟨"GivenUpModel", "parts", "(II)Z"⟩
def P_X12_parts : List StpT := [s_aload 0, s_iload 1, s_callV 12 1 Pre_X12_mayGive Fn_X12_mayGive, s_ifne 6, s_ic (0), s_zret, s_aload 0, s_getR 12 0 54, s_iload 2, s_dup2, s_iald, s_ic (1), s_iload 1, s_ishl, s_ior, s_iast, s_aload 0, s_getR 12 0 54, s_aload 0, s_iload 1, s_callV 12 1 Pre_X12_ownerOf Fn_X12_ownerOf, s_callS 1 Pre_X12_suitorRow Fn_X12_suitorRow, s_ic (2), s_iadd, s_dup2, s_iald, s_ic (1), s_iadd, s_iast, s_ic (1), s_zret]
def pc_X12_parts : Nat → Nat := fun i => [0, 1, 2, 5, 8, 9, 10, 11, 14, 15, 16, 17, 18, 19, 20, 21, 22, 23, 26, 27, 28, 31, 34, 35, 36, 37, 38, 39, 40, 41, 42].getD i 0
def dl_X12_parts : List (Nat × Instr × Nat) := [(0, .aload_n 0, 1), (1, .iload_n 1, 1), (2, .invokevirtual 325, 3), (5, .ifCond .ne 5, 3), (8, .iconst 0, 1), (9, .ireturn, 1), (10, .aload_n 0, 1), (11, .getfield 7, 3), (14, .iload_n 2, 1), (15, .dup2, 1), (16, .iaload, 1), (17, .iconst 1, 1), (18, .iload_n 1, 1), (19, .ishl, 1), (20, .ior, 1), (21, .iastore, 1), (22, .aload_n 0, 1), (23, .getfield 7, 3), (26, .aload_n 0, 1), (27, .iload_n 1, 1), (28, .invokevirtual 274, 3), (31, .invokestatic 289, 3), (34, .iconst 2, 1), (35, .iadd, 1), (36, .dup2, 1), (37, .iaload, 1), (38, .iconst 1, 1), (39, .iadd, 1), (40, .iastore, 1), (41, .iconst 1, 1), (42, .ireturn, 1)]
theorem dc_X12_parts : DEC prog_14_method_83_code pc_X12_parts dl_X12_parts := DEC_of (by decide +kernel)
abbrev rm_X12_parts : Room := { frames := 3, cells := 0, slots := 0, locals := 63 }
set_option maxRecDepth 20000 in
theorem sa_X12_parts (l : Launch) : SNDALL l prog_14_method_83_code "GivenUpModel" 3 (some .boolean) rm_X12_parts P_X12_parts pc_X12_parts := fun p e s m args below meth c cells slots Q D dA ad A RR hC hR => by
  have hM := RTX_room (R := rm_X12_parts) hR
  exact ⟨st_aload_n hC (n := 0) (k := 0) (dc_X12_parts 0 (0, .aload_n 0, 1) rfl rfl) rfl rfl,
    st_iload_n hC (n := 1) (k := 1) (dc_X12_parts 1 (1, .iload_n 1, 1) rfl rfl) rfl rfl,
    st_callV hC (n := 2) (k := 12) (na := 1) (con_X12_mayGive l) (dc_X12_parts 2 (2, .invokevirtual 325, 3) rfl rfl) rfl wd_1981 wd_160 (by decide) ⟨rfl, rfl, by decide, by decide⟩ hM wd_1978 wd_1980 wd_101 clf_12,
    st_ifne hC (n := 3) (dc_X12_parts 3 (5, .ifCond .ne 5, 3) rfl rfl) rfl (by decide),
    st_iconst hC (n := 4) (x := 0) (dc_X12_parts 4 (8, .iconst 0, 1) rfl rfl) rfl (by decide),
    st_zret hC (n := 5) hR (dc_X12_parts 5 (9, .ireturn, 1) rfl rfl),
    st_aload_n hC (n := 6) (k := 0) (dc_X12_parts 6 (10, .aload_n 0, 1) rfl rfl) rfl rfl,
    st_getR hC (n := 7) (k := 12) (j := 0) (dc_X12_parts 7 (11, .getfield 7, 3) rfl rfl) rfl clf_12 (by decide) rfl (by decide) wd_1552,
    st_iload_n hC (n := 8) (k := 2) (dc_X12_parts 8 (14, .iload_n 2, 1) rfl rfl) rfl rfl,
    st_dup2 hC (n := 9) (dc_X12_parts 9 (15, .dup2, 1) rfl rfl) rfl,
    st_iald hC (n := 10) (dc_X12_parts 10 (16, .iaload, 1) rfl rfl) rfl,
    st_iconst hC (n := 11) (x := 1) (dc_X12_parts 11 (17, .iconst 1, 1) rfl rfl) rfl (by decide),
    st_iload_n hC (n := 12) (k := 1) (dc_X12_parts 12 (18, .iload_n 1, 1) rfl rfl) rfl rfl,
    st_ishl hC (n := 13) (dc_X12_parts 13 (19, .ishl, 1) rfl rfl) rfl,
    st_ior hC (n := 14) (dc_X12_parts 14 (20, .ior, 1) rfl rfl) rfl,
    st_iast hC (n := 15) (dc_X12_parts 15 (21, .iastore, 1) rfl rfl) rfl,
    st_aload_n hC (n := 16) (k := 0) (dc_X12_parts 16 (22, .aload_n 0, 1) rfl rfl) rfl rfl,
    st_getR hC (n := 17) (k := 12) (j := 0) (dc_X12_parts 17 (23, .getfield 7, 3) rfl rfl) rfl clf_12 (by decide) rfl (by decide) wd_1552,
    st_aload_n hC (n := 18) (k := 0) (dc_X12_parts 18 (26, .aload_n 0, 1) rfl rfl) rfl rfl,
    st_iload_n hC (n := 19) (k := 1) (dc_X12_parts 19 (27, .iload_n 1, 1) rfl rfl) rfl rfl,
    st_callV hC (n := 20) (k := 12) (na := 1) (con_X12_ownerOf l) (dc_X12_parts 20 (28, .invokevirtual 274, 3) rfl rfl) rfl wd_1896 wd_160 (by decide) ⟨rfl, rfl, by decide, by decide⟩ hM wd_1893 wd_1895 wd_87 clf_12,
    st_callS hC (n := 21) (na := 1) (con_X12_suitorRow l) (dc_X12_parts 21 (31, .invokestatic 289, 3) rfl rfl) rfl wd_1888 wd_160 (by decide) ⟨rfl, rfl, by decide, by decide⟩ hM wd_1886 wd_1887,
    st_iconst hC (n := 22) (x := 2) (dc_X12_parts 22 (34, .iconst 2, 1) rfl rfl) rfl (by decide),
    st_iadd hC (n := 23) (dc_X12_parts 23 (35, .iadd, 1) rfl rfl) rfl,
    st_dup2 hC (n := 24) (dc_X12_parts 24 (36, .dup2, 1) rfl rfl) rfl,
    st_iald hC (n := 25) (dc_X12_parts 25 (37, .iaload, 1) rfl rfl) rfl,
    st_iconst hC (n := 26) (x := 1) (dc_X12_parts 26 (38, .iconst 1, 1) rfl rfl) rfl (by decide),
    st_iadd hC (n := 27) (dc_X12_parts 27 (39, .iadd, 1) rfl rfl) rfl,
    st_iast hC (n := 28) (dc_X12_parts 28 (40, .iastore, 1) rfl rfl) rfl,
    st_iconst hC (n := 29) (x := 1) (dc_X12_parts 29 (41, .iconst 1, 1) rfl rfl) rfl (by decide),
    st_zret hC (n := 30) hR (dc_X12_parts 30 (42, .ireturn, 1) rfl rfl), trivial⟩
theorem vc_X12_parts : VC P_X12_parts 3 Pre_X12_parts Fn_X12_parts := by
  rintro mm as hom hoa ⟨ns, nm, nt, j, how, hV, hj, hhow, rfl⟩
  refine ⟨Nat.le_of_ble_eq_true rfl, fun X h => ?_⟩
  have hns : ns ≤ 4 := hV.1.2
  have hnt : nt ≤ 12 := hV.2.2.1.2
  have ej : (nI j).toNatClampNeg = j := nI_clamp (by omega)
  have eh : (nI how).toNatClampNeg = how := nI_clamp (by omega)
  obtain ⟨hlt, hown⟩ := owA_at hV hj
  have eF : Fn_X12_parts mm [vR 12 0, vI (nI j), vI (nI how)] = (some (vI (bI (mgA (mm.1 54 0) j))), mite (mgA (mm.1 54 0) j) (putA mm how j) mm) := by
    simp only [Fn_X12_parts, ej, eh]
  rw [eF] at h
  refine h (fun i => Nat.beq i 6) 3000 0 _ _ _ ?_
  refine And.intro ⟨ns, nm, nt, j, hV, hj, rfl⟩ ?_
  refine brn_c (fun h1 => ?_) (fun h1 => ?_)
  · have h1' := bI_n0.mp h1
    rw [ej] at h1'
    show X 6 [some (vR 12 0), some (vI (nI j)), some (vI (nI how))] [] mm
    refine h (fun i => Nat.beq i 16) 3000 6 _ _ _ ?_
    have ih : inb (nI how) (alen 54) = true := inb_o 3060 rfl rfl rfl (by omega)
    refine And.intro ih ?_
    refine And.intro ih ?_
    show X 16 [some (vR 12 0), some (vI (nI j)), some (vI (nI how))] [] (mI mm 54 0 (nI how).toNatClampNeg (mm.1 54 0 (nI how).toNatClampNeg ||| 1 <<< (nI j &&& 31)))
    rw [eh]
    refine h (fun i => Nat.beq i 21) 3000 16 _ _ _ ?_
    refine And.intro ⟨j, by omega, rfl⟩ ?_
    have e3 : (mI mm 54 0 how (mm.1 54 0 how ||| 1 <<< (nI j &&& 31))).1 54 0 (44 + 3 * (nI j).toNatClampNeg) = nI (owA (mm.1 54 0) j) := by
      rw [ej]
      show upd _ _ _ _ = _
      rw [upd_ne (by omega)]
      exact hown
    show X 21 [some (vR 12 0), some (vI (nI j)), some (vI (nI how))] [vI ((mI mm 54 0 how (mm.1 54 0 how ||| 1 <<< (nI j &&& 31))).1 54 0 (44 + 3 * (nI j).toNatClampNeg)), vR 54 0] (mI mm 54 0 how (mm.1 54 0 how ||| 1 <<< (nI j &&& 31)))
    rw [e3]
    refine h (fun _ => false) 3000 21 _ _ _ ?_
    refine And.intro ⟨_, rfl⟩ ?_
    have e2 : (12 + 4 * nI (owA (mm.1 54 0) j) + 2).toNatClampNeg = 14 + 4 * owA (mm.1 54 0) j := by simp (disch := omega) only [li, pk_mul, nI_add, nI_clamp]; omega
    have ib : inb (12 + 4 * nI (owA (mm.1 54 0) j) + 2) (alen 54) = true := inb_o 3060 rfl rfl (by simp (disch := omega) only [li, pk_mul, nI_add, nI_clamp]; rfl) (by omega)
    refine And.intro ib ?_
    refine And.intro ib ?_
    refine And.intro (Or.inr rfl) ?_
    refine Eq.trans ?_ (rit_t h1')
    refine Prod.ext rfl ?_
    show mI (mI mm 54 0 how _) 54 0 (12 + 4 * nI (owA (mm.1 54 0) j) + 2).toNatClampNeg (upd _ _ _ (12 + 4 * nI (owA (mm.1 54 0) j) + 2).toNatClampNeg + 1) = _
    rw [e2, upd_ne (by omega)]
    rfl
  · have h1' := bI_0.mp h1
    rw [ej] at h1'
    refine And.intro (Or.inl rfl) ?_
    exact rit_f h1'
theorem con_X12_parts (l : Launch) : CON l y_X12_parts prog_14_method_83_code 3 (some .boolean) rm_X12_parts Pre_X12_parts Fn_X12_parts := CON_of (by decide) rfl rfl (sa_X12_parts l) vc_X12_parts
def Pre_X12_feignedBy : PreT := fun m as => VM m ∧ ∃ (s : Int32) (n : Nat), n < 4096 ∧ thA (m.1 54 0) s &&& m.1 54 0 9 = nI n ∧ as = [vR 12 0, vI s]
def Fn_X12_feignedBy : FnT := fun m as => match as with
  | [_, Sum.inl s] => (some (vI (nI (pcN (thA (m.1 54 0) s &&& m.1 54 0 9).toNatClampNeg))), m)
  | _ => (none, m)
abbrev y_X12_feignedBy : MethodName := ⟨"GivenUpModel", "feignedBy", "(I)I"⟩
def P_X12_feignedBy : List StpT := [s_aload 0, s_iload 1, s_callV 12 1 Pre_X12_thingsOf Fn_X12_thingsOf, s_aload 0, s_getR 12 0 54, s_ic (9), s_iald, s_iand, s_callS 1 Pre_X12_bits Fn_X12_bits, s_iret]
def pc_X12_feignedBy : Nat → Nat := fun i => [0, 1, 2, 5, 6, 9, 11, 12, 13, 16].getD i 0
def dl_X12_feignedBy : List (Nat × Instr × Nat) := [(0, .aload_n 0, 1), (1, .iload_n 1, 1), (2, .invokevirtual 280, 3), (5, .aload_n 0, 1), (6, .getfield 7, 3), (9, .bipush 9, 2), (11, .iaload, 1), (12, .iand, 1), (13, .invokestatic 331, 3), (16, .ireturn, 1)]
theorem dc_X12_feignedBy : DEC prog_14_method_85_code pc_X12_feignedBy dl_X12_feignedBy := DEC_of (by decide +kernel)
abbrev rm_X12_feignedBy : Room := { frames := 3, cells := 0, slots := 0, locals := 64 }
set_option maxRecDepth 20000 in
theorem sa_X12_feignedBy (l : Launch) : SNDALL l prog_14_method_85_code "GivenUpModel" 2 (some .int) rm_X12_feignedBy P_X12_feignedBy pc_X12_feignedBy := fun p e s m args below meth c cells slots Q D dA ad A RR hC hR => by
  have hM := RTX_room (R := rm_X12_feignedBy) hR
  exact ⟨st_aload_n hC (n := 0) (k := 0) (dc_X12_feignedBy 0 (0, .aload_n 0, 1) rfl rfl) rfl rfl,
    st_iload_n hC (n := 1) (k := 1) (dc_X12_feignedBy 1 (1, .iload_n 1, 1) rfl rfl) rfl rfl,
    st_callV hC (n := 2) (k := 12) (na := 1) (con_X12_thingsOf l) (dc_X12_feignedBy 2 (2, .invokevirtual 280, 3) rfl rfl) rfl wd_1892 wd_160 (by decide) ⟨rfl, rfl, by decide, by decide⟩ hM wd_1889 wd_1891 wd_86 clf_12,
    st_aload_n hC (n := 3) (k := 0) (dc_X12_feignedBy 3 (5, .aload_n 0, 1) rfl rfl) rfl rfl,
    st_getR hC (n := 4) (k := 12) (j := 0) (dc_X12_feignedBy 4 (6, .getfield 7, 3) rfl rfl) rfl clf_12 (by decide) rfl (by decide) wd_1552,
    st_bipush hC (n := 5) (x := 9) (dc_X12_feignedBy 5 (9, .bipush 9, 2) rfl rfl) rfl (by decide),
    st_iald hC (n := 6) (dc_X12_feignedBy 6 (11, .iaload, 1) rfl rfl) rfl,
    st_iand hC (n := 7) (dc_X12_feignedBy 7 (12, .iand, 1) rfl rfl) rfl,
    st_callS hC (n := 8) (na := 1) (con_X12_bits l) (dc_X12_feignedBy 8 (13, .invokestatic 331, 3) rfl rfl) rfl wd_1957 wd_160 (by decide) ⟨rfl, rfl, by decide, by decide⟩ hM wd_1955 wd_1956,
    st_iret hC (n := 9) hR (dc_X12_feignedBy 9 (16, .ireturn, 1) rfl rfl), trivial⟩
theorem vc_X12_feignedBy : VC P_X12_feignedBy 2 Pre_X12_feignedBy Fn_X12_feignedBy := by
  rintro mm as hom hoa ⟨hV, s, n, hn, en, rfl⟩
  refine ⟨Nat.le_of_ble_eq_true rfl, fun X h => ?_⟩
  refine h (fun i => Nat.beq i 8) 3000 0 _ _ _ ?_
  refine And.intro ⟨hV, _, rfl⟩ ?_
  repeat' (first | refine And.intro (by (first | exact rfl | exact Or.inl rfl | exact Or.inr rfl | exact bI_in | exact inb_o 3060 rfl rfl (by (try simp (disch := omega) only [li, pk_mul, nI_add, nI_clamp]); rfl) (by omega) | exact inb_o 12 rfl rfl (by (try simp (disch := omega) only [li, pk_mul, nI_add, nI_clamp]); rfl) (by omega) | exact inb_o 4 rfl rfl (by (try simp (disch := omega) only [li, pk_mul, nI_add, nI_clamp]); rfl) (by omega) | exact inb_o 5 rfl rfl (by (try simp (disch := omega) only [li, pk_mul, nI_add, nI_clamp]); rfl) (by omega) | exact inb_o 16 rfl rfl (by (try simp (disch := omega) only [li, pk_mul, nI_add, nI_clamp]); rfl) (by omega) | exact inb_o 20 rfl rfl (by (try simp (disch := omega) only [li, pk_mul, nI_add, nI_clamp]); rfl) (by omega) | exact inb_o 30 rfl rfl (by (try simp (disch := omega) only [li, pk_mul, nI_add, nI_clamp]); rfl) (by omega) | exact inb_o 48 rfl rfl (by (try simp (disch := omega) only [li, pk_mul, nI_add, nI_clamp]); rfl) (by omega) | exact inb_o 60 rfl rfl (by (try simp (disch := omega) only [li, pk_mul, nI_add, nI_clamp]); rfl) (by omega) | exact inb_o 80 rfl rfl (by (try simp (disch := omega) only [li, pk_mul, nI_add, nI_clamp]); rfl) (by omega) | exact inb_o 120 rfl rfl (by (try simp (disch := omega) only [li, pk_mul, nI_add, nI_clamp]); rfl) (by omega) | exact inb_o 240 rfl rfl (by (try simp (disch := omega) only [li, pk_mul, nI_add, nI_clamp]); rfl) (by omega) | exact inb_o 900 rfl rfl (by (try simp (disch := omega) only [li, pk_mul, nI_add, nI_clamp]); rfl) (by omega) | exact inb_o 4096 rfl rfl (by (try simp (disch := omega) only [li, pk_mul, nI_add, nI_clamp]); rfl) (by omega) | exact inb_o 3 rfl rfl (by (try simp (disch := omega) only [li, pk_mul, nI_add, nI_clamp]); rfl) (by omega))) ?_ | refine br_t (by ((try simp (disch := omega) only [li, pk_mul, nI_add, nI_clamp, nI_leI, nI_ltI, nI_eq, bI_0, bI_n0, Decidable.not_not, gu_m1]); first | done | omega | assumption)) ?_ | refine br_f (by ((try simp (disch := omega) only [li, pk_mul, nI_add, nI_clamp, nI_leI, nI_ltI, nI_eq, bI_0, bI_n0, Decidable.not_not, gu_m1]); first | done | omega | assumption)) ?_ | refine brn_t (by ((try simp (disch := omega) only [li, pk_mul, nI_add, nI_clamp, nI_leI, nI_ltI, nI_eq, bI_0, bI_n0, Decidable.not_not, gu_m1]); first | done | omega | assumption)) ?_ | refine brn_f (by ((try simp (disch := omega) only [li, pk_mul, nI_add, nI_clamp, nI_leI, nI_ltI, nI_eq, bI_0, bI_n0, Decidable.not_not, gu_m1]); first | done | omega | assumption)) ?_ | refine br_c (fun _ => ?_) (fun _ => ?_) | refine brn_c (fun _ => ?_) (fun _ => ?_))
  show X 8 [some (vR 12 0), some (vI s)] [vI (thA (mm.1 54 0) s &&& mm.1 54 0 9)] mm
  rw [en]
  refine h (fun _ => false) 3000 8 _ _ _ ?_
  refine And.intro ⟨n, hn, rfl⟩ ?_
  refine leaf ?_
  simp only [Fn_X12_bits, Fn_X12_feignedBy, en]
theorem con_X12_feignedBy (l : Launch) : CON l y_X12_feignedBy prog_14_method_85_code 2 (some .int) rm_X12_feignedBy Pre_X12_feignedBy Fn_X12_feignedBy := CON_of (by decide) rfl rfl (sa_X12_feignedBy l) vc_X12_feignedBy
def myA (a : Nat → Int32) (s : Int32) : Nat → Int32
  | 0 => 0
  | j + 1 => myA a s j ||| (if a (44 + 3 * j) = s ∧ mgA a j then 1 <<< (nI j &&& 31) else 0)

def Pre_X12_mayOf : PreT := fun m as => VM m ∧ ∃ (s : Int32), as = [vR 12 0, vI s]
def Fn_X12_mayOf : FnT := fun m as => match as with
  | [_, Sum.inl s] => (some (vI (myA (m.1 54 0) s (m.1 54 0 2).toNatClampNeg)), m)
  | _ => (none, m)
abbrev y_X12_mayOf : MethodName := ⟨"GivenUpModel", "mayOf", "(I)I"⟩
def P_X12_mayOf : List StpT := [s_ic (0), s_istore 2, s_ic (0), s_istore 3, s_iload 3, s_aload 0, s_getR 12 0 54, s_ic (2), s_iald, s_icge 29, s_iload 2, s_aload 0, s_iload 3, s_callV 12 1 Pre_X12_ownerOf Fn_X12_ownerOf, s_iload 1, s_icne 24, s_aload 0, s_iload 3, s_callV 12 1 Pre_X12_mayGive Fn_X12_mayGive, s_ifeq 24, s_ic (1), s_iload 3, s_ishl, s_goto 25, s_ic (0), s_ior, s_istore 2, s_iinc 3 (1), s_goto 4, s_iload 2, s_iret]
def pc_X12_mayOf : Nat → Nat := fun i => [0, 1, 2, 3, 4, 5, 6, 9, 10, 11, 14, 15, 16, 17, 20, 21, 24, 25, 26, 29, 32, 33, 34, 35, 38, 39, 40, 41, 44, 47, 48].getD i 0
def dl_X12_mayOf : List (Nat × Instr × Nat) := [(0, .iconst 0, 1), (1, .istore_n 2, 1), (2, .iconst 0, 1), (3, .istore_n 3, 1), (4, .iload_n 3, 1), (5, .aload_n 0, 1), (6, .getfield 7, 3), (9, .iconst 2, 1), (10, .iaload, 1), (11, .if_icmp .ge 36, 3), (14, .iload_n 2, 1), (15, .aload_n 0, 1), (16, .iload_n 3, 1), (17, .invokevirtual 274, 3), (20, .iload_n 1, 1), (21, .if_icmp .ne 17, 3), (24, .aload_n 0, 1), (25, .iload_n 3, 1), (26, .invokevirtual 325, 3), (29, .ifCond .eq 9, 3), (32, .iconst 1, 1), (33, .iload_n 3, 1), (34, .ishl, 1), (35, .goto 4, 3), (38, .iconst 0, 1), (39, .ior, 1), (40, .istore_n 2, 1), (41, .iinc 3 1, 3), (44, .goto (-40), 3), (47, .iload_n 2, 1), (48, .ireturn, 1)]
theorem dc_X12_mayOf : DEC prog_14_method_88_code pc_X12_mayOf dl_X12_mayOf := DEC_of (by decide +kernel)
abbrev rm_X12_mayOf : Room := { frames := 3, cells := 0, slots := 0, locals := 63 }
set_option maxRecDepth 20000 in
theorem sa_X12_mayOf (l : Launch) : SNDALL l prog_14_method_88_code "GivenUpModel" 4 (some .int) rm_X12_mayOf P_X12_mayOf pc_X12_mayOf := fun p e s m args below meth c cells slots Q D dA ad A RR hC hR => by
  have hM := RTX_room (R := rm_X12_mayOf) hR
  exact ⟨st_iconst hC (n := 0) (x := 0) (dc_X12_mayOf 0 (0, .iconst 0, 1) rfl rfl) rfl (by decide),
    st_istore_n hC (n := 1) (k := 2) (dc_X12_mayOf 1 (1, .istore_n 2, 1) rfl rfl) rfl rfl (by decide),
    st_iconst hC (n := 2) (x := 0) (dc_X12_mayOf 2 (2, .iconst 0, 1) rfl rfl) rfl (by decide),
    st_istore_n hC (n := 3) (k := 3) (dc_X12_mayOf 3 (3, .istore_n 3, 1) rfl rfl) rfl rfl (by decide),
    st_iload_n hC (n := 4) (k := 3) (dc_X12_mayOf 4 (4, .iload_n 3, 1) rfl rfl) rfl rfl,
    st_aload_n hC (n := 5) (k := 0) (dc_X12_mayOf 5 (5, .aload_n 0, 1) rfl rfl) rfl rfl,
    st_getR hC (n := 6) (k := 12) (j := 0) (dc_X12_mayOf 6 (6, .getfield 7, 3) rfl rfl) rfl clf_12 (by decide) rfl (by decide) wd_1552,
    st_iconst hC (n := 7) (x := 2) (dc_X12_mayOf 7 (9, .iconst 2, 1) rfl rfl) rfl (by decide),
    st_iald hC (n := 8) (dc_X12_mayOf 8 (10, .iaload, 1) rfl rfl) rfl,
    st_icge hC (n := 9) (dc_X12_mayOf 9 (11, .if_icmp .ge 36, 3) rfl rfl) rfl (by decide),
    st_iload_n hC (n := 10) (k := 2) (dc_X12_mayOf 10 (14, .iload_n 2, 1) rfl rfl) rfl rfl,
    st_aload_n hC (n := 11) (k := 0) (dc_X12_mayOf 11 (15, .aload_n 0, 1) rfl rfl) rfl rfl,
    st_iload_n hC (n := 12) (k := 3) (dc_X12_mayOf 12 (16, .iload_n 3, 1) rfl rfl) rfl rfl,
    st_callV hC (n := 13) (k := 12) (na := 1) (con_X12_ownerOf l) (dc_X12_mayOf 13 (17, .invokevirtual 274, 3) rfl rfl) rfl wd_1896 wd_160 (by decide) ⟨rfl, rfl, by decide, by decide⟩ hM wd_1893 wd_1895 wd_87 clf_12,
    st_iload_n hC (n := 14) (k := 1) (dc_X12_mayOf 14 (20, .iload_n 1, 1) rfl rfl) rfl rfl,
    st_icne hC (n := 15) (dc_X12_mayOf 15 (21, .if_icmp .ne 17, 3) rfl rfl) rfl (by decide),
    st_aload_n hC (n := 16) (k := 0) (dc_X12_mayOf 16 (24, .aload_n 0, 1) rfl rfl) rfl rfl,
    st_iload_n hC (n := 17) (k := 3) (dc_X12_mayOf 17 (25, .iload_n 3, 1) rfl rfl) rfl rfl,
    st_callV hC (n := 18) (k := 12) (na := 1) (con_X12_mayGive l) (dc_X12_mayOf 18 (26, .invokevirtual 325, 3) rfl rfl) rfl wd_1981 wd_160 (by decide) ⟨rfl, rfl, by decide, by decide⟩ hM wd_1978 wd_1980 wd_101 clf_12,
    st_ifeq hC (n := 19) (dc_X12_mayOf 19 (29, .ifCond .eq 9, 3) rfl rfl) rfl (by decide),
    st_iconst hC (n := 20) (x := 1) (dc_X12_mayOf 20 (32, .iconst 1, 1) rfl rfl) rfl (by decide),
    st_iload_n hC (n := 21) (k := 3) (dc_X12_mayOf 21 (33, .iload_n 3, 1) rfl rfl) rfl rfl,
    st_ishl hC (n := 22) (dc_X12_mayOf 22 (34, .ishl, 1) rfl rfl) rfl,
    st_goto hC (n := 23) (dc_X12_mayOf 23 (35, .goto 4, 3) rfl rfl) (by decide),
    st_iconst hC (n := 24) (x := 0) (dc_X12_mayOf 24 (38, .iconst 0, 1) rfl rfl) rfl (by decide),
    st_ior hC (n := 25) (dc_X12_mayOf 25 (39, .ior, 1) rfl rfl) rfl,
    st_istore_n hC (n := 26) (k := 2) (dc_X12_mayOf 26 (40, .istore_n 2, 1) rfl rfl) rfl rfl (by decide),
    st_iinc hC (n := 27) (x := 1) (dc_X12_mayOf 27 (41, .iinc 3 1, 3) rfl rfl) rfl (by decide) (by decide),
    st_goto hC (n := 28) (dc_X12_mayOf 28 (44, .goto (-40), 3) rfl rfl) (by decide),
    st_iload_n hC (n := 29) (k := 2) (dc_X12_mayOf 29 (47, .iload_n 2, 1) rfl rfl) rfl rfl,
    st_iret hC (n := 30) hR (dc_X12_mayOf 30 (48, .ireturn, 1) rfl rfl), trivial⟩
theorem vc_X12_mayOf : VC P_X12_mayOf 4 Pre_X12_mayOf Fn_X12_mayOf := by
  rintro mm as hom hoa ⟨⟨ns, nm, n, hV⟩, s, rfl⟩
  refine ⟨Nat.le_of_ble_eq_true rfl, fun X h => ?_⟩
  have hn : mm.1 54 0 2 = nI n := hV.2.2.1.1
  have hn12 : n ≤ 12 := hV.2.2.1.2
  have loop : ∀ t, t ≤ n → X 4 [some (vR 12 0), some (vI s), some (vI (myA (mm.1 54 0) s t)), some (vI (nI t))] [] mm := by
    refine up_ind n ?_ (fun t ht hk => ?_)
    · refine h (fun i => Nat.beq i 4) 3000 4 _ _ _ ?_
      repeat' (first | refine And.intro (by (first | exact rfl | exact Or.inl rfl | exact Or.inr rfl | exact bI_in | exact inb_o 3060 rfl rfl (by (try simp (disch := omega) only [hn, li, pk_mul, nI_add, nI_clamp]); rfl) (by omega) | exact inb_o 12 rfl rfl (by (try simp (disch := omega) only [hn, li, pk_mul, nI_add, nI_clamp]); rfl) (by omega) | exact inb_o 4 rfl rfl (by (try simp (disch := omega) only [hn, li, pk_mul, nI_add, nI_clamp]); rfl) (by omega) | exact inb_o 5 rfl rfl (by (try simp (disch := omega) only [hn, li, pk_mul, nI_add, nI_clamp]); rfl) (by omega) | exact inb_o 16 rfl rfl (by (try simp (disch := omega) only [hn, li, pk_mul, nI_add, nI_clamp]); rfl) (by omega) | exact inb_o 20 rfl rfl (by (try simp (disch := omega) only [hn, li, pk_mul, nI_add, nI_clamp]); rfl) (by omega) | exact inb_o 30 rfl rfl (by (try simp (disch := omega) only [hn, li, pk_mul, nI_add, nI_clamp]); rfl) (by omega) | exact inb_o 48 rfl rfl (by (try simp (disch := omega) only [hn, li, pk_mul, nI_add, nI_clamp]); rfl) (by omega) | exact inb_o 60 rfl rfl (by (try simp (disch := omega) only [hn, li, pk_mul, nI_add, nI_clamp]); rfl) (by omega) | exact inb_o 80 rfl rfl (by (try simp (disch := omega) only [hn, li, pk_mul, nI_add, nI_clamp]); rfl) (by omega) | exact inb_o 120 rfl rfl (by (try simp (disch := omega) only [hn, li, pk_mul, nI_add, nI_clamp]); rfl) (by omega) | exact inb_o 240 rfl rfl (by (try simp (disch := omega) only [hn, li, pk_mul, nI_add, nI_clamp]); rfl) (by omega) | exact inb_o 900 rfl rfl (by (try simp (disch := omega) only [hn, li, pk_mul, nI_add, nI_clamp]); rfl) (by omega) | exact inb_o 4096 rfl rfl (by (try simp (disch := omega) only [hn, li, pk_mul, nI_add, nI_clamp]); rfl) (by omega) | exact inb_o 3 rfl rfl (by (try simp (disch := omega) only [hn, li, pk_mul, nI_add, nI_clamp]); rfl) (by omega))) ?_ | refine br_t (by ((try simp (disch := omega) only [hn, li, pk_mul, nI_add, nI_clamp, nI_leI, nI_ltI, nI_eq, bI_0, bI_n0, Decidable.not_not, gu_m1]); first | done | omega | assumption)) ?_ | refine br_f (by ((try simp (disch := omega) only [hn, li, pk_mul, nI_add, nI_clamp, nI_leI, nI_ltI, nI_eq, bI_0, bI_n0, Decidable.not_not, gu_m1]); first | done | omega | assumption)) ?_ | refine brn_t (by ((try simp (disch := omega) only [hn, li, pk_mul, nI_add, nI_clamp, nI_leI, nI_ltI, nI_eq, bI_0, bI_n0, Decidable.not_not, gu_m1]); first | done | omega | assumption)) ?_ | refine brn_f (by ((try simp (disch := omega) only [hn, li, pk_mul, nI_add, nI_clamp, nI_leI, nI_ltI, nI_eq, bI_0, bI_n0, Decidable.not_not, gu_m1]); first | done | omega | assumption)) ?_ | refine br_c (fun _ => ?_) (fun _ => ?_) | refine brn_c (fun _ => ?_) (fun _ => ?_))
      (refine leaf ?_; simp (disch := omega) only [Fn_X12_mayOf, hn, li, pk_mul, nI_add, nI_clamp])
    · have et : (nI t).toNatClampNeg = t := nI_clamp (by omega)
      refine h (fun i => Nat.beq i 4) 3000 4 _ _ _ ?_
      repeat' (first | refine And.intro (by (first | exact rfl | exact Or.inl rfl | exact Or.inr rfl | exact bI_in | exact inb_o 3060 rfl rfl (by (try simp (disch := omega) only [hn, li, pk_mul, nI_add, nI_clamp]); rfl) (by omega) | exact inb_o 12 rfl rfl (by (try simp (disch := omega) only [hn, li, pk_mul, nI_add, nI_clamp]); rfl) (by omega) | exact inb_o 4 rfl rfl (by (try simp (disch := omega) only [hn, li, pk_mul, nI_add, nI_clamp]); rfl) (by omega) | exact inb_o 5 rfl rfl (by (try simp (disch := omega) only [hn, li, pk_mul, nI_add, nI_clamp]); rfl) (by omega) | exact inb_o 16 rfl rfl (by (try simp (disch := omega) only [hn, li, pk_mul, nI_add, nI_clamp]); rfl) (by omega) | exact inb_o 20 rfl rfl (by (try simp (disch := omega) only [hn, li, pk_mul, nI_add, nI_clamp]); rfl) (by omega) | exact inb_o 30 rfl rfl (by (try simp (disch := omega) only [hn, li, pk_mul, nI_add, nI_clamp]); rfl) (by omega) | exact inb_o 48 rfl rfl (by (try simp (disch := omega) only [hn, li, pk_mul, nI_add, nI_clamp]); rfl) (by omega) | exact inb_o 60 rfl rfl (by (try simp (disch := omega) only [hn, li, pk_mul, nI_add, nI_clamp]); rfl) (by omega) | exact inb_o 80 rfl rfl (by (try simp (disch := omega) only [hn, li, pk_mul, nI_add, nI_clamp]); rfl) (by omega) | exact inb_o 120 rfl rfl (by (try simp (disch := omega) only [hn, li, pk_mul, nI_add, nI_clamp]); rfl) (by omega) | exact inb_o 240 rfl rfl (by (try simp (disch := omega) only [hn, li, pk_mul, nI_add, nI_clamp]); rfl) (by omega) | exact inb_o 900 rfl rfl (by (try simp (disch := omega) only [hn, li, pk_mul, nI_add, nI_clamp]); rfl) (by omega) | exact inb_o 4096 rfl rfl (by (try simp (disch := omega) only [hn, li, pk_mul, nI_add, nI_clamp]); rfl) (by omega) | exact inb_o 3 rfl rfl (by (try simp (disch := omega) only [hn, li, pk_mul, nI_add, nI_clamp]); rfl) (by omega))) ?_ | refine br_t (by ((try simp (disch := omega) only [hn, li, pk_mul, nI_add, nI_clamp, nI_leI, nI_ltI, nI_eq, bI_0, bI_n0, Decidable.not_not, gu_m1]); first | done | omega | assumption)) ?_ | refine br_f (by ((try simp (disch := omega) only [hn, li, pk_mul, nI_add, nI_clamp, nI_leI, nI_ltI, nI_eq, bI_0, bI_n0, Decidable.not_not, gu_m1]); first | done | omega | assumption)) ?_ | refine brn_t (by ((try simp (disch := omega) only [hn, li, pk_mul, nI_add, nI_clamp, nI_leI, nI_ltI, nI_eq, bI_0, bI_n0, Decidable.not_not, gu_m1]); first | done | omega | assumption)) ?_ | refine brn_f (by ((try simp (disch := omega) only [hn, li, pk_mul, nI_add, nI_clamp, nI_leI, nI_ltI, nI_eq, bI_0, bI_n0, Decidable.not_not, gu_m1]); first | done | omega | assumption)) ?_ | refine br_c (fun _ => ?_) (fun _ => ?_) | refine brn_c (fun _ => ?_) (fun _ => ?_))
      refine And.intro ⟨t, by omega, rfl⟩ ?_
      repeat' (first | refine And.intro (by (first | exact rfl | exact Or.inl rfl | exact Or.inr rfl | exact bI_in | exact inb_o 3060 rfl rfl (by (try simp (disch := omega) only [hn, li, pk_mul, nI_add, nI_clamp]); rfl) (by omega) | exact inb_o 12 rfl rfl (by (try simp (disch := omega) only [hn, li, pk_mul, nI_add, nI_clamp]); rfl) (by omega) | exact inb_o 4 rfl rfl (by (try simp (disch := omega) only [hn, li, pk_mul, nI_add, nI_clamp]); rfl) (by omega) | exact inb_o 5 rfl rfl (by (try simp (disch := omega) only [hn, li, pk_mul, nI_add, nI_clamp]); rfl) (by omega) | exact inb_o 16 rfl rfl (by (try simp (disch := omega) only [hn, li, pk_mul, nI_add, nI_clamp]); rfl) (by omega) | exact inb_o 20 rfl rfl (by (try simp (disch := omega) only [hn, li, pk_mul, nI_add, nI_clamp]); rfl) (by omega) | exact inb_o 30 rfl rfl (by (try simp (disch := omega) only [hn, li, pk_mul, nI_add, nI_clamp]); rfl) (by omega) | exact inb_o 48 rfl rfl (by (try simp (disch := omega) only [hn, li, pk_mul, nI_add, nI_clamp]); rfl) (by omega) | exact inb_o 60 rfl rfl (by (try simp (disch := omega) only [hn, li, pk_mul, nI_add, nI_clamp]); rfl) (by omega) | exact inb_o 80 rfl rfl (by (try simp (disch := omega) only [hn, li, pk_mul, nI_add, nI_clamp]); rfl) (by omega) | exact inb_o 120 rfl rfl (by (try simp (disch := omega) only [hn, li, pk_mul, nI_add, nI_clamp]); rfl) (by omega) | exact inb_o 240 rfl rfl (by (try simp (disch := omega) only [hn, li, pk_mul, nI_add, nI_clamp]); rfl) (by omega) | exact inb_o 900 rfl rfl (by (try simp (disch := omega) only [hn, li, pk_mul, nI_add, nI_clamp]); rfl) (by omega) | exact inb_o 4096 rfl rfl (by (try simp (disch := omega) only [hn, li, pk_mul, nI_add, nI_clamp]); rfl) (by omega) | exact inb_o 3 rfl rfl (by (try simp (disch := omega) only [hn, li, pk_mul, nI_add, nI_clamp]); rfl) (by omega))) ?_ | refine br_t (by ((try simp (disch := omega) only [hn, li, pk_mul, nI_add, nI_clamp, nI_leI, nI_ltI, nI_eq, bI_0, bI_n0, Decidable.not_not, gu_m1]); first | done | omega | assumption)) ?_ | refine br_f (by ((try simp (disch := omega) only [hn, li, pk_mul, nI_add, nI_clamp, nI_leI, nI_ltI, nI_eq, bI_0, bI_n0, Decidable.not_not, gu_m1]); first | done | omega | assumption)) ?_ | refine brn_t (by ((try simp (disch := omega) only [hn, li, pk_mul, nI_add, nI_clamp, nI_leI, nI_ltI, nI_eq, bI_0, bI_n0, Decidable.not_not, gu_m1]); first | done | omega | assumption)) ?_ | refine brn_f (by ((try simp (disch := omega) only [hn, li, pk_mul, nI_add, nI_clamp, nI_leI, nI_ltI, nI_eq, bI_0, bI_n0, Decidable.not_not, gu_m1]); first | done | omega | assumption)) ?_ | refine br_c (fun _ => ?_) (fun _ => ?_) | refine brn_c (fun _ => ?_) (fun _ => ?_))
      · rename_i h1
        simp (disch := omega) only [li, pk_mul, nI_add, nI_clamp, nI_leI, nI_ltI, nI_eq, bI_0, bI_n0, Decidable.not_not, gu_m1] at h1
        rw [myA, if_neg (fun z => h1 z.1), ← nI_1] at hk
        exact hk
      · rename_i h1
        simp (disch := omega) only [li, pk_mul, nI_add, nI_clamp, nI_leI, nI_ltI, nI_eq, bI_0, bI_n0, Decidable.not_not, gu_m1] at h1
        refine And.intro ⟨ns, nm, n, t, hV, ht, rfl⟩ ?_
        refine br_c (fun h2 => ?_) (fun h2 => ?_)
        · have h2' := bI_0.mp h2
          rw [et] at h2'
          rw [myA, if_neg (fun z => h2' z.2), ← nI_1] at hk
          exact hk
        · have h2' := bI_n0.mp h2
          rw [et] at h2'
          rw [myA, if_pos ⟨h1, h2'⟩, ← nI_1] at hk
          exact hk
  refine h (fun i => Nat.beq i 4) 3000 0 _ _ _ ?_
  exact loop 0 (Nat.zero_le n)
theorem con_X12_mayOf (l : Launch) : CON l y_X12_mayOf prog_14_method_88_code 4 (some .int) rm_X12_mayOf Pre_X12_mayOf Fn_X12_mayOf := CON_of (by decide) rfl rfl (sa_X12_mayOf l) vc_X12_mayOf
