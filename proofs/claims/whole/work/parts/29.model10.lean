/-! PART 29: the model: which sets can be given; plans -/

/-- a set without what is in another one -/
abbrev ndn (X H : Nat) : Nat := X &&& (H ^^^ 4294967295)
theorem m1_nI : (-1 : Int32) = nI 4294967295 := by decide
theorem nI_ndn (X H : Nat) : nI X &&& (nI H ^^^ (-1)) = nI (ndn X H) := by rw [m1_nI, nIxor, nIand]
theorem M_bit (j : Nat) : (4294967295 : Nat).testBit j = decide (j < 32) := by
  have : (4294967295 : Nat) = 2 ^ 32 - 1 := by decide
  rw [this, Nat.testBit_two_pow_sub_one]
theorem lt_bit {X n j : Nat} (h : X < 2 ^ n) (hj : X.testBit j = true) : j < n := by
  refine Decidable.byContradiction fun hc => ?_
  have : 2 ^ n ≤ 2 ^ j := Nat.pow_le_pow_right (by omega) (by omega)
  rw [Nat.testBit_lt_two_pow (by omega)] at hj
  cases hj
theorem ndn_bit {X H j : Nat} (h : X < 2 ^ 32) : (ndn X H).testBit j = (X.testBit j && !H.testBit j) := by
  unfold ndn
  rw [Nat.testBit_and, Nat.testBit_xor, M_bit]
  by_cases hj : j < 32
  · simp [hj]
  · have : X.testBit j = false := Nat.testBit_lt_two_pow (Nat.lt_of_lt_of_le h (Nat.pow_le_pow_right (by omega) (by omega)))
    simp [this]
theorem ndn_0 {X H : Nat} (h : X < 2 ^ 32) : ndn X H = 0 ↔ ∀ j, X.testBit j = true → H.testBit j = true := by
  constructor
  · intro e j hj
    have := ndn_bit (H := H) (j := j) h
    rw [e, Nat.zero_testBit, hj] at this
    simpa using this.symm
  · intro hs
    apply Nat.eq_of_testBit_eq
    intro j
    rw [ndn_bit h, Nat.zero_testBit]
    cases hX : X.testBit j with
    | false => rfl
    | true => rw [hs j hX]; rfl
theorem ndn_p2 {X t : Nat} (h : X < 2 ^ 32) (ht : X.testBit t = true) : ndn X (2 ^ t) = X ^^^ 2 ^ t := by
  apply Nat.eq_of_testBit_eq
  intro j
  rw [ndn_bit h, Nat.testBit_xor, Nat.testBit_two_pow]
  by_cases hj : t = j
  · subst hj; simp [ht]
  · simp [hj]
theorem ndn_le (X H : Nat) : ndn X H ≤ X := Nat.and_le_left
theorem nI_z {n : Nat} (h : n < 2 ^ 31) : nI n = 0 ↔ n = 0 := nI_eq h (by decide)
theorem xor_p2_lt {X t n : Nat} (h : X < 2 ^ n) (ht : t < n) : X ^^^ 2 ^ t < 2 ^ n := Nat.xor_lt_two_pow h (Nat.pow_lt_pow_right (by omega) ht)
theorem xor_xor (X Y : Nat) : (X ^^^ Y) ^^^ Y = X := by rw [Nat.xor_assoc, Nat.xor_self, Nat.xor_zero]
theorem xor_lt {X t : Nat} (ht : X.testBit t = true) : X ^^^ 2 ^ t < X := by
  have e : X &&& (X ^^^ 2 ^ t) = X ^^^ 2 ^ t := by
    apply Nat.eq_of_testBit_eq
    intro j
    rw [Nat.testBit_and, Nat.testBit_xor, Nat.testBit_two_pow]
    by_cases hj : t = j
    · subst hj; simp [ht]
    · simp [hj]
  have h1 : X ^^^ 2 ^ t ≤ X := by rw [← e]; exact Nat.and_le_left
  refine Nat.lt_of_le_of_ne h1 (fun z => ?_)
  have := congrArg (fun w => w.testBit t) z
  simp [Nat.testBit_xor, Nat.testBit_two_pow_self] at this
/-- that a THING can be given where a set X has been given besides -/
abbrev cnO (a : Nat → Int32) (t X : Nat) : Prop := a (46 + 3 * t) &&& ((a 8 ||| nI X) ^^^ (-1)) = 0
/-- the sets that can be given, one after the other -/
def CnF (a : Nat → Int32) (nt : Nat) : Nat → Nat → Prop
  | 0, X => X = 0
  | f + 1, X => X = 0 ∨ ∃ t, t < nt ∧ X.testBit t = true ∧ CnF a nt f (X ^^^ 2 ^ t) ∧ cnO a t (X ^^^ 2 ^ t)
def Cn (a : Nat → Int32) (nt X : Nat) : Prop := CnF a nt X X
theorem CnF_eq {a : Nat → Int32} {nt : Nat} : ∀ (f g X : Nat), X ≤ f → X ≤ g → (CnF a nt f X ↔ CnF a nt g X)
  | 0, 0, _, _, _ => Iff.rfl
  | 0, g + 1, X, h, _ => by
    have : X = 0 := by omega
    exact ⟨fun _ => Or.inl this, fun _ => this⟩
  | f + 1, 0, X, _, h => by
    have : X = 0 := by omega
    exact ⟨fun _ => this, fun _ => Or.inl this⟩
  | f + 1, g + 1, X, h1, h2 => by
    refine or_congr Iff.rfl (exists_congr fun t => and_congr Iff.rfl ?_)
    constructor
    · rintro ⟨hb, hc, ho⟩
      have := xor_lt hb
      exact ⟨hb, (CnF_eq f g _ (by omega) (by omega)).mp hc, ho⟩
    · rintro ⟨hb, hc, ho⟩
      have := xor_lt hb
      exact ⟨hb, (CnF_eq f g _ (by omega) (by omega)).mpr hc, ho⟩
theorem Cn_z {a : Nat → Int32} {nt : Nat} : Cn a nt 0 := rfl
theorem Cn_iff {a : Nat → Int32} {nt X : Nat} : Cn a nt X ↔ X = 0 ∨ ∃ t, t < nt ∧ X.testBit t = true ∧ Cn a nt (X ^^^ 2 ^ t) ∧ cnO a t (X ^^^ 2 ^ t) := by
  refine Iff.trans (CnF_eq X (X + 1) X (by omega) (by omega)) (or_congr Iff.rfl (exists_congr fun t => and_congr Iff.rfl ?_))
  constructor
  · rintro ⟨hb, hc, ho⟩
    have := xor_lt hb
    exact ⟨hb, (CnF_eq _ _ _ (by omega) (by omega)).mp hc, ho⟩
  · rintro ⟨hb, hc, ho⟩
    have := xor_lt hb
    exact ⟨hb, (CnF_eq _ _ _ (by omega) (by omega)).mp hc, ho⟩
noncomputable def bC (p : Prop) : Int32 := @bI p (Classical.propDecidable p)
noncomputable def cnR (o a : Nat → Int32) (nt H k : Nat) : Nat → Int32 := fun X => if X < k then bC (ndn X H = 0 ∧ Cn a nt X) else o X
theorem cnR_at {o a : Nat → Int32} {nt H k X : Nat} (h : X < k) : (cnR o a nt H k X = 1 ↔ ndn X H = 0 ∧ Cn a nt X) ∧ (cnR o a nt H k X = 0 ↔ ¬ (ndn X H = 0 ∧ Cn a nt X)) := by
  unfold cnR
  rw [if_pos h]
  unfold bC bI
  constructor
  · constructor
    · intro e
      split at e
      · assumption
      · exact absurd e (by decide)
    · intro e; rw [if_pos e]
  · constructor
    · intro e
      split at e
      · exact absurd e (by decide)
      · assumption
    · intro e; rw [if_neg e]
theorem cnR_0 (o a : Nat → Int32) (nt H : Nat) : cnR o a nt H 0 = o := by
  funext X
  unfold cnR
  rw [if_neg (by omega)]
theorem cnR_up {o a : Nat → Int32} {nt H k : Nat} {v : Int32} (hv : (ndn k H = 0 ∧ Cn a nt k → v = 1) ∧ (¬ (ndn k H = 0 ∧ Cn a nt k) → v = 0)) : upd (cnR o a nt H k) k v = cnR o a nt H (k + 1) := by
  funext X
  by_cases h : X = k
  · subst h
    rw [upd_eq]
    by_cases hc : ndn X H = 0 ∧ Cn a nt X
    · rw [hv.1 hc, ((cnR_at (by omega)).1).mpr hc]
    · rw [hv.2 hc, ((cnR_at (by omega)).2).mpr hc]
  · rw [upd_ne h]
    unfold cnR
    by_cases h2 : X < k
    · rw [if_pos h2, if_pos (by omega)]
    · rw [if_neg h2, if_neg (by omega)]
theorem mRow_self (m : MM) (k g : Nat) : mRow m k g (m.1 k g) = m := by
  refine Prod.ext ?_ rfl
  funext k' g'
  show (if k' = k ∧ g' = g then m.1 k g else m.1 k' g') = m.1 k' g'
  split
  · rename_i h; rw [h.1, h.2]
  · rfl
theorem upd2 (f : Nat → Int32) (k : Nat) (x y : Int32) : upd (upd f k x) k y = upd f k y := by
  funext j
  unfold upd
  by_cases h : j = k
  · simp [h]
  · simp [h]
/-- the table of what can be given -/
noncomputable def laM (m : MM) (s : Int32) : MM := mRow m 62 0 (cnR (m.1 62 0) (m.1 54 0) (m.1 54 0 2).toNatClampNeg (hsA (m.1 54 0) s).toNatClampNeg ((hsA (m.1 54 0) s).toNatClampNeg + 1))
def HSo (a : Nat → Int32) : Prop := ∀ s : Int32, ∃ H, H < 4096 ∧ hsA a s = nI H

--tpl ⟨hM, hH, _, rfl⟩ || hsA {A} {1} || laM {m} {1}
def Pre_X12_laysCan : PreT := fun m as => VM m ∧ HSo (m.1 54 0) ∧ ∃ s : Int32, as = [vR 12 0, vI s]
noncomputable def Fn_X12_laysCan : FnT := fun m as => match as with
  | [_, Sum.inl s] => (some (vI (hsA (m.1 54 0) s)), laM m s)
  | _ => (none, m)
abbrev y_X12_laysCan : MethodName := ⟨"GivenUpModel", "laysCan", "(I)I"⟩
def P_X12_laysCan : List StpT := [s_aload 0, s_iload 1, s_callV 12 1 Pre_X12_thingsOf Fn_X12_thingsOf, s_aload 0, s_getR 12 0 54, s_ic (8), s_iald, s_ic (-1), s_ixor, s_iand, s_aload 0, s_getR 12 0 54, s_ic (9), s_iald, s_ic (-1), s_ixor, s_iand, s_istore 2, s_ic (0), s_istore 3, s_iload 3, s_iload 2, s_icgt 97, s_aload 0, s_getR 12 24 62, s_iload 3, s_iload 3, s_ifne 30, s_ic (1), s_goto 31, s_ic (0), s_iast, s_iload 3, s_iload 2, s_ic (-1), s_ixor, s_iand, s_ifeq 39, s_goto 95, s_ic (0), s_istore 4, s_iload 4, s_aload 0, s_getR 12 0 54, s_ic (2), s_iald, s_icge 95, s_aload 0, s_getR 12 24 62, s_iload 3, s_iald, s_ifne 95, s_aload 0, s_iload 3, s_iload 4, s_callV 12 2 Pre_X12_isIn Fn_X12_isIn, s_ifeq 93, s_aload 0, s_getR 12 24 62, s_iload 3, s_ic (1), s_iload 4, s_ishl, s_ic (-1), s_ixor, s_iand, s_iald, s_ic (1), s_icne 93, s_aload 0, s_iload 4, s_callV 12 1 Pre_X12_aheadOf Fn_X12_aheadOf, s_aload 0, s_getR 12 0 54, s_ic (8), s_iald, s_iload 3, s_ic (1), s_iload 4, s_ishl, s_ic (-1), s_ixor, s_iand, s_ior, s_ic (-1), s_ixor, s_iand, s_ifne 93, s_aload 0, s_getR 12 24 62, s_iload 3, s_ic (1), s_iast, s_iinc 4 (1), s_goto 41, s_iinc 3 (1), s_goto 20, s_iload 2, s_iret]
def pc_X12_laysCan : Nat → Nat := fun i => [0, 1, 2, 5, 6, 9, 11, 12, 13, 14, 15, 16, 19, 21, 22, 23, 24, 25, 26, 27, 28, 29, 30, 33, 34, 37, 38, 39, 42, 43, 46, 47, 48, 49, 50, 51, 52, 53, 56, 59, 60, 62, 64, 65, 68, 69, 70, 73, 74, 77, 78, 79, 82, 83, 84, 86, 89, 92, 93, 96, 97, 98, 100, 101, 102, 103, 104, 105, 106, 109, 110, 112, 115, 116, 119, 121, 122, 123, 124, 126, 127, 128, 129, 130, 131, 132, 133, 134, 137, 138, 141, 142, 143, 144, 147, 150, 153, 156, 157].getD i 0
def dl_X12_laysCan : List (Nat × Instr × Nat) := [(0, .aload_n 0, 1), (1, .iload_n 1, 1), (2, .invokevirtual 280, 3), (5, .aload_n 0, 1), (6, .getfield 7, 3), (9, .bipush 8, 2), (11, .iaload, 1), (12, .iconst (-1), 1), (13, .ixor, 1), (14, .iand, 1), (15, .aload_n 0, 1), (16, .getfield 7, 3), (19, .bipush 9, 2), (21, .iaload, 1), (22, .iconst (-1), 1), (23, .ixor, 1), (24, .iand, 1), (25, .istore_n 2, 1), (26, .iconst 0, 1), (27, .istore_n 3, 1), (28, .iload_n 3, 1), (29, .iload_n 2, 1), (30, .if_icmp .gt 126, 3), (33, .aload_n 0, 1), (34, .getfield 47, 3), (37, .iload_n 3, 1), (38, .iload_n 3, 1), (39, .ifCond .ne 7, 3), (42, .iconst 1, 1), (43, .goto 4, 3), (46, .iconst 0, 1), (47, .iastore, 1), (48, .iload_n 3, 1), (49, .iload_n 2, 1), (50, .iconst (-1), 1), (51, .ixor, 1), (52, .iand, 1), (53, .ifCond .eq 6, 3), (56, .goto 94, 3), (59, .iconst 0, 1), (60, .istore 4, 2), (62, .iload 4, 2), (64, .aload_n 0, 1), (65, .getfield 7, 3), (68, .iconst 2, 1), (69, .iaload, 1), (70, .if_icmp .ge 80, 3), (73, .aload_n 0, 1), (74, .getfield 47, 3), (77, .iload_n 3, 1), (78, .iaload, 1), (79, .ifCond .ne 71, 3), (82, .aload_n 0, 1), (83, .iload_n 3, 1), (84, .iload 4, 2), (86, .invokevirtual 277, 3), (89, .ifCond .eq 55, 3), (92, .aload_n 0, 1), (93, .getfield 47, 3), (96, .iload_n 3, 1), (97, .iconst 1, 1), (98, .iload 4, 2), (100, .ishl, 1), (101, .iconst (-1), 1), (102, .ixor, 1), (103, .iand, 1), (104, .iaload, 1), (105, .iconst 1, 1), (106, .if_icmp .ne 38, 3), (109, .aload_n 0, 1), (110, .iload 4, 2), (112, .invokevirtual 316, 3), (115, .aload_n 0, 1), (116, .getfield 7, 3), (119, .bipush 8, 2), (121, .iaload, 1), (122, .iload_n 3, 1), (123, .iconst 1, 1), (124, .iload 4, 2), (126, .ishl, 1), (127, .iconst (-1), 1), (128, .ixor, 1), (129, .iand, 1), (130, .ior, 1), (131, .iconst (-1), 1), (132, .ixor, 1), (133, .iand, 1), (134, .ifCond .ne 10, 3), (137, .aload_n 0, 1), (138, .getfield 47, 3), (141, .iload_n 3, 1), (142, .iconst 1, 1), (143, .iastore, 1), (144, .iinc 4 1, 3), (147, .goto (-85), 3), (150, .iinc 3 1, 3), (153, .goto (-125), 3), (156, .iload_n 2, 1), (157, .ireturn, 1)]
theorem dc_X12_laysCan : DEC prog_14_method_111_code pc_X12_laysCan dl_X12_laysCan := DEC_of (by decide +kernel)
abbrev rm_X12_laysCan : Room := { frames := 3, cells := 0, slots := 0, locals := 64 }
set_option maxRecDepth 20000 in
theorem sa_X12_laysCan (l : Launch) : SNDALL l prog_14_method_111_code "GivenUpModel" 5 (some .int) rm_X12_laysCan P_X12_laysCan pc_X12_laysCan := fun p e s m args below meth c cells slots Q D dA ad A RR hC hR => by
  have hM := RTX_room (R := rm_X12_laysCan) hR
  exact ⟨st_aload_n hC (n := 0) (k := 0) (dc_X12_laysCan 0 (0, .aload_n 0, 1) rfl rfl) rfl rfl,
    st_iload_n hC (n := 1) (k := 1) (dc_X12_laysCan 1 (1, .iload_n 1, 1) rfl rfl) rfl rfl,
    st_callV hC (n := 2) (k := 12) (na := 1) (con_X12_thingsOf l) (dc_X12_laysCan 2 (2, .invokevirtual 280, 3) rfl rfl) rfl wd_1892 wd_160 (by decide) ⟨rfl, rfl, by decide, by decide⟩ hM wd_1889 wd_1891 wd_86 clf_12,
    st_aload_n hC (n := 3) (k := 0) (dc_X12_laysCan 3 (5, .aload_n 0, 1) rfl rfl) rfl rfl,
    st_getR hC (n := 4) (k := 12) (j := 0) (dc_X12_laysCan 4 (6, .getfield 7, 3) rfl rfl) rfl clf_12 (by decide) rfl (by decide) wd_1552,
    st_bipush hC (n := 5) (x := 8) (dc_X12_laysCan 5 (9, .bipush 8, 2) rfl rfl) rfl (by decide),
    st_iald hC (n := 6) (dc_X12_laysCan 6 (11, .iaload, 1) rfl rfl) rfl,
    st_iconst hC (n := 7) (x := (-1)) (dc_X12_laysCan 7 (12, .iconst (-1), 1) rfl rfl) rfl (by decide),
    st_ixor hC (n := 8) (dc_X12_laysCan 8 (13, .ixor, 1) rfl rfl) rfl,
    st_iand hC (n := 9) (dc_X12_laysCan 9 (14, .iand, 1) rfl rfl) rfl,
    st_aload_n hC (n := 10) (k := 0) (dc_X12_laysCan 10 (15, .aload_n 0, 1) rfl rfl) rfl rfl,
    st_getR hC (n := 11) (k := 12) (j := 0) (dc_X12_laysCan 11 (16, .getfield 7, 3) rfl rfl) rfl clf_12 (by decide) rfl (by decide) wd_1552,
    st_bipush hC (n := 12) (x := 9) (dc_X12_laysCan 12 (19, .bipush 9, 2) rfl rfl) rfl (by decide),
    st_iald hC (n := 13) (dc_X12_laysCan 13 (21, .iaload, 1) rfl rfl) rfl,
    st_iconst hC (n := 14) (x := (-1)) (dc_X12_laysCan 14 (22, .iconst (-1), 1) rfl rfl) rfl (by decide),
    st_ixor hC (n := 15) (dc_X12_laysCan 15 (23, .ixor, 1) rfl rfl) rfl,
    st_iand hC (n := 16) (dc_X12_laysCan 16 (24, .iand, 1) rfl rfl) rfl,
    st_istore_n hC (n := 17) (k := 2) (dc_X12_laysCan 17 (25, .istore_n 2, 1) rfl rfl) rfl rfl (by decide),
    st_iconst hC (n := 18) (x := 0) (dc_X12_laysCan 18 (26, .iconst 0, 1) rfl rfl) rfl (by decide),
    st_istore_n hC (n := 19) (k := 3) (dc_X12_laysCan 19 (27, .istore_n 3, 1) rfl rfl) rfl rfl (by decide),
    st_iload_n hC (n := 20) (k := 3) (dc_X12_laysCan 20 (28, .iload_n 3, 1) rfl rfl) rfl rfl,
    st_iload_n hC (n := 21) (k := 2) (dc_X12_laysCan 21 (29, .iload_n 2, 1) rfl rfl) rfl rfl,
    st_icgt hC (n := 22) (dc_X12_laysCan 22 (30, .if_icmp .gt 126, 3) rfl rfl) rfl (by decide),
    st_aload_n hC (n := 23) (k := 0) (dc_X12_laysCan 23 (33, .aload_n 0, 1) rfl rfl) rfl rfl,
    st_getR hC (n := 24) (k := 12) (j := 24) (dc_X12_laysCan 24 (34, .getfield 47, 3) rfl rfl) rfl clf_12 (by decide) rfl (by decide) wd_1576,
    st_iload_n hC (n := 25) (k := 3) (dc_X12_laysCan 25 (37, .iload_n 3, 1) rfl rfl) rfl rfl,
    st_iload_n hC (n := 26) (k := 3) (dc_X12_laysCan 26 (38, .iload_n 3, 1) rfl rfl) rfl rfl,
    st_ifne hC (n := 27) (dc_X12_laysCan 27 (39, .ifCond .ne 7, 3) rfl rfl) rfl (by decide),
    st_iconst hC (n := 28) (x := 1) (dc_X12_laysCan 28 (42, .iconst 1, 1) rfl rfl) rfl (by decide),
    st_goto hC (n := 29) (dc_X12_laysCan 29 (43, .goto 4, 3) rfl rfl) (by decide),
    st_iconst hC (n := 30) (x := 0) (dc_X12_laysCan 30 (46, .iconst 0, 1) rfl rfl) rfl (by decide),
    st_iast hC (n := 31) (dc_X12_laysCan 31 (47, .iastore, 1) rfl rfl) rfl,
    st_iload_n hC (n := 32) (k := 3) (dc_X12_laysCan 32 (48, .iload_n 3, 1) rfl rfl) rfl rfl,
    st_iload_n hC (n := 33) (k := 2) (dc_X12_laysCan 33 (49, .iload_n 2, 1) rfl rfl) rfl rfl,
    st_iconst hC (n := 34) (x := (-1)) (dc_X12_laysCan 34 (50, .iconst (-1), 1) rfl rfl) rfl (by decide),
    st_ixor hC (n := 35) (dc_X12_laysCan 35 (51, .ixor, 1) rfl rfl) rfl,
    st_iand hC (n := 36) (dc_X12_laysCan 36 (52, .iand, 1) rfl rfl) rfl,
    st_ifeq hC (n := 37) (dc_X12_laysCan 37 (53, .ifCond .eq 6, 3) rfl rfl) rfl (by decide),
    st_goto hC (n := 38) (dc_X12_laysCan 38 (56, .goto 94, 3) rfl rfl) (by decide),
    st_iconst hC (n := 39) (x := 0) (dc_X12_laysCan 39 (59, .iconst 0, 1) rfl rfl) rfl (by decide),
    st_istore hC (n := 40) (dc_X12_laysCan 40 (60, .istore 4, 2) rfl rfl) rfl (by decide),
    st_iload hC (n := 41) (dc_X12_laysCan 41 (62, .iload 4, 2) rfl rfl) rfl,
    st_aload_n hC (n := 42) (k := 0) (dc_X12_laysCan 42 (64, .aload_n 0, 1) rfl rfl) rfl rfl,
    st_getR hC (n := 43) (k := 12) (j := 0) (dc_X12_laysCan 43 (65, .getfield 7, 3) rfl rfl) rfl clf_12 (by decide) rfl (by decide) wd_1552,
    st_iconst hC (n := 44) (x := 2) (dc_X12_laysCan 44 (68, .iconst 2, 1) rfl rfl) rfl (by decide),
    st_iald hC (n := 45) (dc_X12_laysCan 45 (69, .iaload, 1) rfl rfl) rfl,
    st_icge hC (n := 46) (dc_X12_laysCan 46 (70, .if_icmp .ge 80, 3) rfl rfl) rfl (by decide),
    st_aload_n hC (n := 47) (k := 0) (dc_X12_laysCan 47 (73, .aload_n 0, 1) rfl rfl) rfl rfl,
    st_getR hC (n := 48) (k := 12) (j := 24) (dc_X12_laysCan 48 (74, .getfield 47, 3) rfl rfl) rfl clf_12 (by decide) rfl (by decide) wd_1576,
    st_iload_n hC (n := 49) (k := 3) (dc_X12_laysCan 49 (77, .iload_n 3, 1) rfl rfl) rfl rfl,
    st_iald hC (n := 50) (dc_X12_laysCan 50 (78, .iaload, 1) rfl rfl) rfl,
    st_ifne hC (n := 51) (dc_X12_laysCan 51 (79, .ifCond .ne 71, 3) rfl rfl) rfl (by decide),
    st_aload_n hC (n := 52) (k := 0) (dc_X12_laysCan 52 (82, .aload_n 0, 1) rfl rfl) rfl rfl,
    st_iload_n hC (n := 53) (k := 3) (dc_X12_laysCan 53 (83, .iload_n 3, 1) rfl rfl) rfl rfl,
    st_iload hC (n := 54) (dc_X12_laysCan 54 (84, .iload 4, 2) rfl rfl) rfl,
    st_callV hC (n := 55) (k := 12) (na := 2) (con_X12_isIn l) (dc_X12_laysCan 55 (86, .invokevirtual 277, 3) rfl rfl) rfl wd_1907 wd_160 (by decide) ⟨rfl, rfl, by decide, by decide⟩ hM wd_1904 wd_1906 wd_89 clf_12,
    st_ifeq hC (n := 56) (dc_X12_laysCan 56 (89, .ifCond .eq 55, 3) rfl rfl) rfl (by decide),
    st_aload_n hC (n := 57) (k := 0) (dc_X12_laysCan 57 (92, .aload_n 0, 1) rfl rfl) rfl rfl,
    st_getR hC (n := 58) (k := 12) (j := 24) (dc_X12_laysCan 58 (93, .getfield 47, 3) rfl rfl) rfl clf_12 (by decide) rfl (by decide) wd_1576,
    st_iload_n hC (n := 59) (k := 3) (dc_X12_laysCan 59 (96, .iload_n 3, 1) rfl rfl) rfl rfl,
    st_iconst hC (n := 60) (x := 1) (dc_X12_laysCan 60 (97, .iconst 1, 1) rfl rfl) rfl (by decide),
    st_iload hC (n := 61) (dc_X12_laysCan 61 (98, .iload 4, 2) rfl rfl) rfl,
    st_ishl hC (n := 62) (dc_X12_laysCan 62 (100, .ishl, 1) rfl rfl) rfl,
    st_iconst hC (n := 63) (x := (-1)) (dc_X12_laysCan 63 (101, .iconst (-1), 1) rfl rfl) rfl (by decide),
    st_ixor hC (n := 64) (dc_X12_laysCan 64 (102, .ixor, 1) rfl rfl) rfl,
    st_iand hC (n := 65) (dc_X12_laysCan 65 (103, .iand, 1) rfl rfl) rfl,
    st_iald hC (n := 66) (dc_X12_laysCan 66 (104, .iaload, 1) rfl rfl) rfl,
    st_iconst hC (n := 67) (x := 1) (dc_X12_laysCan 67 (105, .iconst 1, 1) rfl rfl) rfl (by decide),
    st_icne hC (n := 68) (dc_X12_laysCan 68 (106, .if_icmp .ne 38, 3) rfl rfl) rfl (by decide),
    st_aload_n hC (n := 69) (k := 0) (dc_X12_laysCan 69 (109, .aload_n 0, 1) rfl rfl) rfl rfl,
    st_iload hC (n := 70) (dc_X12_laysCan 70 (110, .iload 4, 2) rfl rfl) rfl,
    st_callV hC (n := 71) (k := 12) (na := 1) (con_X12_aheadOf l) (dc_X12_laysCan 71 (112, .invokevirtual 316, 3) rfl rfl) rfl wd_1942 wd_160 (by decide) ⟨rfl, rfl, by decide, by decide⟩ hM wd_1939 wd_1941 wd_95 clf_12,
    st_aload_n hC (n := 72) (k := 0) (dc_X12_laysCan 72 (115, .aload_n 0, 1) rfl rfl) rfl rfl,
    st_getR hC (n := 73) (k := 12) (j := 0) (dc_X12_laysCan 73 (116, .getfield 7, 3) rfl rfl) rfl clf_12 (by decide) rfl (by decide) wd_1552,
    st_bipush hC (n := 74) (x := 8) (dc_X12_laysCan 74 (119, .bipush 8, 2) rfl rfl) rfl (by decide),
    st_iald hC (n := 75) (dc_X12_laysCan 75 (121, .iaload, 1) rfl rfl) rfl,
    st_iload_n hC (n := 76) (k := 3) (dc_X12_laysCan 76 (122, .iload_n 3, 1) rfl rfl) rfl rfl,
    st_iconst hC (n := 77) (x := 1) (dc_X12_laysCan 77 (123, .iconst 1, 1) rfl rfl) rfl (by decide),
    st_iload hC (n := 78) (dc_X12_laysCan 78 (124, .iload 4, 2) rfl rfl) rfl,
    st_ishl hC (n := 79) (dc_X12_laysCan 79 (126, .ishl, 1) rfl rfl) rfl,
    st_iconst hC (n := 80) (x := (-1)) (dc_X12_laysCan 80 (127, .iconst (-1), 1) rfl rfl) rfl (by decide),
    st_ixor hC (n := 81) (dc_X12_laysCan 81 (128, .ixor, 1) rfl rfl) rfl,
    st_iand hC (n := 82) (dc_X12_laysCan 82 (129, .iand, 1) rfl rfl) rfl,
    st_ior hC (n := 83) (dc_X12_laysCan 83 (130, .ior, 1) rfl rfl) rfl,
    st_iconst hC (n := 84) (x := (-1)) (dc_X12_laysCan 84 (131, .iconst (-1), 1) rfl rfl) rfl (by decide),
    st_ixor hC (n := 85) (dc_X12_laysCan 85 (132, .ixor, 1) rfl rfl) rfl,
    st_iand hC (n := 86) (dc_X12_laysCan 86 (133, .iand, 1) rfl rfl) rfl,
    st_ifne hC (n := 87) (dc_X12_laysCan 87 (134, .ifCond .ne 10, 3) rfl rfl) rfl (by decide),
    st_aload_n hC (n := 88) (k := 0) (dc_X12_laysCan 88 (137, .aload_n 0, 1) rfl rfl) rfl rfl,
    st_getR hC (n := 89) (k := 12) (j := 24) (dc_X12_laysCan 89 (138, .getfield 47, 3) rfl rfl) rfl clf_12 (by decide) rfl (by decide) wd_1576,
    st_iload_n hC (n := 90) (k := 3) (dc_X12_laysCan 90 (141, .iload_n 3, 1) rfl rfl) rfl rfl,
    st_iconst hC (n := 91) (x := 1) (dc_X12_laysCan 91 (142, .iconst 1, 1) rfl rfl) rfl (by decide),
    st_iast hC (n := 92) (dc_X12_laysCan 92 (143, .iastore, 1) rfl rfl) rfl,
    st_iinc hC (n := 93) (x := 1) (dc_X12_laysCan 93 (144, .iinc 4 1, 3) rfl rfl) rfl (by decide) (by decide),
    st_goto hC (n := 94) (dc_X12_laysCan 94 (147, .goto (-85), 3) rfl rfl) (by decide),
    st_iinc hC (n := 95) (x := 1) (dc_X12_laysCan 95 (150, .iinc 3 1, 3) rfl rfl) rfl (by decide) (by decide),
    st_goto hC (n := 96) (dc_X12_laysCan 96 (153, .goto (-125), 3) rfl rfl) (by decide),
    st_iload_n hC (n := 97) (k := 2) (dc_X12_laysCan 97 (156, .iload_n 2, 1) rfl rfl) rfl rfl,
    st_iret hC (n := 98) hR (dc_X12_laysCan 98 (157, .ireturn, 1) rfl rfl), trivial⟩
set_option maxRecDepth 8000 in
theorem vc_X12_laysCan : VC P_X12_laysCan 5 Pre_X12_laysCan Fn_X12_laysCan := by
  rintro mm as hom hoa ⟨⟨ns, nm, n, hV⟩, hH, s, rfl⟩
  refine ⟨Nat.le_of_ble_eq_true rfl, fun X h => ?_⟩
  have hM : VM mm := ⟨ns, nm, n, hV⟩
  have hn : mm.1 54 0 2 = nI n := hV.2.2.1.1
  have hn12 : n ≤ 12 := hV.2.2.1.2
  obtain ⟨H, hH2, eH⟩ := hH s
  have eF : Fn_X12_laysCan mm [vR 12 0, vI s] = (some (vI (nI H)), mRow mm 62 0 (cnR (mm.1 62 0) (mm.1 54 0) n H (H + 1))) := by
    show (some (vI (hsA (mm.1 54 0) s)), laM mm s) = _
    unfold laM
    rw [eH, hn, nI_clamp (by omega), nI_clamp (by omega)]
  rw [eF] at h
  have loop : ∀ k, k ≤ H + 1 → ∀ L4, L4 = none ∨ (∃ z, L4 = some (vI z)) → X 20 [some (vR 12 0), some (vI s), some (vI (nI H)), some (vI (nI k)), L4] [] (mRow mm 62 0 (cnR (mm.1 62 0) (mm.1 54 0) n H k)) := by
    refine up_ind (H + 1) ?_ (fun k hk ih => ?_)
    · intro L4 hL
      refine h (fun i => Nat.beq i 20) 3000 20 _ _ _ ?_
      refine br_t ((nI_ltI (by omega) (by omega)).mpr (by omega)) ?_
      exact rfl
    · intro L4 hL
      have fin : ∀ (v : Int32) L4, (L4 = none ∨ (∃ z, L4 = some (vI z))) → ((ndn k H = 0 ∧ Cn (mm.1 54 0) n k → v = 1) ∧ (¬ (ndn k H = 0 ∧ Cn (mm.1 54 0) n k) → v = 0)) → X 95 [some (vR 12 0), some (vI s), some (vI (nI H)), some (vI (nI k)), L4] [] (mRow mm 62 0 (upd (cnR (mm.1 62 0) (mm.1 54 0) n H k) k v)) := by
        intro v L4 hL hv
        refine h (fun i => Nat.beq i 20) 3000 95 _ _ _ ?_
        rw [cnR_up hv]
        have := ih L4 hL
        rw [← nI_1] at this
        rcases hL with rfl | ⟨z, rfl⟩
        · exact this
        · exact this
      have i2 : ∀ f : Nat → Int32, mRow (mRow mm 62 0 (cnR (mm.1 62 0) (mm.1 54 0) n H k)) 62 0 f = mRow mm 62 0 f := fun f => mRow2 _ _ _ _ _
      -- one was found
      have out : ndn k H = 0 ∧ Cn (mm.1 54 0) n k → ∀ t, t ≤ n → X 41 [some (vR 12 0), some (vI (s)), some (vI (nI H)), some (vI (nI k)), some (vI (nI t))] [] (mRow mm 62 0 (upd (cnR (mm.1 62 0) (mm.1 54 0) n H k) k 1)) := by
        intro hc t ht
        have fi := fin 1 (some (vI (nI t))) (Or.inr ⟨_, rfl⟩) ⟨fun _ => rfl, fun z => absurd hc z⟩
        by_cases htn : t = n
        ·
          show X 41 [some (vR 12 0), some (vI s), some (vI (nI H)), some (vI (nI k)), some (vI (nI t))] [] (mRow mm 62 0 (upd (cnR (mm.1 62 0) (mm.1 54 0) n H k) k 1))
          refine h (fun i => Nat.beq i 95) 3000 41 _ _ _ ?_
          refine And.intro rfl ?_
          refine br_t (by show mm.1 54 0 2 ≤ _; ((try simp (disch := omega) only [hn, li, pk_mul, nI_add, nI_clamp, nI_leI, nI_ltI, nI_eq, bI_0, bI_n0, Decidable.not_not, gu_m1]); first | done | omega | assumption)) ?_
          show X 95 [some (vR 12 0), some (vI s), some (vI (nI H)), some (vI (nI k)), some (vI (nI t))] [] (mRow mm 62 0 (upd (cnR (mm.1 62 0) (mm.1 54 0) n H k) k 1))
          exact fi
        · have e1 : upd (cnR (mm.1 62 0) (mm.1 54 0) n H k) k 1 (nI k).toNatClampNeg = 1 := by rw [nI_clamp (by omega), upd_eq]
          show X 41 [some (vR 12 0), some (vI s), some (vI (nI H)), some (vI (nI k)), some (vI (nI t))] [] (mRow mm 62 0 (upd (cnR (mm.1 62 0) (mm.1 54 0) n H k) k 1))
          refine h (fun i => Nat.beq i 95) 3000 41 _ _ _ ?_
          refine And.intro rfl ?_
          refine br_f (by show ¬ mm.1 54 0 2 ≤ _; ((try simp (disch := omega) only [hn, li, pk_mul, nI_add, nI_clamp, nI_leI, nI_ltI, nI_eq, bI_0, bI_n0, Decidable.not_not, gu_m1]); first | done | omega | assumption)) ?_
          refine And.intro (inb_o 4096 rfl rfl rfl (by omega)) ?_
          refine brn_t (fun z => absurd (e1.symm.trans z) (by decide)) ?_
          show X 95 [some (vR 12 0), some (vI s), some (vI (nI H)), some (vI (nI k)), some (vI (nI t))] [] (mRow mm 62 0 (upd (cnR (mm.1 62 0) (mm.1 54 0) n H k) k 1))
          exact fi
      have inner : 0 < k → ndn k H = 0 → ∀ t, t ≤ n → (∀ t', t' < t → ¬ (k.testBit t' = true ∧ Cn (mm.1 54 0) n (k ^^^ 2 ^ t') ∧ cnO (mm.1 54 0) t' (k ^^^ 2 ^ t'))) → X 41 [some (vR 12 0), some (vI (s)), some (vI (nI H)), some (vI (nI k)), some (vI (nI t))] [] (mRow mm 62 0 (upd (cnR (mm.1 62 0) (mm.1 54 0) n H k) k 0)) := by
        intro hk0 hs
        refine up_ind n ?_ (fun t ht iht => ?_)
        · intro hno
          have hc : ¬ (ndn k H = 0 ∧ Cn (mm.1 54 0) n k) := by
            intro z
            rcases Cn_iff.mp z.2 with e | ⟨t, h1, h2, h3, h4⟩
            · omega
            · exact hno t h1 ⟨h2, h3, h4⟩
          have fi := fin 0 (some (vI (nI n))) (Or.inr ⟨_, rfl⟩) ⟨fun z => absurd z hc, fun _ => rfl⟩
          show X 41 [some (vR 12 0), some (vI s), some (vI (nI H)), some (vI (nI k)), some (vI (nI n))] [] (mRow mm 62 0 (upd (cnR (mm.1 62 0) (mm.1 54 0) n H k) k 0))
          refine h (fun i => Nat.beq i 95) 3000 41 _ _ _ ?_
          refine And.intro rfl ?_
          refine br_t (by show mm.1 54 0 2 ≤ _; ((try simp (disch := omega) only [hn, li, pk_mul, nI_add, nI_clamp, nI_leI, nI_ltI, nI_eq, bI_0, bI_n0, Decidable.not_not, gu_m1]); first | done | omega | assumption)) ?_
          show X 95 [some (vR 12 0), some (vI s), some (vI (nI H)), some (vI (nI k)), some (vI (nI n))] [] (mRow mm 62 0 (upd (cnR (mm.1 62 0) (mm.1 54 0) n H k) k 0))
          exact fi
        · intro hno
          have et : (nI t).toNatClampNeg = t := nI_clamp (by omega)
          have ek : (nI k).toNatClampNeg = k := nI_clamp (by omega)
          have e1 : upd (cnR (mm.1 62 0) (mm.1 54 0) n H k) k 0 (nI k).toNatClampNeg = 0 := by rw [ek, upd_eq]
          have noo : ¬ (k.testBit t = true ∧ Cn (mm.1 54 0) n (k ^^^ 2 ^ t) ∧ cnO (mm.1 54 0) t (k ^^^ 2 ^ t)) → X 93 [some (vR 12 0), some (vI (s)), some (vI (nI H)), some (vI (nI k)), some (vI (nI t))] [] (mRow mm 62 0 (upd (cnR (mm.1 62 0) (mm.1 54 0) n H k) k 0)) := by
            intro hc
            show X 93 [some (vR 12 0), some (vI s), some (vI (nI H)), some (vI (nI k)), some (vI (nI t))] [] (mRow mm 62 0 (upd (cnR (mm.1 62 0) (mm.1 54 0) n H k) k 0))
            refine h (fun i => Nat.beq i 41) 3000 93 _ _ _ ?_
            show X 41 [some (vR 12 0), some (vI s), some (vI (nI H)), some (vI (nI k)), some (vI ((nI t) + 1))] [] (mRow mm 62 0 (upd (cnR (mm.1 62 0) (mm.1 54 0) n H k) k 0))
            rw [nI_1]
            refine iht (fun t' ht' => ?_) 
            rcases Nat.lt_or_eq_of_le (Nat.le_of_lt_succ ht') with q | q 
            · exact hno t' q 
            · rw [q]; exact hc
          have mid : k.testBit t = true → X 57 [some (vR 12 0), some (vI (s)), some (vI (nI H)), some (vI (nI k)), some (vI (nI t))] [] (mRow mm 62 0 (upd (cnR (mm.1 62 0) (mm.1 54 0) n H k) k 0)) := by
            intro hb
            have ht32 : t < 12 := by omega
            have hlt : k ^^^ 2 ^ t < k := xor_lt hb
            have eX : nI k &&& (1 <<< (nI t &&& 31) ^^^ (-1)) = nI (k ^^^ 2 ^ t) := by rw [nIbit (by omega), nI_ndn, ndn_p2 (by omega) hb]
            have eY : upd (cnR (mm.1 62 0) (mm.1 54 0) n H k) k 0 (nI k &&& (1 <<< (nI t &&& 31) ^^^ (-1))).toNatClampNeg = cnR (mm.1 62 0) (mm.1 54 0) n H k (k ^^^ 2 ^ t) := by rw [eX, nI_clamp (by omega), upd_ne (by omega)]
            have hss : ndn (k ^^^ 2 ^ t) H = 0 := by
              refine (ndn_0 (by omega)).mpr (fun j hj => (ndn_0 (by omega)).mp hs j ?_)
              rw [Nat.testBit_xor, Nat.testBit_two_pow] at hj
              by_cases hjt : t = j
              · subst hjt; exact hb
              · simpa [hjt] using hj
            have yes : k.testBit t = true ∧ Cn (mm.1 54 0) n (k ^^^ 2 ^ t) ∧ cnO (mm.1 54 0) t (k ^^^ 2 ^ t) → X 88 [some (vR 12 0), some (vI (s)), some (vI (nI H)), some (vI (nI k)), some (vI (nI t))] [] (mRow mm 62 0 (upd (cnR (mm.1 62 0) (mm.1 54 0) n H k) k 0)) := by
              intro hc
              have := out ⟨hs, Cn_iff.mpr (Or.inr ⟨t, by omega, hc⟩)⟩ (t + 1) (by omega)
              show X 88 [some (vR 12 0), some (vI s), some (vI (nI H)), some (vI (nI k)), some (vI (nI t))] [] (mRow mm 62 0 (upd (cnR (mm.1 62 0) (mm.1 54 0) n H k) k 0))
              refine h (fun i => Nat.beq i 41) 3000 88 _ _ _ ?_
              refine And.intro (inb_o 4096 rfl rfl rfl (by omega)) ?_
              show X 41 [some (vR 12 0), some (vI s), some (vI (nI H)), some (vI (nI k)), some (vI ((nI t) + 1))] [] (mRow (mRow mm 62 0 (upd (cnR (mm.1 62 0) (mm.1 54 0) n H k) k 0)) 62 0 (upd ((mRow mm 62 0 (upd (cnR (mm.1 62 0) (mm.1 54 0) n H k) k 0)).1 62 0) (nI k).toNatClampNeg 1))
              rw [ek, nI_1]
              show X 41 _ _ (mRow (mRow mm 62 0 (upd (cnR (mm.1 62 0) (mm.1 54 0) n H k) k 0)) 62 0 (upd (upd (cnR (mm.1 62 0) (mm.1 54 0) n H k) k 0) k 1)) 
              rw [mRow2, upd2] 
              exact this
            show X 57 [some (vR 12 0), some (vI s), some (vI (nI H)), some (vI (nI k)), some (vI (nI t))] [] (mRow mm 62 0 (upd (cnR (mm.1 62 0) (mm.1 54 0) n H k) k 0))
            refine h (fun i => Nat.beq i 88 || Nat.beq i 93) 3000 57 _ _ _ ?_
            refine And.intro (inb_o 4096 rfl rfl eX (by omega)) ?_
            refine brn_c (fun b68 => ?_) (fun b68 => ?_)
            · -- 68: (mRow mm 62 0 (upd (cnR (mm.1 62 0) (mm.1 54 0) n H k) k 0)).1 62 0 ((nI k) &&& ((1 <<< ((nI t) &&& 31)) ^^^ (-1))).toNatClampNeg = 1 taken
              replace b68 : ¬ ((mRow mm 62 0 (upd (cnR (mm.1 62 0) (mm.1 54 0) n H k) k 0)).1 62 0 ((nI k) &&& ((1 <<< ((nI t) &&& 31)) ^^^ (-1))).toNatClampNeg = 1) := b68
              replace b68 : ¬ cnR (mm.1 62 0) (mm.1 54 0) n H k (k ^^^ 2 ^ t) = 1 := fun z => b68 (eY.trans z)
              show X 93 [some (vR 12 0), some (vI s), some (vI (nI H)), some (vI (nI k)), some (vI (nI t))] [] (mRow mm 62 0 (upd (cnR (mm.1 62 0) (mm.1 54 0) n H k) k 0))
              first | exact noo (fun z => b87 z.2.2) | exact noo (fun z => b68 (((cnR_at (by omega)).1).mpr ⟨hss, z.2.1⟩))
            · -- 68: (mRow mm 62 0 (upd (cnR (mm.1 62 0) (mm.1 54 0) n H k) k 0)).1 62 0 ((nI k) &&& ((1 <<< ((nI t) &&& 31)) ^^^ (-1))).toNatClampNeg = 1 on
              replace b68 : (mRow mm 62 0 (upd (cnR (mm.1 62 0) (mm.1 54 0) n H k) k 0)).1 62 0 ((nI k) &&& ((1 <<< ((nI t) &&& 31)) ^^^ (-1))).toNatClampNeg = 1 := b68
              replace b68 : cnR (mm.1 62 0) (mm.1 54 0) n H k (k ^^^ 2 ^ t) = 1 := eY.symm.trans b68
              refine And.intro ⟨t, by omega, rfl⟩ ?_
              refine And.intro rfl ?_
              refine brn_c (fun b87 => ?_) (fun b87 => ?_)
              · -- 87: ((mRow mm 62 0 (upd (cnR (mm.1 62 0) (mm.1 54 0) n H k) k 0)).1 54 0 (46 + 3 * (nI t).toNatClampNeg)) &&& ((((mRow mm 62 0 (upd (cnR (mm.1 62 0) (mm.1 54 0) n H k) k 0)).1 54 0 8) ||| ((nI k) &&& ((1 <<< ((nI t) &&& 31)) ^^^ (-1)))) ^^^ (-1)) = 0 taken
                replace b87 : ¬ (((mRow mm 62 0 (upd (cnR (mm.1 62 0) (mm.1 54 0) n H k) k 0)).1 54 0 (46 + 3 * (nI t).toNatClampNeg)) &&& ((((mRow mm 62 0 (upd (cnR (mm.1 62 0) (mm.1 54 0) n H k) k 0)).1 54 0 8) ||| ((nI k) &&& ((1 <<< ((nI t) &&& 31)) ^^^ (-1)))) ^^^ (-1)) = 0) := b87
                replace b87 : ¬ mm.1 54 0 (46 + 3 * (nI t).toNatClampNeg) &&& ((mm.1 54 0 8 ||| (nI k &&& (1 <<< (nI t &&& 31) ^^^ (-1)))) ^^^ (-1)) = 0 := b87
                rw [et, eX] at b87
                show X 93 [some (vR 12 0), some (vI s), some (vI (nI H)), some (vI (nI k)), some (vI (nI t))] [] (mRow mm 62 0 (upd (cnR (mm.1 62 0) (mm.1 54 0) n H k) k 0))
                first | exact noo (fun z => b87 z.2.2) | exact noo (fun z => b68 (((cnR_at (by omega)).1).mpr ⟨hss, z.2.1⟩))
              · -- 87: ((mRow mm 62 0 (upd (cnR (mm.1 62 0) (mm.1 54 0) n H k) k 0)).1 54 0 (46 + 3 * (nI t).toNatClampNeg)) &&& ((((mRow mm 62 0 (upd (cnR (mm.1 62 0) (mm.1 54 0) n H k) k 0)).1 54 0 8) ||| ((nI k) &&& ((1 <<< ((nI t) &&& 31)) ^^^ (-1)))) ^^^ (-1)) = 0 on
                replace b87 : ((mRow mm 62 0 (upd (cnR (mm.1 62 0) (mm.1 54 0) n H k) k 0)).1 54 0 (46 + 3 * (nI t).toNatClampNeg)) &&& ((((mRow mm 62 0 (upd (cnR (mm.1 62 0) (mm.1 54 0) n H k) k 0)).1 54 0 8) ||| ((nI k) &&& ((1 <<< ((nI t) &&& 31)) ^^^ (-1)))) ^^^ (-1)) = 0 := b87
                replace b87 : mm.1 54 0 (46 + 3 * (nI t).toNatClampNeg) &&& ((mm.1 54 0 8 ||| (nI k &&& (1 <<< (nI t &&& 31) ^^^ (-1)))) ^^^ (-1)) = 0 := b87
                rw [et, eX] at b87
                show X 88 [some (vR 12 0), some (vI s), some (vI (nI H)), some (vI (nI k)), some (vI (nI t))] [] (mRow mm 62 0 (upd (cnR (mm.1 62 0) (mm.1 54 0) n H k) k 0))
                exact yes ⟨hb, (((cnR_at (by omega)).1).mp b68).2, b87⟩
          show X 41 [some (vR 12 0), some (vI s), some (vI (nI H)), some (vI (nI k)), some (vI (nI t))] [] (mRow mm 62 0 (upd (cnR (mm.1 62 0) (mm.1 54 0) n H k) k 0))
          refine h (fun i => Nat.beq i 57 || Nat.beq i 93) 3000 41 _ _ _ ?_
          refine And.intro rfl ?_
          refine br_f (by show ¬ mm.1 54 0 2 ≤ _; ((try simp (disch := omega) only [hn, li, pk_mul, nI_add, nI_clamp, nI_leI, nI_ltI, nI_eq, bI_0, bI_n0, Decidable.not_not, gu_m1]); first | done | omega | assumption)) ?_
          refine And.intro (inb_o 4096 rfl rfl rfl (by omega)) ?_
          refine brn_f (e1) ?_
          refine And.intro ⟨_, _, rfl⟩ ?_
          refine br_c (fun b56 => ?_) (fun b56 => ?_)
          · -- 56: bI (inS (nI k) (nI t)) = 0 taken
            replace b56 : ¬ (inS (nI k) (nI t)) := bI_0.mp b56
            show X 93 [some (vR 12 0), some (vI s), some (vI (nI H)), some (vI (nI k)), some (vI (nI t))] [] (mRow mm 62 0 (upd (cnR (mm.1 62 0) (mm.1 54 0) n H k) k 0))
            exact noo (fun z => b56 ((inS_nI (by omega) (by omega)).mpr z.1))
          · -- 56: bI (inS (nI k) (nI t)) = 0 on
            replace b56 : inS (nI k) (nI t) := bI_n0.mp b56
            show X 57 [some (vR 12 0), some (vI s), some (vI (nI H)), some (vI (nI k)), some (vI (nI t))] [] (mRow mm 62 0 (upd (cnR (mm.1 62 0) (mm.1 54 0) n H k) k 0))
            exact mid ((inS_nI (by omega) (by omega)).mp b56)
      have ek : (nI k).toNatClampNeg = k := nI_clamp (by omega)
      have go : ∀ L4, (L4 = none ∨ (∃ z, L4 = some (vI z))) → ∀ v, ((k = 0 → v = 1) ∧ (¬ k = 0 → v = 0)) → X 32 [some (vR 12 0), some (vI s), some (vI (nI H)), some (vI (nI k)), L4] [] (mRow mm 62 0 (upd (cnR (mm.1 62 0) (mm.1 54 0) n H k) k v)) := by
        intro L4 hL v hv
        have eN : nI k &&& (nI H ^^^ (-1)) = nI (ndn k H) := nI_ndn k H
        refine h (fun i => Nat.beq i 41 || Nat.beq i 95) 3000 32 _ _ _ ?_
        refine br_c (fun h2 => ?_) (fun h2 => ?_)
        · have hs : ndn k H = 0 := (nI_z (Nat.lt_of_le_of_lt (ndn_le _ _) (by omega))).mp (eN.symm.trans h2)
          have g41 : X 41 [some (vR 12 0), some (vI s), some (vI (nI H)), some (vI (nI k)), some (vI (nI 0))] [] (mRow mm 62 0 (upd (cnR (mm.1 62 0) (mm.1 54 0) n H k) k v)) := by
            by_cases hk0 : k = 0
            · rw [hv.1 hk0]
              exact out ⟨hs, by rw [hk0]; exact Cn_z⟩ 0 (by omega)
            · rw [hv.2 hk0]
              exact inner (by omega) hs 0 (by omega) (fun t' ht' => absurd ht' (by omega))
          rcases hL with rfl | ⟨z, rfl⟩
          · exact g41
          · exact g41
        · have hs : ¬ ndn k H = 0 := fun z => h2 (eN.trans ((nI_z (Nat.lt_of_le_of_lt (ndn_le _ _) (by omega))).mpr z))
          have hk0 : ¬ k = 0 := fun z => hs (by rw [z]; exact Nat.zero_and _)
          rw [hv.2 hk0]
          exact fin 0 L4 hL ⟨fun z => absurd z.1 hs, fun _ => rfl⟩
      have st : ∀ L4, (L4 = none ∨ (∃ z, L4 = some (vI z))) → ∀ v, ((k = 0 → v = 1) ∧ (¬ k = 0 → v = 0)) → X 31 [some (vR 12 0), some (vI s), some (vI (nI H)), some (vI (nI k)), L4] [vI v, vI (nI k), vR 62 0] (mRow mm 62 0 (cnR (mm.1 62 0) (mm.1 54 0) n H k)) := by
        intro L4 hL v hv
        have := go L4 hL v hv
        refine h (fun i => Nat.beq i 32) 3000 31 _ _ _ ?_
        refine And.intro (inb_o 4096 rfl rfl rfl (by omega)) ?_
        show X 32 _ _ (mRow (mRow mm 62 0 (cnR (mm.1 62 0) (mm.1 54 0) n H k)) 62 0 (upd (cnR (mm.1 62 0) (mm.1 54 0) n H k) (nI k).toNatClampNeg v))
        rw [mRow2, ek]
        exact this
      rcases hL with rfl | ⟨z, rfl⟩
      ·
        show X 20 [some (vR 12 0), some (vI s), some (vI (nI H)), some (vI (nI k)), none] [] (mRow mm 62 0 (cnR (mm.1 62 0) (mm.1 54 0) n H k))
        refine h (fun i => Nat.beq i 31) 3000 20 _ _ _ ?_
        refine br_f (fun z => by rw [nI_ltI (by omega) (by omega)] at z; omega) ?_
        refine brn_c (fun b27 => ?_) (fun b27 => ?_)
        · -- 27: nI k = 0 taken
          replace b27 : ¬ (nI k = 0) := b27
          show X 31 [some (vR 12 0), some (vI s), some (vI (nI H)), some (vI (nI k)), none] [vI 0, vI (nI k), vR 62 0] (mRow mm 62 0 (cnR (mm.1 62 0) (mm.1 54 0) n H k))
          first | exact st _ (Or.inl rfl) _ ⟨fun z => absurd (by rw [z]; rfl) b27, fun _ => rfl⟩ | exact st _ (Or.inl rfl) _ ⟨fun _ => rfl, fun z => absurd ((nI_z (by omega)).mp b27) z⟩
        · -- 27: nI k = 0 on
          replace b27 : nI k = 0 := b27
          show X 31 [some (vR 12 0), some (vI s), some (vI (nI H)), some (vI (nI k)), none] [vI 1, vI (nI k), vR 62 0] (mRow mm 62 0 (cnR (mm.1 62 0) (mm.1 54 0) n H k))
          first | exact st _ (Or.inl rfl) _ ⟨fun z => absurd (by rw [z]; rfl) b27, fun _ => rfl⟩ | exact st _ (Or.inl rfl) _ ⟨fun _ => rfl, fun z => absurd ((nI_z (by omega)).mp b27) z⟩
      ·
        show X 20 [some (vR 12 0), some (vI s), some (vI (nI H)), some (vI (nI k)), some (vI z)] [] (mRow mm 62 0 (cnR (mm.1 62 0) (mm.1 54 0) n H k))
        refine h (fun i => Nat.beq i 31) 3000 20 _ _ _ ?_
        refine br_f (fun z => by rw [nI_ltI (by omega) (by omega)] at z; omega) ?_
        refine brn_c (fun b27 => ?_) (fun b27 => ?_)
        · -- 27: nI k = 0 taken
          replace b27 : ¬ (nI k = 0) := b27
          show X 31 [some (vR 12 0), some (vI s), some (vI (nI H)), some (vI (nI k)), some (vI z)] [vI 0, vI (nI k), vR 62 0] (mRow mm 62 0 (cnR (mm.1 62 0) (mm.1 54 0) n H k))
          first | exact st _ (Or.inr ⟨_, rfl⟩) _ ⟨fun z => absurd (by rw [z]; rfl) b27, fun _ => rfl⟩ | exact st _ (Or.inr ⟨_, rfl⟩) _ ⟨fun _ => rfl, fun z => absurd ((nI_z (by omega)).mp b27) z⟩
        · -- 27: nI k = 0 on
          replace b27 : nI k = 0 := b27
          show X 31 [some (vR 12 0), some (vI s), some (vI (nI H)), some (vI (nI k)), some (vI z)] [vI 1, vI (nI k), vR 62 0] (mRow mm 62 0 (cnR (mm.1 62 0) (mm.1 54 0) n H k))
          first | exact st _ (Or.inr ⟨_, rfl⟩) _ ⟨fun z => absurd (by rw [z]; rfl) b27, fun _ => rfl⟩ | exact st _ (Or.inr ⟨_, rfl⟩) _ ⟨fun _ => rfl, fun z => absurd ((nI_z (by omega)).mp b27) z⟩
  have start := loop 0 (by omega) none (Or.inl rfl)
  rw [cnR_0, mRow_self, ← eH] at start
  show X 0 [some (vR 12 0), some (vI s), none, none, none] [] mm
  refine h (fun i => Nat.beq i 20) 3000 0 _ _ _ ?_
  refine And.intro ⟨hM, _, rfl⟩ ?_
  refine And.intro rfl ?_
  refine And.intro rfl ?_
  show X 20 [some (vR 12 0), some (vI s), some (vI (((thA (mm.1 54 0) s) &&& ((mm.1 54 0 8) ^^^ (-1))) &&& ((mm.1 54 0 9) ^^^ (-1)))), some (vI 0), none] [] mm
  exact start
theorem con_X12_laysCan (l : Launch) : CON l y_X12_laysCan prog_14_method_111_code 5 (some .int) rm_X12_laysCan Pre_X12_laysCan Fn_X12_laysCan := CON_of (by decide) rfl rfl (sa_X12_laysCan l) vc_X12_laysCan
