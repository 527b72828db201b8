/-! PART 20: the model's small methods -/

def Pre_X12_thingRow : PreT := fun _ as => ∃ t : Int32, as = [vI t]
def Fn_X12_thingRow : FnT := fun m as => match as with
  | [Sum.inl t] => (some (vI (44 + 3 * t)), m)
  | _ => (none, m)
abbrev y_X12_thingRow : MethodName := ⟨"GivenUpModel", "thingRow", "(I)I"⟩
def P_X12_thingRow : List StpT := [s_ic (44), s_ic (3), s_iload 0, s_imul, s_iadd, s_iret]
def pc_X12_thingRow : Nat → Nat := fun i => [0, 2, 3, 4, 5, 6].getD i 0
def dl_X12_thingRow : List (Nat × Instr × Nat) := [(0, .bipush 44, 2), (2, .iconst 3, 1), (3, .iload_n 0, 1), (4, .imul, 1), (5, .iadd, 1), (6, .ireturn, 1)]
theorem dc_X12_thingRow : DEC prog_14_method_58_code pc_X12_thingRow dl_X12_thingRow := DEC_of (by decide +kernel)
abbrev rm_X12_thingRow : Room := { frames := 0, cells := 0, slots := 0, locals := 0 }
set_option maxRecDepth 20000 in
theorem sa_X12_thingRow (l : Launch) : SNDALL l prog_14_method_58_code "GivenUpModel" 1 (some .int) rm_X12_thingRow P_X12_thingRow pc_X12_thingRow := fun p e s m args below meth c cells slots Q D dA ad A RR hC hR => by
  have hM := RTX_room (R := rm_X12_thingRow) hR
  exact ⟨st_bipush hC (n := 0) (x := 44) (dc_X12_thingRow 0 (0, .bipush 44, 2) rfl rfl) rfl (by decide),
    st_iconst hC (n := 1) (x := 3) (dc_X12_thingRow 1 (2, .iconst 3, 1) rfl rfl) rfl (by decide),
    st_iload_n hC (n := 2) (k := 0) (dc_X12_thingRow 2 (3, .iload_n 0, 1) rfl rfl) rfl rfl,
    st_imul hC (n := 3) (dc_X12_thingRow 3 (4, .imul, 1) rfl rfl) rfl,
    st_iadd hC (n := 4) (dc_X12_thingRow 4 (5, .iadd, 1) rfl rfl) rfl,
    st_iret hC (n := 5) hR (dc_X12_thingRow 5 (6, .ireturn, 1) rfl rfl), trivial⟩
theorem vc_X12_thingRow : VC P_X12_thingRow 1 Pre_X12_thingRow Fn_X12_thingRow := by
  rintro mm as hom hoa ⟨t, rfl⟩
  refine ⟨Nat.le_of_ble_eq_true rfl, fun X h => ?_⟩
  refine h (fun _ => false) 3000 0 _ _ _ ?_
  exact rfl
theorem con_X12_thingRow (l : Launch) : CON l y_X12_thingRow prog_14_method_58_code 1 (some .int) rm_X12_thingRow Pre_X12_thingRow Fn_X12_thingRow := CON_of (by decide) rfl rfl (sa_X12_thingRow l) vc_X12_thingRow
def Pre_X12_ownerOf : PreT := fun _ as => ∃ j : Nat, j < 12 ∧ as = [vR 12 0, vI (nI j)]
def Fn_X12_ownerOf : FnT := fun m as => match as with
  | [_, Sum.inl t] => (some (vI (m.1 54 0 (44 + 3 * t.toNatClampNeg))), m)
  | _ => (none, m)
abbrev y_X12_ownerOf : MethodName := ⟨"GivenUpModel", "ownerOf", "(I)I"⟩
def P_X12_ownerOf : List StpT := [s_aload 0, s_getR 12 0 54, s_iload 1, s_callS 1 Pre_X12_thingRow Fn_X12_thingRow, s_iald, s_iret]
def pc_X12_ownerOf : Nat → Nat := fun i => [0, 1, 4, 5, 8, 9].getD i 0
def dl_X12_ownerOf : List (Nat × Instr × Nat) := [(0, .aload_n 0, 1), (1, .getfield 7, 3), (4, .iload_n 1, 1), (5, .invokestatic 271, 3), (8, .iaload, 1), (9, .ireturn, 1)]
theorem dc_X12_ownerOf : DEC prog_14_method_65_code pc_X12_ownerOf dl_X12_ownerOf := DEC_of (by decide +kernel)
abbrev rm_X12_ownerOf : Room := { frames := 1, cells := 0, slots := 0, locals := 20 }
set_option maxRecDepth 20000 in
theorem sa_X12_ownerOf (l : Launch) : SNDALL l prog_14_method_65_code "GivenUpModel" 2 (some .int) rm_X12_ownerOf P_X12_ownerOf pc_X12_ownerOf := fun p e s m args below meth c cells slots Q D dA ad A RR hC hR => by
  have hM := RTX_room (R := rm_X12_ownerOf) hR
  exact ⟨st_aload_n hC (n := 0) (k := 0) (dc_X12_ownerOf 0 (0, .aload_n 0, 1) rfl rfl) rfl rfl,
    st_getR hC (n := 1) (k := 12) (j := 0) (dc_X12_ownerOf 1 (1, .getfield 7, 3) rfl rfl) rfl clf_12 (by decide) rfl (by decide) wd_1552,
    st_iload_n hC (n := 2) (k := 1) (dc_X12_ownerOf 2 (4, .iload_n 1, 1) rfl rfl) rfl rfl,
    st_callS hC (n := 3) (na := 1) (con_X12_thingRow l) (dc_X12_ownerOf 3 (5, .invokestatic 271, 3) rfl rfl) rfl wd_1899 wd_160 (by decide) ⟨rfl, rfl, by decide, by decide⟩ hM wd_1897 wd_1898,
    st_iald hC (n := 4) (dc_X12_ownerOf 4 (8, .iaload, 1) rfl rfl) rfl,
    st_iret hC (n := 5) hR (dc_X12_ownerOf 5 (9, .ireturn, 1) rfl rfl), trivial⟩
theorem vc_X12_ownerOf : VC P_X12_ownerOf 2 Pre_X12_ownerOf Fn_X12_ownerOf := by
  rintro mm as hom hoa ⟨j, hj, rfl⟩
  refine ⟨Nat.le_of_ble_eq_true rfl, fun X h => ?_⟩
  refine h (fun _ => false) 3000 0 _ _ _ ?_
  refine And.intro ⟨_, rfl⟩ ?_
  repeat' (first | refine And.intro (by (first | exact rfl | exact Or.inl rfl | exact Or.inr rfl | exact bI_in | exact inb_o 3060 rfl rfl (by (try simp (disch := omega) only [li, pk_mul, nI_add, nI_clamp]); rfl) (by omega) | exact inb_o 12 rfl rfl (by (try simp (disch := omega) only [li, pk_mul, nI_add, nI_clamp]); rfl) (by omega) | exact inb_o 4 rfl rfl (by (try simp (disch := omega) only [li, pk_mul, nI_add, nI_clamp]); rfl) (by omega) | exact inb_o 5 rfl rfl (by (try simp (disch := omega) only [li, pk_mul, nI_add, nI_clamp]); rfl) (by omega) | exact inb_o 16 rfl rfl (by (try simp (disch := omega) only [li, pk_mul, nI_add, nI_clamp]); rfl) (by omega) | exact inb_o 20 rfl rfl (by (try simp (disch := omega) only [li, pk_mul, nI_add, nI_clamp]); rfl) (by omega) | exact inb_o 30 rfl rfl (by (try simp (disch := omega) only [li, pk_mul, nI_add, nI_clamp]); rfl) (by omega) | exact inb_o 48 rfl rfl (by (try simp (disch := omega) only [li, pk_mul, nI_add, nI_clamp]); rfl) (by omega) | exact inb_o 60 rfl rfl (by (try simp (disch := omega) only [li, pk_mul, nI_add, nI_clamp]); rfl) (by omega) | exact inb_o 80 rfl rfl (by (try simp (disch := omega) only [li, pk_mul, nI_add, nI_clamp]); rfl) (by omega) | exact inb_o 120 rfl rfl (by (try simp (disch := omega) only [li, pk_mul, nI_add, nI_clamp]); rfl) (by omega) | exact inb_o 240 rfl rfl (by (try simp (disch := omega) only [li, pk_mul, nI_add, nI_clamp]); rfl) (by omega) | exact inb_o 900 rfl rfl (by (try simp (disch := omega) only [li, pk_mul, nI_add, nI_clamp]); rfl) (by omega) | exact inb_o 4096 rfl rfl (by (try simp (disch := omega) only [li, pk_mul, nI_add, nI_clamp]); rfl) (by omega) | exact inb_o 3 rfl rfl (by (try simp (disch := omega) only [li, pk_mul, nI_add, nI_clamp]); rfl) (by omega))) ?_ | refine br_t (by ((try simp (disch := omega) only [li, pk_mul, nI_add, nI_clamp, nI_leI, nI_ltI, nI_eq, bI_0, bI_n0, Decidable.not_not, gu_m1]); first | done | omega | assumption)) ?_ | refine br_f (by ((try simp (disch := omega) only [li, pk_mul, nI_add, nI_clamp, nI_leI, nI_ltI, nI_eq, bI_0, bI_n0, Decidable.not_not, gu_m1]); first | done | omega | assumption)) ?_ | refine brn_t (by ((try simp (disch := omega) only [li, pk_mul, nI_add, nI_clamp, nI_leI, nI_ltI, nI_eq, bI_0, bI_n0, Decidable.not_not, gu_m1]); first | done | omega | assumption)) ?_ | refine brn_f (by ((try simp (disch := omega) only [li, pk_mul, nI_add, nI_clamp, nI_leI, nI_ltI, nI_eq, bI_0, bI_n0, Decidable.not_not, gu_m1]); first | done | omega | assumption)) ?_ | refine br_c (fun _ => ?_) (fun _ => ?_) | refine brn_c (fun _ => ?_) (fun _ => ?_))
  (refine leaf ?_; simp (disch := omega) only [Fn_X12_thingRow, Fn_X12_ownerOf, li, pk_mul, nI_add, nI_clamp])
theorem con_X12_ownerOf (l : Launch) : CON l y_X12_ownerOf prog_14_method_65_code 2 (some .int) rm_X12_ownerOf Pre_X12_ownerOf Fn_X12_ownerOf := CON_of (by decide) rfl rfl (sa_X12_ownerOf l) vc_X12_ownerOf
/-- the set of the THINGS of a SUITOR, of the first j -/
def gds (a : Nat → Int32) (s : Int32) : Nat → Int32
  | 0 => 0
  | j + 1 => gds a s j ||| (if a (44 + 3 * j) = s then 1 <<< (nI j &&& 31) else 0)

def Pre_X12_thingsOf : PreT := fun m as => ∃ (s : Int32) (n : Nat), m.1 54 0 2 = nI n ∧ n ≤ 12 ∧ as = [vR 12 0, vI s]
def Fn_X12_thingsOf : FnT := fun m as => match as with
  | [_, Sum.inl s] => (some (vI (gds (m.1 54 0) s (m.1 54 0 2).toNatClampNeg)), m)
  | _ => (none, m)
abbrev y_X12_thingsOf : MethodName := ⟨"GivenUpModel", "thingsOf", "(I)I"⟩
def P_X12_thingsOf : List StpT := [s_ic (0), s_istore 2, s_ic (0), s_istore 3, s_iload 3, s_aload 0, s_getR 12 0 54, s_ic (2), s_iald, s_icge 25, s_iload 2, s_aload 0, s_iload 3, s_callV 12 1 Pre_X12_ownerOf Fn_X12_ownerOf, s_iload 1, s_icne 20, s_ic (1), s_iload 3, s_ishl, s_goto 21, s_ic (0), s_ior, s_istore 2, s_iinc 3 (1), s_goto 4, s_iload 2, s_iret]
def pc_X12_thingsOf : Nat → Nat := fun i => [0, 1, 2, 3, 4, 5, 6, 9, 10, 11, 14, 15, 16, 17, 20, 21, 24, 25, 26, 27, 30, 31, 32, 33, 36, 39, 40].getD i 0
def dl_X12_thingsOf : List (Nat × Instr × Nat) := [(0, .iconst 0, 1), (1, .istore_n 2, 1), (2, .iconst 0, 1), (3, .istore_n 3, 1), (4, .iload_n 3, 1), (5, .aload_n 0, 1), (6, .getfield 7, 3), (9, .iconst 2, 1), (10, .iaload, 1), (11, .if_icmp .ge 28, 3), (14, .iload_n 2, 1), (15, .aload_n 0, 1), (16, .iload_n 3, 1), (17, .invokevirtual 274, 3), (20, .iload_n 1, 1), (21, .if_icmp .ne 9, 3), (24, .iconst 1, 1), (25, .iload_n 3, 1), (26, .ishl, 1), (27, .goto 4, 3), (30, .iconst 0, 1), (31, .ior, 1), (32, .istore_n 2, 1), (33, .iinc 3 1, 3), (36, .goto (-32), 3), (39, .iload_n 2, 1), (40, .ireturn, 1)]
theorem dc_X12_thingsOf : DEC prog_14_method_67_code pc_X12_thingsOf dl_X12_thingsOf := DEC_of (by decide +kernel)
abbrev rm_X12_thingsOf : Room := { frames := 2, cells := 0, slots := 0, locals := 41 }
set_option maxRecDepth 20000 in
theorem sa_X12_thingsOf (l : Launch) : SNDALL l prog_14_method_67_code "GivenUpModel" 4 (some .int) rm_X12_thingsOf P_X12_thingsOf pc_X12_thingsOf := fun p e s m args below meth c cells slots Q D dA ad A RR hC hR => by
  have hM := RTX_room (R := rm_X12_thingsOf) hR
  exact ⟨st_iconst hC (n := 0) (x := 0) (dc_X12_thingsOf 0 (0, .iconst 0, 1) rfl rfl) rfl (by decide),
    st_istore_n hC (n := 1) (k := 2) (dc_X12_thingsOf 1 (1, .istore_n 2, 1) rfl rfl) rfl rfl (by decide),
    st_iconst hC (n := 2) (x := 0) (dc_X12_thingsOf 2 (2, .iconst 0, 1) rfl rfl) rfl (by decide),
    st_istore_n hC (n := 3) (k := 3) (dc_X12_thingsOf 3 (3, .istore_n 3, 1) rfl rfl) rfl rfl (by decide),
    st_iload_n hC (n := 4) (k := 3) (dc_X12_thingsOf 4 (4, .iload_n 3, 1) rfl rfl) rfl rfl,
    st_aload_n hC (n := 5) (k := 0) (dc_X12_thingsOf 5 (5, .aload_n 0, 1) rfl rfl) rfl rfl,
    st_getR hC (n := 6) (k := 12) (j := 0) (dc_X12_thingsOf 6 (6, .getfield 7, 3) rfl rfl) rfl clf_12 (by decide) rfl (by decide) wd_1552,
    st_iconst hC (n := 7) (x := 2) (dc_X12_thingsOf 7 (9, .iconst 2, 1) rfl rfl) rfl (by decide),
    st_iald hC (n := 8) (dc_X12_thingsOf 8 (10, .iaload, 1) rfl rfl) rfl,
    st_icge hC (n := 9) (dc_X12_thingsOf 9 (11, .if_icmp .ge 28, 3) rfl rfl) rfl (by decide),
    st_iload_n hC (n := 10) (k := 2) (dc_X12_thingsOf 10 (14, .iload_n 2, 1) rfl rfl) rfl rfl,
    st_aload_n hC (n := 11) (k := 0) (dc_X12_thingsOf 11 (15, .aload_n 0, 1) rfl rfl) rfl rfl,
    st_iload_n hC (n := 12) (k := 3) (dc_X12_thingsOf 12 (16, .iload_n 3, 1) rfl rfl) rfl rfl,
    st_callV hC (n := 13) (k := 12) (na := 1) (con_X12_ownerOf l) (dc_X12_thingsOf 13 (17, .invokevirtual 274, 3) rfl rfl) rfl wd_1896 wd_160 (by decide) ⟨rfl, rfl, by decide, by decide⟩ hM wd_1893 wd_1895 wd_87 clf_12,
    st_iload_n hC (n := 14) (k := 1) (dc_X12_thingsOf 14 (20, .iload_n 1, 1) rfl rfl) rfl rfl,
    st_icne hC (n := 15) (dc_X12_thingsOf 15 (21, .if_icmp .ne 9, 3) rfl rfl) rfl (by decide),
    st_iconst hC (n := 16) (x := 1) (dc_X12_thingsOf 16 (24, .iconst 1, 1) rfl rfl) rfl (by decide),
    st_iload_n hC (n := 17) (k := 3) (dc_X12_thingsOf 17 (25, .iload_n 3, 1) rfl rfl) rfl rfl,
    st_ishl hC (n := 18) (dc_X12_thingsOf 18 (26, .ishl, 1) rfl rfl) rfl,
    st_goto hC (n := 19) (dc_X12_thingsOf 19 (27, .goto 4, 3) rfl rfl) (by decide),
    st_iconst hC (n := 20) (x := 0) (dc_X12_thingsOf 20 (30, .iconst 0, 1) rfl rfl) rfl (by decide),
    st_ior hC (n := 21) (dc_X12_thingsOf 21 (31, .ior, 1) rfl rfl) rfl,
    st_istore_n hC (n := 22) (k := 2) (dc_X12_thingsOf 22 (32, .istore_n 2, 1) rfl rfl) rfl rfl (by decide),
    st_iinc hC (n := 23) (x := 1) (dc_X12_thingsOf 23 (33, .iinc 3 1, 3) rfl rfl) rfl (by decide) (by decide),
    st_goto hC (n := 24) (dc_X12_thingsOf 24 (36, .goto (-32), 3) rfl rfl) (by decide),
    st_iload_n hC (n := 25) (k := 2) (dc_X12_thingsOf 25 (39, .iload_n 2, 1) rfl rfl) rfl rfl,
    st_iret hC (n := 26) hR (dc_X12_thingsOf 26 (40, .ireturn, 1) rfl rfl), trivial⟩
theorem vc_X12_thingsOf : VC P_X12_thingsOf 4 Pre_X12_thingsOf Fn_X12_thingsOf := by
  rintro mm as hom hoa ⟨s, n, hn, hn12, rfl⟩
  refine ⟨Nat.le_of_ble_eq_true rfl, fun X h => ?_⟩
  have loop : ∀ t, t ≤ n → X 4 [some (vR 12 0), some (vI s), some (vI (gds (mm.1 54 0) s t)), some (vI (nI t))] [] mm := by
    refine up_ind n ?_ (fun t ht hk => ?_)
    · refine h (fun i => Nat.beq i 4) 3000 4 _ _ _ ?_
      repeat' (first | refine And.intro (by (first | exact rfl | exact Or.inl rfl | exact Or.inr rfl | exact bI_in | exact inb_o 3060 rfl rfl (by (try simp (disch := omega) only [hn, li, pk_mul, nI_add, nI_clamp]); rfl) (by omega) | exact inb_o 12 rfl rfl (by (try simp (disch := omega) only [hn, li, pk_mul, nI_add, nI_clamp]); rfl) (by omega) | exact inb_o 4 rfl rfl (by (try simp (disch := omega) only [hn, li, pk_mul, nI_add, nI_clamp]); rfl) (by omega) | exact inb_o 5 rfl rfl (by (try simp (disch := omega) only [hn, li, pk_mul, nI_add, nI_clamp]); rfl) (by omega) | exact inb_o 16 rfl rfl (by (try simp (disch := omega) only [hn, li, pk_mul, nI_add, nI_clamp]); rfl) (by omega) | exact inb_o 20 rfl rfl (by (try simp (disch := omega) only [hn, li, pk_mul, nI_add, nI_clamp]); rfl) (by omega) | exact inb_o 30 rfl rfl (by (try simp (disch := omega) only [hn, li, pk_mul, nI_add, nI_clamp]); rfl) (by omega) | exact inb_o 48 rfl rfl (by (try simp (disch := omega) only [hn, li, pk_mul, nI_add, nI_clamp]); rfl) (by omega) | exact inb_o 60 rfl rfl (by (try simp (disch := omega) only [hn, li, pk_mul, nI_add, nI_clamp]); rfl) (by omega) | exact inb_o 80 rfl rfl (by (try simp (disch := omega) only [hn, li, pk_mul, nI_add, nI_clamp]); rfl) (by omega) | exact inb_o 120 rfl rfl (by (try simp (disch := omega) only [hn, li, pk_mul, nI_add, nI_clamp]); rfl) (by omega) | exact inb_o 240 rfl rfl (by (try simp (disch := omega) only [hn, li, pk_mul, nI_add, nI_clamp]); rfl) (by omega) | exact inb_o 900 rfl rfl (by (try simp (disch := omega) only [hn, li, pk_mul, nI_add, nI_clamp]); rfl) (by omega) | exact inb_o 4096 rfl rfl (by (try simp (disch := omega) only [hn, li, pk_mul, nI_add, nI_clamp]); rfl) (by omega) | exact inb_o 3 rfl rfl (by (try simp (disch := omega) only [hn, li, pk_mul, nI_add, nI_clamp]); rfl) (by omega))) ?_ | refine br_t (by ((try simp (disch := omega) only [hn, li, pk_mul, nI_add, nI_clamp, nI_leI, nI_ltI, nI_eq, bI_0, bI_n0, Decidable.not_not, gu_m1]); first | done | omega | assumption)) ?_ | refine br_f (by ((try simp (disch := omega) only [hn, li, pk_mul, nI_add, nI_clamp, nI_leI, nI_ltI, nI_eq, bI_0, bI_n0, Decidable.not_not, gu_m1]); first | done | omega | assumption)) ?_ | refine brn_t (by ((try simp (disch := omega) only [hn, li, pk_mul, nI_add, nI_clamp, nI_leI, nI_ltI, nI_eq, bI_0, bI_n0, Decidable.not_not, gu_m1]); first | done | omega | assumption)) ?_ | refine brn_f (by ((try simp (disch := omega) only [hn, li, pk_mul, nI_add, nI_clamp, nI_leI, nI_ltI, nI_eq, bI_0, bI_n0, Decidable.not_not, gu_m1]); first | done | omega | assumption)) ?_ | refine br_c (fun _ => ?_) (fun _ => ?_) | refine brn_c (fun _ => ?_) (fun _ => ?_))
      (refine leaf ?_; simp (disch := omega) only [Fn_X12_thingsOf, hn, li, pk_mul, nI_add, nI_clamp])
    · refine h (fun i => Nat.beq i 4) 3000 4 _ _ _ ?_
      repeat' (first | refine And.intro (by (first | exact rfl | exact Or.inl rfl | exact Or.inr rfl | exact bI_in | exact inb_o 3060 rfl rfl (by (try simp (disch := omega) only [hn, li, pk_mul, nI_add, nI_clamp]); rfl) (by omega) | exact inb_o 12 rfl rfl (by (try simp (disch := omega) only [hn, li, pk_mul, nI_add, nI_clamp]); rfl) (by omega) | exact inb_o 4 rfl rfl (by (try simp (disch := omega) only [hn, li, pk_mul, nI_add, nI_clamp]); rfl) (by omega) | exact inb_o 5 rfl rfl (by (try simp (disch := omega) only [hn, li, pk_mul, nI_add, nI_clamp]); rfl) (by omega) | exact inb_o 16 rfl rfl (by (try simp (disch := omega) only [hn, li, pk_mul, nI_add, nI_clamp]); rfl) (by omega) | exact inb_o 20 rfl rfl (by (try simp (disch := omega) only [hn, li, pk_mul, nI_add, nI_clamp]); rfl) (by omega) | exact inb_o 30 rfl rfl (by (try simp (disch := omega) only [hn, li, pk_mul, nI_add, nI_clamp]); rfl) (by omega) | exact inb_o 48 rfl rfl (by (try simp (disch := omega) only [hn, li, pk_mul, nI_add, nI_clamp]); rfl) (by omega) | exact inb_o 60 rfl rfl (by (try simp (disch := omega) only [hn, li, pk_mul, nI_add, nI_clamp]); rfl) (by omega) | exact inb_o 80 rfl rfl (by (try simp (disch := omega) only [hn, li, pk_mul, nI_add, nI_clamp]); rfl) (by omega) | exact inb_o 120 rfl rfl (by (try simp (disch := omega) only [hn, li, pk_mul, nI_add, nI_clamp]); rfl) (by omega) | exact inb_o 240 rfl rfl (by (try simp (disch := omega) only [hn, li, pk_mul, nI_add, nI_clamp]); rfl) (by omega) | exact inb_o 900 rfl rfl (by (try simp (disch := omega) only [hn, li, pk_mul, nI_add, nI_clamp]); rfl) (by omega) | exact inb_o 4096 rfl rfl (by (try simp (disch := omega) only [hn, li, pk_mul, nI_add, nI_clamp]); rfl) (by omega) | exact inb_o 3 rfl rfl (by (try simp (disch := omega) only [hn, li, pk_mul, nI_add, nI_clamp]); rfl) (by omega))) ?_ | refine br_t (by ((try simp (disch := omega) only [hn, li, pk_mul, nI_add, nI_clamp, nI_leI, nI_ltI, nI_eq, bI_0, bI_n0, Decidable.not_not, gu_m1]); first | done | omega | assumption)) ?_ | refine br_f (by ((try simp (disch := omega) only [hn, li, pk_mul, nI_add, nI_clamp, nI_leI, nI_ltI, nI_eq, bI_0, bI_n0, Decidable.not_not, gu_m1]); first | done | omega | assumption)) ?_ | refine brn_t (by ((try simp (disch := omega) only [hn, li, pk_mul, nI_add, nI_clamp, nI_leI, nI_ltI, nI_eq, bI_0, bI_n0, Decidable.not_not, gu_m1]); first | done | omega | assumption)) ?_ | refine brn_f (by ((try simp (disch := omega) only [hn, li, pk_mul, nI_add, nI_clamp, nI_leI, nI_ltI, nI_eq, bI_0, bI_n0, Decidable.not_not, gu_m1]); first | done | omega | assumption)) ?_ | refine br_c (fun _ => ?_) (fun _ => ?_) | refine brn_c (fun _ => ?_) (fun _ => ?_))
      refine And.intro ⟨t, by omega, rfl⟩ ?_
      repeat' (first | refine And.intro (by (first | exact rfl | exact Or.inl rfl | exact Or.inr rfl | exact bI_in | exact inb_o 3060 rfl rfl (by (try simp (disch := omega) only [hn, li, pk_mul, nI_add, nI_clamp]); rfl) (by omega) | exact inb_o 12 rfl rfl (by (try simp (disch := omega) only [hn, li, pk_mul, nI_add, nI_clamp]); rfl) (by omega) | exact inb_o 4 rfl rfl (by (try simp (disch := omega) only [hn, li, pk_mul, nI_add, nI_clamp]); rfl) (by omega) | exact inb_o 5 rfl rfl (by (try simp (disch := omega) only [hn, li, pk_mul, nI_add, nI_clamp]); rfl) (by omega) | exact inb_o 16 rfl rfl (by (try simp (disch := omega) only [hn, li, pk_mul, nI_add, nI_clamp]); rfl) (by omega) | exact inb_o 20 rfl rfl (by (try simp (disch := omega) only [hn, li, pk_mul, nI_add, nI_clamp]); rfl) (by omega) | exact inb_o 30 rfl rfl (by (try simp (disch := omega) only [hn, li, pk_mul, nI_add, nI_clamp]); rfl) (by omega) | exact inb_o 48 rfl rfl (by (try simp (disch := omega) only [hn, li, pk_mul, nI_add, nI_clamp]); rfl) (by omega) | exact inb_o 60 rfl rfl (by (try simp (disch := omega) only [hn, li, pk_mul, nI_add, nI_clamp]); rfl) (by omega) | exact inb_o 80 rfl rfl (by (try simp (disch := omega) only [hn, li, pk_mul, nI_add, nI_clamp]); rfl) (by omega) | exact inb_o 120 rfl rfl (by (try simp (disch := omega) only [hn, li, pk_mul, nI_add, nI_clamp]); rfl) (by omega) | exact inb_o 240 rfl rfl (by (try simp (disch := omega) only [hn, li, pk_mul, nI_add, nI_clamp]); rfl) (by omega) | exact inb_o 900 rfl rfl (by (try simp (disch := omega) only [hn, li, pk_mul, nI_add, nI_clamp]); rfl) (by omega) | exact inb_o 4096 rfl rfl (by (try simp (disch := omega) only [hn, li, pk_mul, nI_add, nI_clamp]); rfl) (by omega) | exact inb_o 3 rfl rfl (by (try simp (disch := omega) only [hn, li, pk_mul, nI_add, nI_clamp]); rfl) (by omega))) ?_ | refine br_t (by ((try simp (disch := omega) only [hn, li, pk_mul, nI_add, nI_clamp, nI_leI, nI_ltI, nI_eq, bI_0, bI_n0, Decidable.not_not, gu_m1]); first | done | omega | assumption)) ?_ | refine br_f (by ((try simp (disch := omega) only [hn, li, pk_mul, nI_add, nI_clamp, nI_leI, nI_ltI, nI_eq, bI_0, bI_n0, Decidable.not_not, gu_m1]); first | done | omega | assumption)) ?_ | refine brn_t (by ((try simp (disch := omega) only [hn, li, pk_mul, nI_add, nI_clamp, nI_leI, nI_ltI, nI_eq, bI_0, bI_n0, Decidable.not_not, gu_m1]); first | done | omega | assumption)) ?_ | refine brn_f (by ((try simp (disch := omega) only [hn, li, pk_mul, nI_add, nI_clamp, nI_leI, nI_ltI, nI_eq, bI_0, bI_n0, Decidable.not_not, gu_m1]); first | done | omega | assumption)) ?_ | refine br_c (fun _ => ?_) (fun _ => ?_) | refine brn_c (fun _ => ?_) (fun _ => ?_))
      · rename_i h1
        simp (disch := omega) only [li, pk_mul, nI_add, nI_clamp, nI_leI, nI_ltI, nI_eq, bI_0, bI_n0, Decidable.not_not, gu_m1] at h1
        rw [gds, if_neg h1, ← nI_1] at hk
        exact hk
      · rename_i h1
        simp (disch := omega) only [li, pk_mul, nI_add, nI_clamp, nI_leI, nI_ltI, nI_eq, bI_0, bI_n0, Decidable.not_not, gu_m1] at h1
        rw [gds, if_pos h1, ← nI_1] at hk
        exact hk
  refine h (fun i => Nat.beq i 4) 3000 0 _ _ _ ?_
  exact loop 0 (Nat.zero_le n)
theorem con_X12_thingsOf (l : Launch) : CON l y_X12_thingsOf prog_14_method_67_code 4 (some .int) rm_X12_thingsOf Pre_X12_thingsOf Fn_X12_thingsOf := CON_of (by decide) rfl rfl (sa_X12_thingsOf l) vc_X12_thingsOf
