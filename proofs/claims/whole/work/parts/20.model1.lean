/-! PART 20: the model's small methods -/

/-- the model's STATUS is so -/
def stM (m : MM) (x : Int32) : MM := mI m 12 0 2 x

def Pre_X12_is : PreT := fun _ as => ∃ x : Int32, as = [vR 12 0, vI x]
def Fn_X12_is : FnT := fun m as => match as with
  | [_, Sum.inl x] => (some (vI (bI (x = 0))), stM m x)
  | _ => (none, m)
abbrev y_X12_is : MethodName := ⟨"GivenUpModel", "is", "(I)Z"⟩
def P_X12_is : List StpT := [s_aload 0, s_iload 1, s_putI 12 2, s_iload 1, s_ifne 7, s_ic (1), s_goto 8, s_ic (0), s_zret]
def pc_X12_is : Nat → Nat := fun i => [0, 1, 2, 5, 6, 9, 10, 13, 14].getD i 0
def dl_X12_is : List (Nat × Instr × Nat) := [(0, .aload_n 0, 1), (1, .iload_n 1, 1), (2, .putfield 81, 3), (5, .iload_n 1, 1), (6, .ifCond .ne 7, 3), (9, .iconst 1, 1), (10, .goto 4, 3), (13, .iconst 0, 1), (14, .ireturn, 1)]
theorem dc_X12_is : DEC prog_14_method_6_code pc_X12_is dl_X12_is := DEC_of (by decide +kernel)
abbrev rm_X12_is : Room := { frames := 0, cells := 0, slots := 0, locals := 0 }
set_option maxRecDepth 20000 in
theorem sa_X12_is (l : Launch) : SNDALL l prog_14_method_6_code "GivenUpModel" 2 (some .boolean) rm_X12_is P_X12_is pc_X12_is := fun p e s m args below meth c cells slots Q D dA ad A RR hC hR => by
  have hM := RTX_room (R := rm_X12_is) hR
  exact ⟨st_aload_n hC (n := 0) (k := 0) (dc_X12_is 0 (0, .aload_n 0, 1) rfl rfl) rfl rfl,
    st_iload_n hC (n := 1) (k := 1) (dc_X12_is 1 (1, .iload_n 1, 1) rfl rfl) rfl rfl,
    st_putI hC (n := 2) (k := 12) (j := 2) (dc_X12_is 2 (2, .putfield 81, 3) rfl rfl) rfl clf_12 (by decide) rfl rfl rfl wd_1554,
    st_iload_n hC (n := 3) (k := 1) (dc_X12_is 3 (5, .iload_n 1, 1) rfl rfl) rfl rfl,
    st_ifne hC (n := 4) (dc_X12_is 4 (6, .ifCond .ne 7, 3) rfl rfl) rfl (by decide),
    st_iconst hC (n := 5) (x := 1) (dc_X12_is 5 (9, .iconst 1, 1) rfl rfl) rfl (by decide),
    st_goto hC (n := 6) (dc_X12_is 6 (10, .goto 4, 3) rfl rfl) (by decide),
    st_iconst hC (n := 7) (x := 0) (dc_X12_is 7 (13, .iconst 0, 1) rfl rfl) rfl (by decide),
    st_zret hC (n := 8) hR (dc_X12_is 8 (14, .ireturn, 1) rfl rfl), trivial⟩
theorem vc_X12_is : VC P_X12_is 2 Pre_X12_is Fn_X12_is := by
  rintro mm as hom hoa ⟨x, rfl⟩
  refine ⟨Nat.le_of_ble_eq_true rfl, fun X h => ?_⟩
  refine h (fun _ => false) 3000 0 _ _ _ ?_
  repeat' (first | refine And.intro (by (first | exact rfl | exact Or.inl rfl | exact Or.inr rfl | exact bI_in | exact inb_o 3060 rfl rfl (by (try simp (disch := omega) only [li, pk_mul, nI_add, nI_clamp]); rfl) (by omega) | exact inb_o 12 rfl rfl (by (try simp (disch := omega) only [li, pk_mul, nI_add, nI_clamp]); rfl) (by omega) | exact inb_o 4 rfl rfl (by (try simp (disch := omega) only [li, pk_mul, nI_add, nI_clamp]); rfl) (by omega) | exact inb_o 5 rfl rfl (by (try simp (disch := omega) only [li, pk_mul, nI_add, nI_clamp]); rfl) (by omega) | exact inb_o 16 rfl rfl (by (try simp (disch := omega) only [li, pk_mul, nI_add, nI_clamp]); rfl) (by omega) | exact inb_o 20 rfl rfl (by (try simp (disch := omega) only [li, pk_mul, nI_add, nI_clamp]); rfl) (by omega) | exact inb_o 30 rfl rfl (by (try simp (disch := omega) only [li, pk_mul, nI_add, nI_clamp]); rfl) (by omega) | exact inb_o 48 rfl rfl (by (try simp (disch := omega) only [li, pk_mul, nI_add, nI_clamp]); rfl) (by omega) | exact inb_o 60 rfl rfl (by (try simp (disch := omega) only [li, pk_mul, nI_add, nI_clamp]); rfl) (by omega) | exact inb_o 80 rfl rfl (by (try simp (disch := omega) only [li, pk_mul, nI_add, nI_clamp]); rfl) (by omega) | exact inb_o 120 rfl rfl (by (try simp (disch := omega) only [li, pk_mul, nI_add, nI_clamp]); rfl) (by omega) | exact inb_o 240 rfl rfl (by (try simp (disch := omega) only [li, pk_mul, nI_add, nI_clamp]); rfl) (by omega) | exact inb_o 900 rfl rfl (by (try simp (disch := omega) only [li, pk_mul, nI_add, nI_clamp]); rfl) (by omega) | exact inb_o 4096 rfl rfl (by (try simp (disch := omega) only [li, pk_mul, nI_add, nI_clamp]); rfl) (by omega) | exact inb_o 3 rfl rfl (by (try simp (disch := omega) only [li, pk_mul, nI_add, nI_clamp]); rfl) (by omega))) ?_ | refine br_t (by ((try simp (disch := omega) only [li, pk_mul, nI_add, nI_clamp, nI_leI, nI_ltI, nI_eq, bI_0, bI_n0, Decidable.not_not, gu_m1]); first | done | omega | assumption)) ?_ | refine br_f (by ((try simp (disch := omega) only [li, pk_mul, nI_add, nI_clamp, nI_leI, nI_ltI, nI_eq, bI_0, bI_n0, Decidable.not_not, gu_m1]); first | done | omega | assumption)) ?_ | refine brn_t (by ((try simp (disch := omega) only [li, pk_mul, nI_add, nI_clamp, nI_leI, nI_ltI, nI_eq, bI_0, bI_n0, Decidable.not_not, gu_m1]); first | done | omega | assumption)) ?_ | refine brn_f (by ((try simp (disch := omega) only [li, pk_mul, nI_add, nI_clamp, nI_leI, nI_ltI, nI_eq, bI_0, bI_n0, Decidable.not_not, gu_m1]); first | done | omega | assumption)) ?_ | refine br_c (fun _ => ?_) (fun _ => ?_) | refine brn_c (fun _ => ?_) (fun _ => ?_))
  all_goals (refine leaf ?_; (try simp (disch := omega) only [Fn_X12_is, stM, li, pk_mul, nI_add, nI_clamp, bI] at *); (try simp [*]); done)
theorem con_X12_is (l : Launch) : CON l y_X12_is prog_14_method_6_code 2 (some .boolean) rm_X12_is Pre_X12_is Fn_X12_is := CON_of (by decide) rfl rfl (sa_X12_is l) vc_X12_is
def Pre_X12_refuse : PreT := fun _ as => ∃ x : Int32, as = [vR 12 0, vI x]
def Fn_X12_refuse : FnT := fun m as => match as with
  | [_, Sum.inl x] => (some (vI (-1)), stM m x)
  | _ => (none, m)
abbrev y_X12_refuse : MethodName := ⟨"GivenUpModel", "refuse", "(I)I"⟩
def P_X12_refuse : List StpT := [s_aload 0, s_iload 1, s_putI 12 2, s_ic (-1), s_iret]
def pc_X12_refuse : Nat → Nat := fun i => [0, 1, 2, 5, 6].getD i 0
def dl_X12_refuse : List (Nat × Instr × Nat) := [(0, .aload_n 0, 1), (1, .iload_n 1, 1), (2, .putfield 81, 3), (5, .iconst (-1), 1), (6, .ireturn, 1)]
theorem dc_X12_refuse : DEC prog_14_method_7_code pc_X12_refuse dl_X12_refuse := DEC_of (by decide +kernel)
abbrev rm_X12_refuse : Room := { frames := 0, cells := 0, slots := 0, locals := 0 }
set_option maxRecDepth 20000 in
theorem sa_X12_refuse (l : Launch) : SNDALL l prog_14_method_7_code "GivenUpModel" 2 (some .int) rm_X12_refuse P_X12_refuse pc_X12_refuse := fun p e s m args below meth c cells slots Q D dA ad A RR hC hR => by
  have hM := RTX_room (R := rm_X12_refuse) hR
  exact ⟨st_aload_n hC (n := 0) (k := 0) (dc_X12_refuse 0 (0, .aload_n 0, 1) rfl rfl) rfl rfl,
    st_iload_n hC (n := 1) (k := 1) (dc_X12_refuse 1 (1, .iload_n 1, 1) rfl rfl) rfl rfl,
    st_putI hC (n := 2) (k := 12) (j := 2) (dc_X12_refuse 2 (2, .putfield 81, 3) rfl rfl) rfl clf_12 (by decide) rfl rfl rfl wd_1554,
    st_iconst hC (n := 3) (x := (-1)) (dc_X12_refuse 3 (5, .iconst (-1), 1) rfl rfl) rfl (by decide),
    st_iret hC (n := 4) hR (dc_X12_refuse 4 (6, .ireturn, 1) rfl rfl), trivial⟩
theorem vc_X12_refuse : VC P_X12_refuse 2 Pre_X12_refuse Fn_X12_refuse := by
  rintro mm as hom hoa ⟨x, rfl⟩
  refine ⟨Nat.le_of_ble_eq_true rfl, fun X h => ?_⟩
  refine h (fun _ => false) 3000 0 _ _ _ ?_
  exact rfl
theorem con_X12_refuse (l : Launch) : CON l y_X12_refuse prog_14_method_7_code 2 (some .int) rm_X12_refuse Pre_X12_refuse Fn_X12_refuse := CON_of (by decide) rfl rfl (sa_X12_refuse l) vc_X12_refuse
def Pre_X12_gives : PreT := fun _ as => ∃ x : Int32, as = [vR 12 0, vI x]
def Fn_X12_gives : FnT := fun m as => match as with
  | [_, Sum.inl x] => (some (vI x), stM m 0)
  | _ => (none, m)
abbrev y_X12_gives : MethodName := ⟨"GivenUpModel", "gives", "(I)I"⟩
def P_X12_gives : List StpT := [s_aload 0, s_ic (0), s_putI 12 2, s_iload 1, s_iret]
def pc_X12_gives : Nat → Nat := fun i => [0, 1, 2, 5, 6].getD i 0
def dl_X12_gives : List (Nat × Instr × Nat) := [(0, .aload_n 0, 1), (1, .iconst 0, 1), (2, .putfield 81, 3), (5, .iload_n 1, 1), (6, .ireturn, 1)]
theorem dc_X12_gives : DEC prog_14_method_8_code pc_X12_gives dl_X12_gives := DEC_of (by decide +kernel)
abbrev rm_X12_gives : Room := { frames := 0, cells := 0, slots := 0, locals := 0 }
set_option maxRecDepth 20000 in
theorem sa_X12_gives (l : Launch) : SNDALL l prog_14_method_8_code "GivenUpModel" 2 (some .int) rm_X12_gives P_X12_gives pc_X12_gives := fun p e s m args below meth c cells slots Q D dA ad A RR hC hR => by
  have hM := RTX_room (R := rm_X12_gives) hR
  exact ⟨st_aload_n hC (n := 0) (k := 0) (dc_X12_gives 0 (0, .aload_n 0, 1) rfl rfl) rfl rfl,
    st_iconst hC (n := 1) (x := 0) (dc_X12_gives 1 (1, .iconst 0, 1) rfl rfl) rfl (by decide),
    st_putI hC (n := 2) (k := 12) (j := 2) (dc_X12_gives 2 (2, .putfield 81, 3) rfl rfl) rfl clf_12 (by decide) rfl rfl rfl wd_1554,
    st_iload_n hC (n := 3) (k := 1) (dc_X12_gives 3 (5, .iload_n 1, 1) rfl rfl) rfl rfl,
    st_iret hC (n := 4) hR (dc_X12_gives 4 (6, .ireturn, 1) rfl rfl), trivial⟩
theorem vc_X12_gives : VC P_X12_gives 2 Pre_X12_gives Fn_X12_gives := by
  rintro mm as hom hoa ⟨x, rfl⟩
  refine ⟨Nat.le_of_ble_eq_true rfl, fun X h => ?_⟩
  refine h (fun _ => false) 3000 0 _ _ _ ?_
  exact rfl
theorem con_X12_gives (l : Launch) : CON l y_X12_gives prog_14_method_8_code 2 (some .int) rm_X12_gives Pre_X12_gives Fn_X12_gives := CON_of (by decide) rfl rfl (sa_X12_gives l) vc_X12_gives
def Pre_X12_givesLong : PreT := fun _ as => ∃ x : Int64, as = [vR 12 0, vL x]
def Fn_X12_givesLong : FnT := fun m as => match as with
  | [_, Sum.inr (Sum.inl x)] => (some (vL x), stM m 0)
  | _ => (none, m)
abbrev y_X12_givesLong : MethodName := ⟨"GivenUpModel", "givesLong", "(J)J"⟩
def P_X12_givesLong : List StpT := [s_aload 0, s_ic (0), s_putI 12 2, s_lload 1, s_lret]
def pc_X12_givesLong : Nat → Nat := fun i => [0, 1, 2, 5, 6].getD i 0
def dl_X12_givesLong : List (Nat × Instr × Nat) := [(0, .aload_n 0, 1), (1, .iconst 0, 1), (2, .putfield 81, 3), (5, .lload_n 1, 1), (6, .lreturn, 1)]
theorem dc_X12_givesLong : DEC prog_14_method_9_code pc_X12_givesLong dl_X12_givesLong := DEC_of (by decide +kernel)
abbrev rm_X12_givesLong : Room := { frames := 0, cells := 0, slots := 0, locals := 0 }
set_option maxRecDepth 20000 in
theorem sa_X12_givesLong (l : Launch) : SNDALL l prog_14_method_9_code "GivenUpModel" 3 (some .long) rm_X12_givesLong P_X12_givesLong pc_X12_givesLong := fun p e s m args below meth c cells slots Q D dA ad A RR hC hR => by
  have hM := RTX_room (R := rm_X12_givesLong) hR
  exact ⟨st_aload_n hC (n := 0) (k := 0) (dc_X12_givesLong 0 (0, .aload_n 0, 1) rfl rfl) rfl rfl,
    st_iconst hC (n := 1) (x := 0) (dc_X12_givesLong 1 (1, .iconst 0, 1) rfl rfl) rfl (by decide),
    st_putI hC (n := 2) (k := 12) (j := 2) (dc_X12_givesLong 2 (2, .putfield 81, 3) rfl rfl) rfl clf_12 (by decide) rfl rfl rfl wd_1554,
    st_lload_n hC (n := 3) (k := 1) (dc_X12_givesLong 3 (5, .lload_n 1, 1) rfl rfl) rfl rfl,
    st_lret hC (n := 4) hR (dc_X12_givesLong 4 (6, .lreturn, 1) rfl rfl), trivial⟩
theorem vc_X12_givesLong : VC P_X12_givesLong 3 Pre_X12_givesLong Fn_X12_givesLong := by
  rintro mm as hom hoa ⟨x, rfl⟩
  refine ⟨Nat.le_of_ble_eq_true rfl, fun X h => ?_⟩
  refine h (fun _ => false) 3000 0 _ _ _ ?_
  exact rfl
theorem con_X12_givesLong (l : Launch) : CON l y_X12_givesLong prog_14_method_9_code 3 (some .long) rm_X12_givesLong Pre_X12_givesLong Fn_X12_givesLong := CON_of (by decide) rfl rfl (sa_X12_givesLong l) vc_X12_givesLong
def Pre_X12_orNone : PreT := fun _ as => ∃ x : Int32, as = [vR 12 0, vI x]
def Fn_X12_orNone : FnT := fun m as => match as with
  | [_, Sum.inl x] => (some (vI x), stM m (if x = -1 then 6 else 0))
  | _ => (none, m)
abbrev y_X12_orNone : MethodName := ⟨"GivenUpModel", "orNone", "(I)I"⟩
def P_X12_orNone : List StpT := [s_iload 1, s_ic (-1), s_icne 7, s_aload 0, s_ic (6), s_callV 12 1 Pre_X12_refuse Fn_X12_refuse, s_goto 10, s_aload 0, s_iload 1, s_callV 12 1 Pre_X12_gives Fn_X12_gives, s_iret]
def pc_X12_orNone : Nat → Nat := fun i => [0, 1, 2, 5, 6, 8, 11, 14, 15, 16, 19].getD i 0
def dl_X12_orNone : List (Nat × Instr × Nat) := [(0, .iload_n 1, 1), (1, .iconst (-1), 1), (2, .if_icmp .ne 12, 3), (5, .aload_n 0, 1), (6, .bipush 6, 2), (8, .invokevirtual 87, 3), (11, .goto 8, 3), (14, .aload_n 0, 1), (15, .iload_n 1, 1), (16, .invokevirtual 91, 3), (19, .ireturn, 1)]
theorem dc_X12_orNone : DEC prog_14_method_10_code pc_X12_orNone dl_X12_orNone := DEC_of (by decide +kernel)
abbrev rm_X12_orNone : Room := { frames := 1, cells := 0, slots := 0, locals := 21 }
set_option maxRecDepth 20000 in
theorem sa_X12_orNone (l : Launch) : SNDALL l prog_14_method_10_code "GivenUpModel" 2 (some .int) rm_X12_orNone P_X12_orNone pc_X12_orNone := fun p e s m args below meth c cells slots Q D dA ad A RR hC hR => by
  have hM := RTX_room (R := rm_X12_orNone) hR
  exact ⟨st_iload_n hC (n := 0) (k := 1) (dc_X12_orNone 0 (0, .iload_n 1, 1) rfl rfl) rfl rfl,
    st_iconst hC (n := 1) (x := (-1)) (dc_X12_orNone 1 (1, .iconst (-1), 1) rfl rfl) rfl (by decide),
    st_icne hC (n := 2) (dc_X12_orNone 2 (2, .if_icmp .ne 12, 3) rfl rfl) rfl (by decide),
    st_aload_n hC (n := 3) (k := 0) (dc_X12_orNone 3 (5, .aload_n 0, 1) rfl rfl) rfl rfl,
    st_bipush hC (n := 4) (x := 6) (dc_X12_orNone 4 (6, .bipush 6, 2) rfl rfl) rfl (by decide),
    st_callV hC (n := 5) (k := 12) (na := 1) (con_X12_refuse l) (dc_X12_orNone 5 (8, .invokevirtual 87, 3) rfl rfl) rfl wd_1758 wd_160 (by decide) ⟨rfl, rfl, by decide, by decide⟩ hM wd_1755 wd_1757 wd_57 clf_12,
    st_goto hC (n := 6) (dc_X12_orNone 6 (11, .goto 8, 3) rfl rfl) (by decide),
    st_aload_n hC (n := 7) (k := 0) (dc_X12_orNone 7 (14, .aload_n 0, 1) rfl rfl) rfl rfl,
    st_iload_n hC (n := 8) (k := 1) (dc_X12_orNone 8 (15, .iload_n 1, 1) rfl rfl) rfl rfl,
    st_callV hC (n := 9) (k := 12) (na := 1) (con_X12_gives l) (dc_X12_orNone 9 (16, .invokevirtual 91, 3) rfl rfl) rfl wd_1849 wd_160 (by decide) ⟨rfl, rfl, by decide, by decide⟩ hM wd_1846 wd_1848 wd_79 clf_12,
    st_iret hC (n := 10) hR (dc_X12_orNone 10 (19, .ireturn, 1) rfl rfl), trivial⟩
theorem vc_X12_orNone : VC P_X12_orNone 2 Pre_X12_orNone Fn_X12_orNone := by
  rintro mm as hom hoa ⟨x, rfl⟩
  refine ⟨Nat.le_of_ble_eq_true rfl, fun X h => ?_⟩
  refine h (fun _ => false) 3000 0 _ _ _ ?_
  refine brn_c (fun h1 => ?_) (fun h1 => ?_)
  · refine And.intro ⟨_, rfl⟩ ?_
    refine leaf ?_
    simp only [Fn_X12_orNone, if_neg h1]
    rfl
  · refine And.intro ⟨_, rfl⟩ ?_
    refine leaf ?_
    have e : x = -1 := h1
    subst e
    rfl
theorem con_X12_orNone (l : Launch) : CON l y_X12_orNone prog_14_method_10_code 2 (some .int) rm_X12_orNone Pre_X12_orNone Fn_X12_orNone := CON_of (by decide) rfl rfl (sa_X12_orNone l) vc_X12_orNone
def Pre_X12_isTray : PreT := fun _ as => ∃ x : Int32, as = [vI x]
def Fn_X12_isTray : FnT := fun m as => match as with
  | [Sum.inl x] => (some (vI (bI (¬ x < 0 ∧ ¬ 4 ≤ x))), m)
  | _ => (none, m)
abbrev y_X12_isTray : MethodName := ⟨"GivenUpModel", "isTray", "(I)Z"⟩
def P_X12_isTray : List StpT := [s_iload 0, s_iflt 7, s_iload 0, s_ic (4), s_icge 7, s_ic (1), s_goto 8, s_ic (0), s_zret]
def pc_X12_isTray : Nat → Nat := fun i => [0, 1, 4, 5, 6, 9, 10, 13, 14].getD i 0
def dl_X12_isTray : List (Nat × Instr × Nat) := [(0, .iload_n 0, 1), (1, .ifCond .lt 12, 3), (4, .iload_n 0, 1), (5, .iconst 4, 1), (6, .if_icmp .ge 7, 3), (9, .iconst 1, 1), (10, .goto 4, 3), (13, .iconst 0, 1), (14, .ireturn, 1)]
theorem dc_X12_isTray : DEC prog_14_method_12_code pc_X12_isTray dl_X12_isTray := DEC_of (by decide +kernel)
abbrev rm_X12_isTray : Room := { frames := 0, cells := 0, slots := 0, locals := 0 }
set_option maxRecDepth 20000 in
theorem sa_X12_isTray (l : Launch) : SNDALL l prog_14_method_12_code "GivenUpModel" 1 (some .boolean) rm_X12_isTray P_X12_isTray pc_X12_isTray := fun p e s m args below meth c cells slots Q D dA ad A RR hC hR => by
  have hM := RTX_room (R := rm_X12_isTray) hR
  exact ⟨st_iload_n hC (n := 0) (k := 0) (dc_X12_isTray 0 (0, .iload_n 0, 1) rfl rfl) rfl rfl,
    st_iflt hC (n := 1) (dc_X12_isTray 1 (1, .ifCond .lt 12, 3) rfl rfl) rfl (by decide),
    st_iload_n hC (n := 2) (k := 0) (dc_X12_isTray 2 (4, .iload_n 0, 1) rfl rfl) rfl rfl,
    st_iconst hC (n := 3) (x := 4) (dc_X12_isTray 3 (5, .iconst 4, 1) rfl rfl) rfl (by decide),
    st_icge hC (n := 4) (dc_X12_isTray 4 (6, .if_icmp .ge 7, 3) rfl rfl) rfl (by decide),
    st_iconst hC (n := 5) (x := 1) (dc_X12_isTray 5 (9, .iconst 1, 1) rfl rfl) rfl (by decide),
    st_goto hC (n := 6) (dc_X12_isTray 6 (10, .goto 4, 3) rfl rfl) (by decide),
    st_iconst hC (n := 7) (x := 0) (dc_X12_isTray 7 (13, .iconst 0, 1) rfl rfl) rfl (by decide),
    st_zret hC (n := 8) hR (dc_X12_isTray 8 (14, .ireturn, 1) rfl rfl), trivial⟩
theorem vc_X12_isTray : VC P_X12_isTray 1 Pre_X12_isTray Fn_X12_isTray := by
  rintro mm as hom hoa ⟨x, rfl⟩
  refine ⟨Nat.le_of_ble_eq_true rfl, fun X h => ?_⟩
  refine h (fun _ => false) 3000 0 _ _ _ ?_
  repeat' (first | refine And.intro (by (first | exact rfl | exact Or.inl rfl | exact Or.inr rfl | exact bI_in | exact inb_o 3060 rfl rfl (by (try simp (disch := omega) only [li, pk_mul, nI_add, nI_clamp]); rfl) (by omega) | exact inb_o 12 rfl rfl (by (try simp (disch := omega) only [li, pk_mul, nI_add, nI_clamp]); rfl) (by omega) | exact inb_o 4 rfl rfl (by (try simp (disch := omega) only [li, pk_mul, nI_add, nI_clamp]); rfl) (by omega) | exact inb_o 5 rfl rfl (by (try simp (disch := omega) only [li, pk_mul, nI_add, nI_clamp]); rfl) (by omega) | exact inb_o 16 rfl rfl (by (try simp (disch := omega) only [li, pk_mul, nI_add, nI_clamp]); rfl) (by omega) | exact inb_o 20 rfl rfl (by (try simp (disch := omega) only [li, pk_mul, nI_add, nI_clamp]); rfl) (by omega) | exact inb_o 30 rfl rfl (by (try simp (disch := omega) only [li, pk_mul, nI_add, nI_clamp]); rfl) (by omega) | exact inb_o 48 rfl rfl (by (try simp (disch := omega) only [li, pk_mul, nI_add, nI_clamp]); rfl) (by omega) | exact inb_o 60 rfl rfl (by (try simp (disch := omega) only [li, pk_mul, nI_add, nI_clamp]); rfl) (by omega) | exact inb_o 80 rfl rfl (by (try simp (disch := omega) only [li, pk_mul, nI_add, nI_clamp]); rfl) (by omega) | exact inb_o 120 rfl rfl (by (try simp (disch := omega) only [li, pk_mul, nI_add, nI_clamp]); rfl) (by omega) | exact inb_o 240 rfl rfl (by (try simp (disch := omega) only [li, pk_mul, nI_add, nI_clamp]); rfl) (by omega) | exact inb_o 900 rfl rfl (by (try simp (disch := omega) only [li, pk_mul, nI_add, nI_clamp]); rfl) (by omega) | exact inb_o 4096 rfl rfl (by (try simp (disch := omega) only [li, pk_mul, nI_add, nI_clamp]); rfl) (by omega) | exact inb_o 3 rfl rfl (by (try simp (disch := omega) only [li, pk_mul, nI_add, nI_clamp]); rfl) (by omega))) ?_ | refine br_t (by ((try simp (disch := omega) only [li, pk_mul, nI_add, nI_clamp, nI_leI, nI_ltI, nI_eq, bI_0, bI_n0, Decidable.not_not, gu_m1]); first | done | omega | assumption)) ?_ | refine br_f (by ((try simp (disch := omega) only [li, pk_mul, nI_add, nI_clamp, nI_leI, nI_ltI, nI_eq, bI_0, bI_n0, Decidable.not_not, gu_m1]); first | done | omega | assumption)) ?_ | refine brn_t (by ((try simp (disch := omega) only [li, pk_mul, nI_add, nI_clamp, nI_leI, nI_ltI, nI_eq, bI_0, bI_n0, Decidable.not_not, gu_m1]); first | done | omega | assumption)) ?_ | refine brn_f (by ((try simp (disch := omega) only [li, pk_mul, nI_add, nI_clamp, nI_leI, nI_ltI, nI_eq, bI_0, bI_n0, Decidable.not_not, gu_m1]); first | done | omega | assumption)) ?_ | refine br_c (fun _ => ?_) (fun _ => ?_) | refine brn_c (fun _ => ?_) (fun _ => ?_))
  all_goals (refine leaf ?_; (try simp (disch := omega) only [Fn_X12_isTray, li, pk_mul, nI_add, nI_clamp, bI] at *); (try simp [*]); done)
theorem con_X12_isTray (l : Launch) : CON l y_X12_isTray prog_14_method_12_code 1 (some .boolean) rm_X12_isTray Pre_X12_isTray Fn_X12_isTray := CON_of (by decide) rfl rfl (sa_X12_isTray l) vc_X12_isTray
def Pre_X12_cut : PreT := fun _ as => ∃ (v : Int64) (x : Int32), as = [vL v, vI x]
def cutV (v : Int64) (x : Int32) : Int64 := if x = 0 then v.toInt32.toInt8.toInt32.toInt64 else if x = 1 then v.toInt32.toInt16.toInt32.toInt64 else if x = 2 then v.toInt32.toInt64 else v
def Fn_X12_cut : FnT := fun m as => match as with
  | [Sum.inr (Sum.inl v), Sum.inl x] => (some (vL (cutV v x)), m)
  | _ => (none, m)
abbrev y_X12_cut : MethodName := ⟨"GivenUpModel", "cut", "(JI)J"⟩
def P_X12_cut : List StpT := [s_iload 2, s_ifne 7, s_lload 0, s_l2i, s_i2b, s_i2l, s_goto 23, s_iload 2, s_ic (1), s_icne 15, s_lload 0, s_l2i, s_i2s, s_i2l, s_goto 23, s_iload 2, s_ic (2), s_icne 22, s_lload 0, s_l2i, s_i2l, s_goto 23, s_lload 0, s_lret]
def pc_X12_cut : Nat → Nat := fun i => [0, 1, 4, 5, 6, 7, 8, 11, 12, 13, 16, 17, 18, 19, 20, 23, 24, 25, 28, 29, 30, 31, 34, 35].getD i 0
def dl_X12_cut : List (Nat × Instr × Nat) := [(0, .iload_n 2, 1), (1, .ifCond .ne 10, 3), (4, .lload_n 0, 1), (5, .l2i, 1), (6, .i2b, 1), (7, .i2l, 1), (8, .goto 27, 3), (11, .iload_n 2, 1), (12, .iconst 1, 1), (13, .if_icmp .ne 10, 3), (16, .lload_n 0, 1), (17, .l2i, 1), (18, .i2s, 1), (19, .i2l, 1), (20, .goto 15, 3), (23, .iload_n 2, 1), (24, .iconst 2, 1), (25, .if_icmp .ne 9, 3), (28, .lload_n 0, 1), (29, .l2i, 1), (30, .i2l, 1), (31, .goto 4, 3), (34, .lload_n 0, 1), (35, .lreturn, 1)]
theorem dc_X12_cut : DEC prog_14_method_13_code pc_X12_cut dl_X12_cut := DEC_of (by decide +kernel)
abbrev rm_X12_cut : Room := { frames := 0, cells := 0, slots := 0, locals := 0 }
set_option maxRecDepth 20000 in
theorem sa_X12_cut (l : Launch) : SNDALL l prog_14_method_13_code "GivenUpModel" 3 (some .long) rm_X12_cut P_X12_cut pc_X12_cut := fun p e s m args below meth c cells slots Q D dA ad A RR hC hR => by
  have hM := RTX_room (R := rm_X12_cut) hR
  exact ⟨st_iload_n hC (n := 0) (k := 2) (dc_X12_cut 0 (0, .iload_n 2, 1) rfl rfl) rfl rfl,
    st_ifne hC (n := 1) (dc_X12_cut 1 (1, .ifCond .ne 10, 3) rfl rfl) rfl (by decide),
    st_lload_n hC (n := 2) (k := 0) (dc_X12_cut 2 (4, .lload_n 0, 1) rfl rfl) rfl rfl,
    st_l2i hC (n := 3) (dc_X12_cut 3 (5, .l2i, 1) rfl rfl) rfl,
    st_i2b hC (n := 4) (dc_X12_cut 4 (6, .i2b, 1) rfl rfl) rfl,
    st_i2l hC (n := 5) (dc_X12_cut 5 (7, .i2l, 1) rfl rfl) rfl,
    st_goto hC (n := 6) (dc_X12_cut 6 (8, .goto 27, 3) rfl rfl) (by decide),
    st_iload_n hC (n := 7) (k := 2) (dc_X12_cut 7 (11, .iload_n 2, 1) rfl rfl) rfl rfl,
    st_iconst hC (n := 8) (x := 1) (dc_X12_cut 8 (12, .iconst 1, 1) rfl rfl) rfl (by decide),
    st_icne hC (n := 9) (dc_X12_cut 9 (13, .if_icmp .ne 10, 3) rfl rfl) rfl (by decide),
    st_lload_n hC (n := 10) (k := 0) (dc_X12_cut 10 (16, .lload_n 0, 1) rfl rfl) rfl rfl,
    st_l2i hC (n := 11) (dc_X12_cut 11 (17, .l2i, 1) rfl rfl) rfl,
    st_i2s hC (n := 12) (dc_X12_cut 12 (18, .i2s, 1) rfl rfl) rfl,
    st_i2l hC (n := 13) (dc_X12_cut 13 (19, .i2l, 1) rfl rfl) rfl,
    st_goto hC (n := 14) (dc_X12_cut 14 (20, .goto 15, 3) rfl rfl) (by decide),
    st_iload_n hC (n := 15) (k := 2) (dc_X12_cut 15 (23, .iload_n 2, 1) rfl rfl) rfl rfl,
    st_iconst hC (n := 16) (x := 2) (dc_X12_cut 16 (24, .iconst 2, 1) rfl rfl) rfl (by decide),
    st_icne hC (n := 17) (dc_X12_cut 17 (25, .if_icmp .ne 9, 3) rfl rfl) rfl (by decide),
    st_lload_n hC (n := 18) (k := 0) (dc_X12_cut 18 (28, .lload_n 0, 1) rfl rfl) rfl rfl,
    st_l2i hC (n := 19) (dc_X12_cut 19 (29, .l2i, 1) rfl rfl) rfl,
    st_i2l hC (n := 20) (dc_X12_cut 20 (30, .i2l, 1) rfl rfl) rfl,
    st_goto hC (n := 21) (dc_X12_cut 21 (31, .goto 4, 3) rfl rfl) (by decide),
    st_lload_n hC (n := 22) (k := 0) (dc_X12_cut 22 (34, .lload_n 0, 1) rfl rfl) rfl rfl,
    st_lret hC (n := 23) hR (dc_X12_cut 23 (35, .lreturn, 1) rfl rfl), trivial⟩
theorem vc_X12_cut : VC P_X12_cut 3 Pre_X12_cut Fn_X12_cut := by
  rintro mm as hom hoa ⟨v, x, rfl⟩
  refine ⟨Nat.le_of_ble_eq_true rfl, fun X h => ?_⟩
  refine h (fun _ => false) 3000 0 _ _ _ ?_
  repeat' (first | refine And.intro (by (first | exact rfl | exact Or.inl rfl | exact Or.inr rfl | exact bI_in | exact inb_o 3060 rfl rfl (by (try simp (disch := omega) only [li, pk_mul, nI_add, nI_clamp]); rfl) (by omega) | exact inb_o 12 rfl rfl (by (try simp (disch := omega) only [li, pk_mul, nI_add, nI_clamp]); rfl) (by omega) | exact inb_o 4 rfl rfl (by (try simp (disch := omega) only [li, pk_mul, nI_add, nI_clamp]); rfl) (by omega) | exact inb_o 5 rfl rfl (by (try simp (disch := omega) only [li, pk_mul, nI_add, nI_clamp]); rfl) (by omega) | exact inb_o 16 rfl rfl (by (try simp (disch := omega) only [li, pk_mul, nI_add, nI_clamp]); rfl) (by omega) | exact inb_o 20 rfl rfl (by (try simp (disch := omega) only [li, pk_mul, nI_add, nI_clamp]); rfl) (by omega) | exact inb_o 30 rfl rfl (by (try simp (disch := omega) only [li, pk_mul, nI_add, nI_clamp]); rfl) (by omega) | exact inb_o 48 rfl rfl (by (try simp (disch := omega) only [li, pk_mul, nI_add, nI_clamp]); rfl) (by omega) | exact inb_o 60 rfl rfl (by (try simp (disch := omega) only [li, pk_mul, nI_add, nI_clamp]); rfl) (by omega) | exact inb_o 80 rfl rfl (by (try simp (disch := omega) only [li, pk_mul, nI_add, nI_clamp]); rfl) (by omega) | exact inb_o 120 rfl rfl (by (try simp (disch := omega) only [li, pk_mul, nI_add, nI_clamp]); rfl) (by omega) | exact inb_o 240 rfl rfl (by (try simp (disch := omega) only [li, pk_mul, nI_add, nI_clamp]); rfl) (by omega) | exact inb_o 900 rfl rfl (by (try simp (disch := omega) only [li, pk_mul, nI_add, nI_clamp]); rfl) (by omega) | exact inb_o 4096 rfl rfl (by (try simp (disch := omega) only [li, pk_mul, nI_add, nI_clamp]); rfl) (by omega) | exact inb_o 3 rfl rfl (by (try simp (disch := omega) only [li, pk_mul, nI_add, nI_clamp]); rfl) (by omega))) ?_ | refine br_t (by ((try simp (disch := omega) only [li, pk_mul, nI_add, nI_clamp, nI_leI, nI_ltI, nI_eq, bI_0, bI_n0, Decidable.not_not, gu_m1]); first | done | omega | assumption)) ?_ | refine br_f (by ((try simp (disch := omega) only [li, pk_mul, nI_add, nI_clamp, nI_leI, nI_ltI, nI_eq, bI_0, bI_n0, Decidable.not_not, gu_m1]); first | done | omega | assumption)) ?_ | refine brn_t (by ((try simp (disch := omega) only [li, pk_mul, nI_add, nI_clamp, nI_leI, nI_ltI, nI_eq, bI_0, bI_n0, Decidable.not_not, gu_m1]); first | done | omega | assumption)) ?_ | refine brn_f (by ((try simp (disch := omega) only [li, pk_mul, nI_add, nI_clamp, nI_leI, nI_ltI, nI_eq, bI_0, bI_n0, Decidable.not_not, gu_m1]); first | done | omega | assumption)) ?_ | refine br_c (fun _ => ?_) (fun _ => ?_) | refine brn_c (fun _ => ?_) (fun _ => ?_))
  all_goals (refine leaf ?_; simp only [Fn_X12_cut, cutV]; simp_all)
theorem con_X12_cut (l : Launch) : CON l y_X12_cut prog_14_method_13_code 3 (some .long) rm_X12_cut Pre_X12_cut Fn_X12_cut := CON_of (by decide) rfl rfl (sa_X12_cut l) vc_X12_cut
def Pre_X12_isFrom : PreT := fun _ as => ∃ v a b : Int64, as = [vL v, vL a, vL b]
def Fn_X12_isFrom : FnT := fun m as => match as with
  | [Sum.inr (Sum.inl v), Sum.inr (Sum.inl a), Sum.inr (Sum.inl b)] => (some (vI (bI (¬ lg_cmp v a < 0 ∧ ¬ 0 < lg_cmp v b))), m)
  | _ => (none, m)
abbrev y_X12_isFrom : MethodName := ⟨"GivenUpModel", "isFrom", "(JJJ)Z"⟩
def P_X12_isFrom : List StpT := [s_lload 0, s_lload 2, s_lcmp, s_iflt 10, s_lload 0, s_lload 4, s_lcmp, s_ifgt 10, s_ic (1), s_goto 11, s_ic (0), s_zret]
def pc_X12_isFrom : Nat → Nat := fun i => [0, 1, 2, 3, 6, 7, 9, 10, 13, 14, 17, 18].getD i 0
def dl_X12_isFrom : List (Nat × Instr × Nat) := [(0, .lload_n 0, 1), (1, .lload_n 2, 1), (2, .lcmp, 1), (3, .ifCond .lt 14, 3), (6, .lload_n 0, 1), (7, .lload 4, 2), (9, .lcmp, 1), (10, .ifCond .gt 7, 3), (13, .iconst 1, 1), (14, .goto 4, 3), (17, .iconst 0, 1), (18, .ireturn, 1)]
theorem dc_X12_isFrom : DEC prog_14_method_19_code pc_X12_isFrom dl_X12_isFrom := DEC_of (by decide +kernel)
abbrev rm_X12_isFrom : Room := { frames := 0, cells := 0, slots := 0, locals := 0 }
set_option maxRecDepth 20000 in
theorem sa_X12_isFrom (l : Launch) : SNDALL l prog_14_method_19_code "GivenUpModel" 6 (some .boolean) rm_X12_isFrom P_X12_isFrom pc_X12_isFrom := fun p e s m args below meth c cells slots Q D dA ad A RR hC hR => by
  have hM := RTX_room (R := rm_X12_isFrom) hR
  exact ⟨st_lload_n hC (n := 0) (k := 0) (dc_X12_isFrom 0 (0, .lload_n 0, 1) rfl rfl) rfl rfl,
    st_lload_n hC (n := 1) (k := 2) (dc_X12_isFrom 1 (1, .lload_n 2, 1) rfl rfl) rfl rfl,
    st_lcmp hC (n := 2) (dc_X12_isFrom 2 (2, .lcmp, 1) rfl rfl) rfl,
    st_iflt hC (n := 3) (dc_X12_isFrom 3 (3, .ifCond .lt 14, 3) rfl rfl) rfl (by decide),
    st_lload_n hC (n := 4) (k := 0) (dc_X12_isFrom 4 (6, .lload_n 0, 1) rfl rfl) rfl rfl,
    st_lload hC (n := 5) (dc_X12_isFrom 5 (7, .lload 4, 2) rfl rfl) rfl,
    st_lcmp hC (n := 6) (dc_X12_isFrom 6 (9, .lcmp, 1) rfl rfl) rfl,
    st_ifgt hC (n := 7) (dc_X12_isFrom 7 (10, .ifCond .gt 7, 3) rfl rfl) rfl (by decide),
    st_iconst hC (n := 8) (x := 1) (dc_X12_isFrom 8 (13, .iconst 1, 1) rfl rfl) rfl (by decide),
    st_goto hC (n := 9) (dc_X12_isFrom 9 (14, .goto 4, 3) rfl rfl) (by decide),
    st_iconst hC (n := 10) (x := 0) (dc_X12_isFrom 10 (17, .iconst 0, 1) rfl rfl) rfl (by decide),
    st_zret hC (n := 11) hR (dc_X12_isFrom 11 (18, .ireturn, 1) rfl rfl), trivial⟩
theorem vc_X12_isFrom : VC P_X12_isFrom 6 Pre_X12_isFrom Fn_X12_isFrom := by
  rintro mm as hom hoa ⟨v, a, b, rfl⟩
  refine ⟨Nat.le_of_ble_eq_true rfl, fun X h => ?_⟩
  refine h (fun _ => false) 3000 0 _ _ _ ?_
  repeat' (first | refine And.intro (by (first | exact rfl | exact Or.inl rfl | exact Or.inr rfl | exact bI_in | exact inb_o 3060 rfl rfl (by (try simp (disch := omega) only [li, pk_mul, nI_add, nI_clamp]); rfl) (by omega) | exact inb_o 12 rfl rfl (by (try simp (disch := omega) only [li, pk_mul, nI_add, nI_clamp]); rfl) (by omega) | exact inb_o 4 rfl rfl (by (try simp (disch := omega) only [li, pk_mul, nI_add, nI_clamp]); rfl) (by omega) | exact inb_o 5 rfl rfl (by (try simp (disch := omega) only [li, pk_mul, nI_add, nI_clamp]); rfl) (by omega) | exact inb_o 16 rfl rfl (by (try simp (disch := omega) only [li, pk_mul, nI_add, nI_clamp]); rfl) (by omega) | exact inb_o 20 rfl rfl (by (try simp (disch := omega) only [li, pk_mul, nI_add, nI_clamp]); rfl) (by omega) | exact inb_o 30 rfl rfl (by (try simp (disch := omega) only [li, pk_mul, nI_add, nI_clamp]); rfl) (by omega) | exact inb_o 48 rfl rfl (by (try simp (disch := omega) only [li, pk_mul, nI_add, nI_clamp]); rfl) (by omega) | exact inb_o 60 rfl rfl (by (try simp (disch := omega) only [li, pk_mul, nI_add, nI_clamp]); rfl) (by omega) | exact inb_o 80 rfl rfl (by (try simp (disch := omega) only [li, pk_mul, nI_add, nI_clamp]); rfl) (by omega) | exact inb_o 120 rfl rfl (by (try simp (disch := omega) only [li, pk_mul, nI_add, nI_clamp]); rfl) (by omega) | exact inb_o 240 rfl rfl (by (try simp (disch := omega) only [li, pk_mul, nI_add, nI_clamp]); rfl) (by omega) | exact inb_o 900 rfl rfl (by (try simp (disch := omega) only [li, pk_mul, nI_add, nI_clamp]); rfl) (by omega) | exact inb_o 4096 rfl rfl (by (try simp (disch := omega) only [li, pk_mul, nI_add, nI_clamp]); rfl) (by omega) | exact inb_o 3 rfl rfl (by (try simp (disch := omega) only [li, pk_mul, nI_add, nI_clamp]); rfl) (by omega))) ?_ | refine br_t (by ((try simp (disch := omega) only [li, pk_mul, nI_add, nI_clamp, nI_leI, nI_ltI, nI_eq, bI_0, bI_n0, Decidable.not_not, gu_m1]); first | done | omega | assumption)) ?_ | refine br_f (by ((try simp (disch := omega) only [li, pk_mul, nI_add, nI_clamp, nI_leI, nI_ltI, nI_eq, bI_0, bI_n0, Decidable.not_not, gu_m1]); first | done | omega | assumption)) ?_ | refine brn_t (by ((try simp (disch := omega) only [li, pk_mul, nI_add, nI_clamp, nI_leI, nI_ltI, nI_eq, bI_0, bI_n0, Decidable.not_not, gu_m1]); first | done | omega | assumption)) ?_ | refine brn_f (by ((try simp (disch := omega) only [li, pk_mul, nI_add, nI_clamp, nI_leI, nI_ltI, nI_eq, bI_0, bI_n0, Decidable.not_not, gu_m1]); first | done | omega | assumption)) ?_ | refine br_c (fun _ => ?_) (fun _ => ?_) | refine brn_c (fun _ => ?_) (fun _ => ?_))
  all_goals (refine leaf ?_; (try simp (disch := omega) only [Fn_X12_isFrom, li, pk_mul, nI_add, nI_clamp, bI] at *); (try simp [*]); done)
theorem con_X12_isFrom (l : Launch) : CON l y_X12_isFrom prog_14_method_19_code 6 (some .boolean) rm_X12_isFrom Pre_X12_isFrom Fn_X12_isFrom := CON_of (by decide) rfl rfl (sa_X12_isFrom l) vc_X12_isFrom
def Pre_X12_isSmall : PreT := fun _ as => ∃ x : Int32, as = [vI x]
def Fn_X12_isSmall : FnT := fun m as => match as with
  | [Sum.inl x] => (some (vI (bI (¬ x < 97 ∧ ¬ 122 < x))), m)
  | _ => (none, m)
abbrev y_X12_isSmall : MethodName := ⟨"GivenUpModel", "isSmall", "(I)Z"⟩
def P_X12_isSmall : List StpT := [s_iload 0, s_ic (97), s_iclt 8, s_iload 0, s_ic (122), s_icgt 8, s_ic (1), s_goto 9, s_ic (0), s_zret]
def pc_X12_isSmall : Nat → Nat := fun i => [0, 1, 3, 6, 7, 9, 12, 13, 16, 17].getD i 0
def dl_X12_isSmall : List (Nat × Instr × Nat) := [(0, .iload_n 0, 1), (1, .bipush 97, 2), (3, .if_icmp .lt 13, 3), (6, .iload_n 0, 1), (7, .bipush 122, 2), (9, .if_icmp .gt 7, 3), (12, .iconst 1, 1), (13, .goto 4, 3), (16, .iconst 0, 1), (17, .ireturn, 1)]
theorem dc_X12_isSmall : DEC prog_14_method_23_code pc_X12_isSmall dl_X12_isSmall := DEC_of (by decide +kernel)
abbrev rm_X12_isSmall : Room := { frames := 0, cells := 0, slots := 0, locals := 0 }
set_option maxRecDepth 20000 in
theorem sa_X12_isSmall (l : Launch) : SNDALL l prog_14_method_23_code "GivenUpModel" 1 (some .boolean) rm_X12_isSmall P_X12_isSmall pc_X12_isSmall := fun p e s m args below meth c cells slots Q D dA ad A RR hC hR => by
  have hM := RTX_room (R := rm_X12_isSmall) hR
  exact ⟨st_iload_n hC (n := 0) (k := 0) (dc_X12_isSmall 0 (0, .iload_n 0, 1) rfl rfl) rfl rfl,
    st_bipush hC (n := 1) (x := 97) (dc_X12_isSmall 1 (1, .bipush 97, 2) rfl rfl) rfl (by decide),
    st_iclt hC (n := 2) (dc_X12_isSmall 2 (3, .if_icmp .lt 13, 3) rfl rfl) rfl (by decide),
    st_iload_n hC (n := 3) (k := 0) (dc_X12_isSmall 3 (6, .iload_n 0, 1) rfl rfl) rfl rfl,
    st_bipush hC (n := 4) (x := 122) (dc_X12_isSmall 4 (7, .bipush 122, 2) rfl rfl) rfl (by decide),
    st_icgt hC (n := 5) (dc_X12_isSmall 5 (9, .if_icmp .gt 7, 3) rfl rfl) rfl (by decide),
    st_iconst hC (n := 6) (x := 1) (dc_X12_isSmall 6 (12, .iconst 1, 1) rfl rfl) rfl (by decide),
    st_goto hC (n := 7) (dc_X12_isSmall 7 (13, .goto 4, 3) rfl rfl) (by decide),
    st_iconst hC (n := 8) (x := 0) (dc_X12_isSmall 8 (16, .iconst 0, 1) rfl rfl) rfl (by decide),
    st_zret hC (n := 9) hR (dc_X12_isSmall 9 (17, .ireturn, 1) rfl rfl), trivial⟩
theorem vc_X12_isSmall : VC P_X12_isSmall 1 Pre_X12_isSmall Fn_X12_isSmall := by
  rintro mm as hom hoa ⟨x, rfl⟩
  refine ⟨Nat.le_of_ble_eq_true rfl, fun X h => ?_⟩
  refine h (fun _ => false) 3000 0 _ _ _ ?_
  repeat' (first | refine And.intro (by (first | exact rfl | exact Or.inl rfl | exact Or.inr rfl | exact bI_in | exact inb_o 3060 rfl rfl (by (try simp (disch := omega) only [li, pk_mul, nI_add, nI_clamp]); rfl) (by omega) | exact inb_o 12 rfl rfl (by (try simp (disch := omega) only [li, pk_mul, nI_add, nI_clamp]); rfl) (by omega) | exact inb_o 4 rfl rfl (by (try simp (disch := omega) only [li, pk_mul, nI_add, nI_clamp]); rfl) (by omega) | exact inb_o 5 rfl rfl (by (try simp (disch := omega) only [li, pk_mul, nI_add, nI_clamp]); rfl) (by omega) | exact inb_o 16 rfl rfl (by (try simp (disch := omega) only [li, pk_mul, nI_add, nI_clamp]); rfl) (by omega) | exact inb_o 20 rfl rfl (by (try simp (disch := omega) only [li, pk_mul, nI_add, nI_clamp]); rfl) (by omega) | exact inb_o 30 rfl rfl (by (try simp (disch := omega) only [li, pk_mul, nI_add, nI_clamp]); rfl) (by omega) | exact inb_o 48 rfl rfl (by (try simp (disch := omega) only [li, pk_mul, nI_add, nI_clamp]); rfl) (by omega) | exact inb_o 60 rfl rfl (by (try simp (disch := omega) only [li, pk_mul, nI_add, nI_clamp]); rfl) (by omega) | exact inb_o 80 rfl rfl (by (try simp (disch := omega) only [li, pk_mul, nI_add, nI_clamp]); rfl) (by omega) | exact inb_o 120 rfl rfl (by (try simp (disch := omega) only [li, pk_mul, nI_add, nI_clamp]); rfl) (by omega) | exact inb_o 240 rfl rfl (by (try simp (disch := omega) only [li, pk_mul, nI_add, nI_clamp]); rfl) (by omega) | exact inb_o 900 rfl rfl (by (try simp (disch := omega) only [li, pk_mul, nI_add, nI_clamp]); rfl) (by omega) | exact inb_o 4096 rfl rfl (by (try simp (disch := omega) only [li, pk_mul, nI_add, nI_clamp]); rfl) (by omega) | exact inb_o 3 rfl rfl (by (try simp (disch := omega) only [li, pk_mul, nI_add, nI_clamp]); rfl) (by omega))) ?_ | refine br_t (by ((try simp (disch := omega) only [li, pk_mul, nI_add, nI_clamp, nI_leI, nI_ltI, nI_eq, bI_0, bI_n0, Decidable.not_not, gu_m1]); first | done | omega | assumption)) ?_ | refine br_f (by ((try simp (disch := omega) only [li, pk_mul, nI_add, nI_clamp, nI_leI, nI_ltI, nI_eq, bI_0, bI_n0, Decidable.not_not, gu_m1]); first | done | omega | assumption)) ?_ | refine brn_t (by ((try simp (disch := omega) only [li, pk_mul, nI_add, nI_clamp, nI_leI, nI_ltI, nI_eq, bI_0, bI_n0, Decidable.not_not, gu_m1]); first | done | omega | assumption)) ?_ | refine brn_f (by ((try simp (disch := omega) only [li, pk_mul, nI_add, nI_clamp, nI_leI, nI_ltI, nI_eq, bI_0, bI_n0, Decidable.not_not, gu_m1]); first | done | omega | assumption)) ?_ | refine br_c (fun _ => ?_) (fun _ => ?_) | refine brn_c (fun _ => ?_) (fun _ => ?_))
  all_goals (refine leaf ?_; (try simp (disch := omega) only [Fn_X12_isSmall, li, pk_mul, nI_add, nI_clamp, bI] at *); (try simp [*]); done)
theorem con_X12_isSmall (l : Launch) : CON l y_X12_isSmall prog_14_method_23_code 1 (some .boolean) rm_X12_isSmall Pre_X12_isSmall Fn_X12_isSmall := CON_of (by decide) rfl rfl (sa_X12_isSmall l) vc_X12_isSmall
def Pre_X12_isDigit : PreT := fun _ as => ∃ x : Int32, as = [vI x]
def Fn_X12_isDigit : FnT := fun m as => match as with
  | [Sum.inl x] => (some (vI (bI (¬ x < 48 ∧ ¬ 57 < x))), m)
  | _ => (none, m)
abbrev y_X12_isDigit : MethodName := ⟨"GivenUpModel", "isDigit", "(I)Z"⟩
def P_X12_isDigit : List StpT := [s_iload 0, s_ic (48), s_iclt 8, s_iload 0, s_ic (57), s_icgt 8, s_ic (1), s_goto 9, s_ic (0), s_zret]
def pc_X12_isDigit : Nat → Nat := fun i => [0, 1, 3, 6, 7, 9, 12, 13, 16, 17].getD i 0
def dl_X12_isDigit : List (Nat × Instr × Nat) := [(0, .iload_n 0, 1), (1, .bipush 48, 2), (3, .if_icmp .lt 13, 3), (6, .iload_n 0, 1), (7, .bipush 57, 2), (9, .if_icmp .gt 7, 3), (12, .iconst 1, 1), (13, .goto 4, 3), (16, .iconst 0, 1), (17, .ireturn, 1)]
theorem dc_X12_isDigit : DEC prog_14_method_24_code pc_X12_isDigit dl_X12_isDigit := DEC_of (by decide +kernel)
abbrev rm_X12_isDigit : Room := { frames := 0, cells := 0, slots := 0, locals := 0 }
set_option maxRecDepth 20000 in
theorem sa_X12_isDigit (l : Launch) : SNDALL l prog_14_method_24_code "GivenUpModel" 1 (some .boolean) rm_X12_isDigit P_X12_isDigit pc_X12_isDigit := fun p e s m args below meth c cells slots Q D dA ad A RR hC hR => by
  have hM := RTX_room (R := rm_X12_isDigit) hR
  exact ⟨st_iload_n hC (n := 0) (k := 0) (dc_X12_isDigit 0 (0, .iload_n 0, 1) rfl rfl) rfl rfl,
    st_bipush hC (n := 1) (x := 48) (dc_X12_isDigit 1 (1, .bipush 48, 2) rfl rfl) rfl (by decide),
    st_iclt hC (n := 2) (dc_X12_isDigit 2 (3, .if_icmp .lt 13, 3) rfl rfl) rfl (by decide),
    st_iload_n hC (n := 3) (k := 0) (dc_X12_isDigit 3 (6, .iload_n 0, 1) rfl rfl) rfl rfl,
    st_bipush hC (n := 4) (x := 57) (dc_X12_isDigit 4 (7, .bipush 57, 2) rfl rfl) rfl (by decide),
    st_icgt hC (n := 5) (dc_X12_isDigit 5 (9, .if_icmp .gt 7, 3) rfl rfl) rfl (by decide),
    st_iconst hC (n := 6) (x := 1) (dc_X12_isDigit 6 (12, .iconst 1, 1) rfl rfl) rfl (by decide),
    st_goto hC (n := 7) (dc_X12_isDigit 7 (13, .goto 4, 3) rfl rfl) (by decide),
    st_iconst hC (n := 8) (x := 0) (dc_X12_isDigit 8 (16, .iconst 0, 1) rfl rfl) rfl (by decide),
    st_zret hC (n := 9) hR (dc_X12_isDigit 9 (17, .ireturn, 1) rfl rfl), trivial⟩
theorem vc_X12_isDigit : VC P_X12_isDigit 1 Pre_X12_isDigit Fn_X12_isDigit := by
  rintro mm as hom hoa ⟨x, rfl⟩
  refine ⟨Nat.le_of_ble_eq_true rfl, fun X h => ?_⟩
  refine h (fun _ => false) 3000 0 _ _ _ ?_
  repeat' (first | refine And.intro (by (first | exact rfl | exact Or.inl rfl | exact Or.inr rfl | exact bI_in | exact inb_o 3060 rfl rfl (by (try simp (disch := omega) only [li, pk_mul, nI_add, nI_clamp]); rfl) (by omega) | exact inb_o 12 rfl rfl (by (try simp (disch := omega) only [li, pk_mul, nI_add, nI_clamp]); rfl) (by omega) | exact inb_o 4 rfl rfl (by (try simp (disch := omega) only [li, pk_mul, nI_add, nI_clamp]); rfl) (by omega) | exact inb_o 5 rfl rfl (by (try simp (disch := omega) only [li, pk_mul, nI_add, nI_clamp]); rfl) (by omega) | exact inb_o 16 rfl rfl (by (try simp (disch := omega) only [li, pk_mul, nI_add, nI_clamp]); rfl) (by omega) | exact inb_o 20 rfl rfl (by (try simp (disch := omega) only [li, pk_mul, nI_add, nI_clamp]); rfl) (by omega) | exact inb_o 30 rfl rfl (by (try simp (disch := omega) only [li, pk_mul, nI_add, nI_clamp]); rfl) (by omega) | exact inb_o 48 rfl rfl (by (try simp (disch := omega) only [li, pk_mul, nI_add, nI_clamp]); rfl) (by omega) | exact inb_o 60 rfl rfl (by (try simp (disch := omega) only [li, pk_mul, nI_add, nI_clamp]); rfl) (by omega) | exact inb_o 80 rfl rfl (by (try simp (disch := omega) only [li, pk_mul, nI_add, nI_clamp]); rfl) (by omega) | exact inb_o 120 rfl rfl (by (try simp (disch := omega) only [li, pk_mul, nI_add, nI_clamp]); rfl) (by omega) | exact inb_o 240 rfl rfl (by (try simp (disch := omega) only [li, pk_mul, nI_add, nI_clamp]); rfl) (by omega) | exact inb_o 900 rfl rfl (by (try simp (disch := omega) only [li, pk_mul, nI_add, nI_clamp]); rfl) (by omega) | exact inb_o 4096 rfl rfl (by (try simp (disch := omega) only [li, pk_mul, nI_add, nI_clamp]); rfl) (by omega) | exact inb_o 3 rfl rfl (by (try simp (disch := omega) only [li, pk_mul, nI_add, nI_clamp]); rfl) (by omega))) ?_ | refine br_t (by ((try simp (disch := omega) only [li, pk_mul, nI_add, nI_clamp, nI_leI, nI_ltI, nI_eq, bI_0, bI_n0, Decidable.not_not, gu_m1]); first | done | omega | assumption)) ?_ | refine br_f (by ((try simp (disch := omega) only [li, pk_mul, nI_add, nI_clamp, nI_leI, nI_ltI, nI_eq, bI_0, bI_n0, Decidable.not_not, gu_m1]); first | done | omega | assumption)) ?_ | refine brn_t (by ((try simp (disch := omega) only [li, pk_mul, nI_add, nI_clamp, nI_leI, nI_ltI, nI_eq, bI_0, bI_n0, Decidable.not_not, gu_m1]); first | done | omega | assumption)) ?_ | refine brn_f (by ((try simp (disch := omega) only [li, pk_mul, nI_add, nI_clamp, nI_leI, nI_ltI, nI_eq, bI_0, bI_n0, Decidable.not_not, gu_m1]); first | done | omega | assumption)) ?_ | refine br_c (fun _ => ?_) (fun _ => ?_) | refine brn_c (fun _ => ?_) (fun _ => ?_))
  all_goals (refine leaf ?_; (try simp (disch := omega) only [Fn_X12_isDigit, li, pk_mul, nI_add, nI_clamp, bI] at *); (try simp [*]); done)
theorem con_X12_isDigit (l : Launch) : CON l y_X12_isDigit prog_14_method_24_code 1 (some .boolean) rm_X12_isDigit Pre_X12_isDigit Fn_X12_isDigit := CON_of (by decide) rfl rfl (sa_X12_isDigit l) vc_X12_isDigit
def Pre_X12_isSign : PreT := fun _ as => ∃ x : Int32, as = [vR 12 0, vI x]
def Fn_X12_isSign : FnT := fun m as => match as with
  | [_, Sum.inl x] => (some (vI (bI (m.1 12 0 12 = 4 ∧ m.1 12 0 15 = x))), m)
  | _ => (none, m)
abbrev y_X12_isSign : MethodName := ⟨"GivenUpModel", "isSign", "(I)Z"⟩
def P_X12_isSign : List StpT := [s_aload 0, s_getI 12 12, s_ic (4), s_icne 10, s_aload 0, s_getI 12 15, s_iload 1, s_icne 10, s_ic (1), s_goto 11, s_ic (0), s_zret]
def pc_X12_isSign : Nat → Nat := fun i => [0, 1, 4, 5, 8, 9, 12, 13, 16, 17, 20, 21].getD i 0
def dl_X12_isSign : List (Nat × Instr × Nat) := [(0, .aload_n 0, 1), (1, .getfield 132, 3), (4, .iconst 4, 1), (5, .if_icmp .ne 15, 3), (8, .aload_n 0, 1), (9, .getfield 129, 3), (12, .iload_n 1, 1), (13, .if_icmp .ne 7, 3), (16, .iconst 1, 1), (17, .goto 4, 3), (20, .iconst 0, 1), (21, .ireturn, 1)]
theorem dc_X12_isSign : DEC prog_14_method_26_code pc_X12_isSign dl_X12_isSign := DEC_of (by decide +kernel)
abbrev rm_X12_isSign : Room := { frames := 0, cells := 0, slots := 0, locals := 0 }
set_option maxRecDepth 20000 in
theorem sa_X12_isSign (l : Launch) : SNDALL l prog_14_method_26_code "GivenUpModel" 2 (some .boolean) rm_X12_isSign P_X12_isSign pc_X12_isSign := fun p e s m args below meth c cells slots Q D dA ad A RR hC hR => by
  have hM := RTX_room (R := rm_X12_isSign) hR
  exact ⟨st_aload_n hC (n := 0) (k := 0) (dc_X12_isSign 0 (0, .aload_n 0, 1) rfl rfl) rfl rfl,
    st_getI hC (n := 1) (k := 12) (j := 12) (dc_X12_isSign 1 (1, .getfield 132, 3) rfl rfl) rfl clf_12 (by decide) rfl wd_1564,
    st_iconst hC (n := 2) (x := 4) (dc_X12_isSign 2 (4, .iconst 4, 1) rfl rfl) rfl (by decide),
    st_icne hC (n := 3) (dc_X12_isSign 3 (5, .if_icmp .ne 15, 3) rfl rfl) rfl (by decide),
    st_aload_n hC (n := 4) (k := 0) (dc_X12_isSign 4 (8, .aload_n 0, 1) rfl rfl) rfl rfl,
    st_getI hC (n := 5) (k := 12) (j := 15) (dc_X12_isSign 5 (9, .getfield 129, 3) rfl rfl) rfl clf_12 (by decide) rfl wd_1567,
    st_iload_n hC (n := 6) (k := 1) (dc_X12_isSign 6 (12, .iload_n 1, 1) rfl rfl) rfl rfl,
    st_icne hC (n := 7) (dc_X12_isSign 7 (13, .if_icmp .ne 7, 3) rfl rfl) rfl (by decide),
    st_iconst hC (n := 8) (x := 1) (dc_X12_isSign 8 (16, .iconst 1, 1) rfl rfl) rfl (by decide),
    st_goto hC (n := 9) (dc_X12_isSign 9 (17, .goto 4, 3) rfl rfl) (by decide),
    st_iconst hC (n := 10) (x := 0) (dc_X12_isSign 10 (20, .iconst 0, 1) rfl rfl) rfl (by decide),
    st_zret hC (n := 11) hR (dc_X12_isSign 11 (21, .ireturn, 1) rfl rfl), trivial⟩
theorem vc_X12_isSign : VC P_X12_isSign 2 Pre_X12_isSign Fn_X12_isSign := by
  rintro mm as hom hoa ⟨x, rfl⟩
  refine ⟨Nat.le_of_ble_eq_true rfl, fun X h => ?_⟩
  refine h (fun _ => false) 3000 0 _ _ _ ?_
  repeat' (first | refine And.intro (by (first | exact rfl | exact Or.inl rfl | exact Or.inr rfl | exact bI_in | exact inb_o 3060 rfl rfl (by (try simp (disch := omega) only [li, pk_mul, nI_add, nI_clamp]); rfl) (by omega) | exact inb_o 12 rfl rfl (by (try simp (disch := omega) only [li, pk_mul, nI_add, nI_clamp]); rfl) (by omega) | exact inb_o 4 rfl rfl (by (try simp (disch := omega) only [li, pk_mul, nI_add, nI_clamp]); rfl) (by omega) | exact inb_o 5 rfl rfl (by (try simp (disch := omega) only [li, pk_mul, nI_add, nI_clamp]); rfl) (by omega) | exact inb_o 16 rfl rfl (by (try simp (disch := omega) only [li, pk_mul, nI_add, nI_clamp]); rfl) (by omega) | exact inb_o 20 rfl rfl (by (try simp (disch := omega) only [li, pk_mul, nI_add, nI_clamp]); rfl) (by omega) | exact inb_o 30 rfl rfl (by (try simp (disch := omega) only [li, pk_mul, nI_add, nI_clamp]); rfl) (by omega) | exact inb_o 48 rfl rfl (by (try simp (disch := omega) only [li, pk_mul, nI_add, nI_clamp]); rfl) (by omega) | exact inb_o 60 rfl rfl (by (try simp (disch := omega) only [li, pk_mul, nI_add, nI_clamp]); rfl) (by omega) | exact inb_o 80 rfl rfl (by (try simp (disch := omega) only [li, pk_mul, nI_add, nI_clamp]); rfl) (by omega) | exact inb_o 120 rfl rfl (by (try simp (disch := omega) only [li, pk_mul, nI_add, nI_clamp]); rfl) (by omega) | exact inb_o 240 rfl rfl (by (try simp (disch := omega) only [li, pk_mul, nI_add, nI_clamp]); rfl) (by omega) | exact inb_o 900 rfl rfl (by (try simp (disch := omega) only [li, pk_mul, nI_add, nI_clamp]); rfl) (by omega) | exact inb_o 4096 rfl rfl (by (try simp (disch := omega) only [li, pk_mul, nI_add, nI_clamp]); rfl) (by omega) | exact inb_o 3 rfl rfl (by (try simp (disch := omega) only [li, pk_mul, nI_add, nI_clamp]); rfl) (by omega))) ?_ | refine br_t (by ((try simp (disch := omega) only [li, pk_mul, nI_add, nI_clamp, nI_leI, nI_ltI, nI_eq, bI_0, bI_n0, Decidable.not_not, gu_m1]); first | done | omega | assumption)) ?_ | refine br_f (by ((try simp (disch := omega) only [li, pk_mul, nI_add, nI_clamp, nI_leI, nI_ltI, nI_eq, bI_0, bI_n0, Decidable.not_not, gu_m1]); first | done | omega | assumption)) ?_ | refine brn_t (by ((try simp (disch := omega) only [li, pk_mul, nI_add, nI_clamp, nI_leI, nI_ltI, nI_eq, bI_0, bI_n0, Decidable.not_not, gu_m1]); first | done | omega | assumption)) ?_ | refine brn_f (by ((try simp (disch := omega) only [li, pk_mul, nI_add, nI_clamp, nI_leI, nI_ltI, nI_eq, bI_0, bI_n0, Decidable.not_not, gu_m1]); first | done | omega | assumption)) ?_ | refine br_c (fun _ => ?_) (fun _ => ?_) | refine brn_c (fun _ => ?_) (fun _ => ?_))
  all_goals (refine leaf ?_; (try simp (disch := omega) only [Fn_X12_isSign, li, pk_mul, nI_add, nI_clamp, bI] at *); (try simp [*]); done)
theorem con_X12_isSign (l : Launch) : CON l y_X12_isSign prog_14_method_26_code 2 (some .boolean) rm_X12_isSign Pre_X12_isSign Fn_X12_isSign := CON_of (by decide) rfl rfl (sa_X12_isSign l) vc_X12_isSign
def Pre_X12_isAhead : PreT := fun _ as => ∃ x : Int32, as = [vI x]
def Fn_X12_isAhead : FnT := fun m as => match as with
  | [Sum.inl x] => (some (vI (bI (¬ x < 0 ∧ ¬ 99 < x))), m)
  | _ => (none, m)
abbrev y_X12_isAhead : MethodName := ⟨"GivenUpModel", "isAhead", "(I)Z"⟩
def P_X12_isAhead : List StpT := [s_iload 0, s_iflt 7, s_iload 0, s_ic (99), s_icgt 7, s_ic (1), s_goto 8, s_ic (0), s_zret]
def pc_X12_isAhead : Nat → Nat := fun i => [0, 1, 4, 5, 7, 10, 11, 14, 15].getD i 0
def dl_X12_isAhead : List (Nat × Instr × Nat) := [(0, .iload_n 0, 1), (1, .ifCond .lt 13, 3), (4, .iload_n 0, 1), (5, .bipush 99, 2), (7, .if_icmp .gt 7, 3), (10, .iconst 1, 1), (11, .goto 4, 3), (14, .iconst 0, 1), (15, .ireturn, 1)]
theorem dc_X12_isAhead : DEC prog_14_method_113_code pc_X12_isAhead dl_X12_isAhead := DEC_of (by decide +kernel)
abbrev rm_X12_isAhead : Room := { frames := 0, cells := 0, slots := 0, locals := 0 }
set_option maxRecDepth 20000 in
theorem sa_X12_isAhead (l : Launch) : SNDALL l prog_14_method_113_code "GivenUpModel" 1 (some .boolean) rm_X12_isAhead P_X12_isAhead pc_X12_isAhead := fun p e s m args below meth c cells slots Q D dA ad A RR hC hR => by
  have hM := RTX_room (R := rm_X12_isAhead) hR
  exact ⟨st_iload_n hC (n := 0) (k := 0) (dc_X12_isAhead 0 (0, .iload_n 0, 1) rfl rfl) rfl rfl,
    st_iflt hC (n := 1) (dc_X12_isAhead 1 (1, .ifCond .lt 13, 3) rfl rfl) rfl (by decide),
    st_iload_n hC (n := 2) (k := 0) (dc_X12_isAhead 2 (4, .iload_n 0, 1) rfl rfl) rfl rfl,
    st_bipush hC (n := 3) (x := 99) (dc_X12_isAhead 3 (5, .bipush 99, 2) rfl rfl) rfl (by decide),
    st_icgt hC (n := 4) (dc_X12_isAhead 4 (7, .if_icmp .gt 7, 3) rfl rfl) rfl (by decide),
    st_iconst hC (n := 5) (x := 1) (dc_X12_isAhead 5 (10, .iconst 1, 1) rfl rfl) rfl (by decide),
    st_goto hC (n := 6) (dc_X12_isAhead 6 (11, .goto 4, 3) rfl rfl) (by decide),
    st_iconst hC (n := 7) (x := 0) (dc_X12_isAhead 7 (14, .iconst 0, 1) rfl rfl) rfl (by decide),
    st_zret hC (n := 8) hR (dc_X12_isAhead 8 (15, .ireturn, 1) rfl rfl), trivial⟩
theorem vc_X12_isAhead : VC P_X12_isAhead 1 Pre_X12_isAhead Fn_X12_isAhead := by
  rintro mm as hom hoa ⟨x, rfl⟩
  refine ⟨Nat.le_of_ble_eq_true rfl, fun X h => ?_⟩
  refine h (fun _ => false) 3000 0 _ _ _ ?_
  repeat' (first | refine And.intro (by (first | exact rfl | exact Or.inl rfl | exact Or.inr rfl | exact bI_in | exact inb_o 3060 rfl rfl (by (try simp (disch := omega) only [li, pk_mul, nI_add, nI_clamp]); rfl) (by omega) | exact inb_o 12 rfl rfl (by (try simp (disch := omega) only [li, pk_mul, nI_add, nI_clamp]); rfl) (by omega) | exact inb_o 4 rfl rfl (by (try simp (disch := omega) only [li, pk_mul, nI_add, nI_clamp]); rfl) (by omega) | exact inb_o 5 rfl rfl (by (try simp (disch := omega) only [li, pk_mul, nI_add, nI_clamp]); rfl) (by omega) | exact inb_o 16 rfl rfl (by (try simp (disch := omega) only [li, pk_mul, nI_add, nI_clamp]); rfl) (by omega) | exact inb_o 20 rfl rfl (by (try simp (disch := omega) only [li, pk_mul, nI_add, nI_clamp]); rfl) (by omega) | exact inb_o 30 rfl rfl (by (try simp (disch := omega) only [li, pk_mul, nI_add, nI_clamp]); rfl) (by omega) | exact inb_o 48 rfl rfl (by (try simp (disch := omega) only [li, pk_mul, nI_add, nI_clamp]); rfl) (by omega) | exact inb_o 60 rfl rfl (by (try simp (disch := omega) only [li, pk_mul, nI_add, nI_clamp]); rfl) (by omega) | exact inb_o 80 rfl rfl (by (try simp (disch := omega) only [li, pk_mul, nI_add, nI_clamp]); rfl) (by omega) | exact inb_o 120 rfl rfl (by (try simp (disch := omega) only [li, pk_mul, nI_add, nI_clamp]); rfl) (by omega) | exact inb_o 240 rfl rfl (by (try simp (disch := omega) only [li, pk_mul, nI_add, nI_clamp]); rfl) (by omega) | exact inb_o 900 rfl rfl (by (try simp (disch := omega) only [li, pk_mul, nI_add, nI_clamp]); rfl) (by omega) | exact inb_o 4096 rfl rfl (by (try simp (disch := omega) only [li, pk_mul, nI_add, nI_clamp]); rfl) (by omega) | exact inb_o 3 rfl rfl (by (try simp (disch := omega) only [li, pk_mul, nI_add, nI_clamp]); rfl) (by omega))) ?_ | refine br_t (by ((try simp (disch := omega) only [li, pk_mul, nI_add, nI_clamp, nI_leI, nI_ltI, nI_eq, bI_0, bI_n0, Decidable.not_not, gu_m1]); first | done | omega | assumption)) ?_ | refine br_f (by ((try simp (disch := omega) only [li, pk_mul, nI_add, nI_clamp, nI_leI, nI_ltI, nI_eq, bI_0, bI_n0, Decidable.not_not, gu_m1]); first | done | omega | assumption)) ?_ | refine brn_t (by ((try simp (disch := omega) only [li, pk_mul, nI_add, nI_clamp, nI_leI, nI_ltI, nI_eq, bI_0, bI_n0, Decidable.not_not, gu_m1]); first | done | omega | assumption)) ?_ | refine brn_f (by ((try simp (disch := omega) only [li, pk_mul, nI_add, nI_clamp, nI_leI, nI_ltI, nI_eq, bI_0, bI_n0, Decidable.not_not, gu_m1]); first | done | omega | assumption)) ?_ | refine br_c (fun _ => ?_) (fun _ => ?_) | refine brn_c (fun _ => ?_) (fun _ => ?_))
  all_goals (refine leaf ?_; (try simp (disch := omega) only [Fn_X12_isAhead, li, pk_mul, nI_add, nI_clamp, bI] at *); (try simp [*]); done)
theorem con_X12_isAhead (l : Launch) : CON l y_X12_isAhead prog_14_method_113_code 1 (some .boolean) rm_X12_isAhead Pre_X12_isAhead Fn_X12_isAhead := CON_of (by decide) rfl rfl (sa_X12_isAhead l) vc_X12_isAhead
def Pre_X12_isSuitor : PreT := fun _ as => ∃ x : Int32, as = [vR 12 0, vI x]
def Fn_X12_isSuitor : FnT := fun m as => match as with
  | [_, Sum.inl x] => (some (vI (bI (¬ x < 0 ∧ ¬ m.1 54 0 0 ≤ x))), m)
  | _ => (none, m)
abbrev y_X12_isSuitor : MethodName := ⟨"GivenUpModel", "isSuitor", "(I)Z"⟩
def P_X12_isSuitor : List StpT := [s_iload 1, s_iflt 10, s_iload 1, s_aload 0, s_getR 12 0 54, s_ic (0), s_iald, s_icge 10, s_ic (1), s_goto 11, s_ic (0), s_zret]
def pc_X12_isSuitor : Nat → Nat := fun i => [0, 1, 4, 5, 6, 9, 10, 11, 14, 15, 18, 19].getD i 0
def dl_X12_isSuitor : List (Nat × Instr × Nat) := [(0, .iload_n 1, 1), (1, .ifCond .lt 17, 3), (4, .iload_n 1, 1), (5, .aload_n 0, 1), (6, .getfield 7, 3), (9, .iconst 0, 1), (10, .iaload, 1), (11, .if_icmp .ge 7, 3), (14, .iconst 1, 1), (15, .goto 4, 3), (18, .iconst 0, 1), (19, .ireturn, 1)]
theorem dc_X12_isSuitor : DEC prog_14_method_59_code pc_X12_isSuitor dl_X12_isSuitor := DEC_of (by decide +kernel)
abbrev rm_X12_isSuitor : Room := { frames := 0, cells := 0, slots := 0, locals := 0 }
set_option maxRecDepth 20000 in
theorem sa_X12_isSuitor (l : Launch) : SNDALL l prog_14_method_59_code "GivenUpModel" 2 (some .boolean) rm_X12_isSuitor P_X12_isSuitor pc_X12_isSuitor := fun p e s m args below meth c cells slots Q D dA ad A RR hC hR => by
  have hM := RTX_room (R := rm_X12_isSuitor) hR
  exact ⟨st_iload_n hC (n := 0) (k := 1) (dc_X12_isSuitor 0 (0, .iload_n 1, 1) rfl rfl) rfl rfl,
    st_iflt hC (n := 1) (dc_X12_isSuitor 1 (1, .ifCond .lt 17, 3) rfl rfl) rfl (by decide),
    st_iload_n hC (n := 2) (k := 1) (dc_X12_isSuitor 2 (4, .iload_n 1, 1) rfl rfl) rfl rfl,
    st_aload_n hC (n := 3) (k := 0) (dc_X12_isSuitor 3 (5, .aload_n 0, 1) rfl rfl) rfl rfl,
    st_getR hC (n := 4) (k := 12) (j := 0) (dc_X12_isSuitor 4 (6, .getfield 7, 3) rfl rfl) rfl clf_12 (by decide) rfl (by decide) wd_1552,
    st_iconst hC (n := 5) (x := 0) (dc_X12_isSuitor 5 (9, .iconst 0, 1) rfl rfl) rfl (by decide),
    st_iald hC (n := 6) (dc_X12_isSuitor 6 (10, .iaload, 1) rfl rfl) rfl,
    st_icge hC (n := 7) (dc_X12_isSuitor 7 (11, .if_icmp .ge 7, 3) rfl rfl) rfl (by decide),
    st_iconst hC (n := 8) (x := 1) (dc_X12_isSuitor 8 (14, .iconst 1, 1) rfl rfl) rfl (by decide),
    st_goto hC (n := 9) (dc_X12_isSuitor 9 (15, .goto 4, 3) rfl rfl) (by decide),
    st_iconst hC (n := 10) (x := 0) (dc_X12_isSuitor 10 (18, .iconst 0, 1) rfl rfl) rfl (by decide),
    st_zret hC (n := 11) hR (dc_X12_isSuitor 11 (19, .ireturn, 1) rfl rfl), trivial⟩
theorem vc_X12_isSuitor : VC P_X12_isSuitor 2 Pre_X12_isSuitor Fn_X12_isSuitor := by
  rintro mm as hom hoa ⟨x, rfl⟩
  refine ⟨Nat.le_of_ble_eq_true rfl, fun X h => ?_⟩
  refine h (fun _ => false) 3000 0 _ _ _ ?_
  repeat' (first | refine And.intro (by (first | exact rfl | exact Or.inl rfl | exact Or.inr rfl | exact bI_in | exact inb_o 3060 rfl rfl (by (try simp (disch := omega) only [li, pk_mul, nI_add, nI_clamp]); rfl) (by omega) | exact inb_o 12 rfl rfl (by (try simp (disch := omega) only [li, pk_mul, nI_add, nI_clamp]); rfl) (by omega) | exact inb_o 4 rfl rfl (by (try simp (disch := omega) only [li, pk_mul, nI_add, nI_clamp]); rfl) (by omega) | exact inb_o 5 rfl rfl (by (try simp (disch := omega) only [li, pk_mul, nI_add, nI_clamp]); rfl) (by omega) | exact inb_o 16 rfl rfl (by (try simp (disch := omega) only [li, pk_mul, nI_add, nI_clamp]); rfl) (by omega) | exact inb_o 20 rfl rfl (by (try simp (disch := omega) only [li, pk_mul, nI_add, nI_clamp]); rfl) (by omega) | exact inb_o 30 rfl rfl (by (try simp (disch := omega) only [li, pk_mul, nI_add, nI_clamp]); rfl) (by omega) | exact inb_o 48 rfl rfl (by (try simp (disch := omega) only [li, pk_mul, nI_add, nI_clamp]); rfl) (by omega) | exact inb_o 60 rfl rfl (by (try simp (disch := omega) only [li, pk_mul, nI_add, nI_clamp]); rfl) (by omega) | exact inb_o 80 rfl rfl (by (try simp (disch := omega) only [li, pk_mul, nI_add, nI_clamp]); rfl) (by omega) | exact inb_o 120 rfl rfl (by (try simp (disch := omega) only [li, pk_mul, nI_add, nI_clamp]); rfl) (by omega) | exact inb_o 240 rfl rfl (by (try simp (disch := omega) only [li, pk_mul, nI_add, nI_clamp]); rfl) (by omega) | exact inb_o 900 rfl rfl (by (try simp (disch := omega) only [li, pk_mul, nI_add, nI_clamp]); rfl) (by omega) | exact inb_o 4096 rfl rfl (by (try simp (disch := omega) only [li, pk_mul, nI_add, nI_clamp]); rfl) (by omega) | exact inb_o 3 rfl rfl (by (try simp (disch := omega) only [li, pk_mul, nI_add, nI_clamp]); rfl) (by omega))) ?_ | refine br_t (by ((try simp (disch := omega) only [li, pk_mul, nI_add, nI_clamp, nI_leI, nI_ltI, nI_eq, bI_0, bI_n0, Decidable.not_not, gu_m1]); first | done | omega | assumption)) ?_ | refine br_f (by ((try simp (disch := omega) only [li, pk_mul, nI_add, nI_clamp, nI_leI, nI_ltI, nI_eq, bI_0, bI_n0, Decidable.not_not, gu_m1]); first | done | omega | assumption)) ?_ | refine brn_t (by ((try simp (disch := omega) only [li, pk_mul, nI_add, nI_clamp, nI_leI, nI_ltI, nI_eq, bI_0, bI_n0, Decidable.not_not, gu_m1]); first | done | omega | assumption)) ?_ | refine brn_f (by ((try simp (disch := omega) only [li, pk_mul, nI_add, nI_clamp, nI_leI, nI_ltI, nI_eq, bI_0, bI_n0, Decidable.not_not, gu_m1]); first | done | omega | assumption)) ?_ | refine br_c (fun _ => ?_) (fun _ => ?_) | refine brn_c (fun _ => ?_) (fun _ => ?_))
  all_goals (refine leaf ?_; (try simp (disch := omega) only [Fn_X12_isSuitor, li, pk_mul, nI_add, nI_clamp, bI] at *); (try simp [*]); done)
theorem con_X12_isSuitor (l : Launch) : CON l y_X12_isSuitor prog_14_method_59_code 2 (some .boolean) rm_X12_isSuitor Pre_X12_isSuitor Fn_X12_isSuitor := CON_of (by decide) rfl rfl (sa_X12_isSuitor l) vc_X12_isSuitor
def Pre_X12_isMaid : PreT := fun _ as => ∃ x : Int32, as = [vR 12 0, vI x]
def Fn_X12_isMaid : FnT := fun m as => match as with
  | [_, Sum.inl x] => (some (vI (bI (¬ x < 0 ∧ ¬ m.1 54 0 1 ≤ x))), m)
  | _ => (none, m)
abbrev y_X12_isMaid : MethodName := ⟨"GivenUpModel", "isMaid", "(I)Z"⟩
def P_X12_isMaid : List StpT := [s_iload 1, s_iflt 10, s_iload 1, s_aload 0, s_getR 12 0 54, s_ic (1), s_iald, s_icge 10, s_ic (1), s_goto 11, s_ic (0), s_zret]
def pc_X12_isMaid : Nat → Nat := fun i => [0, 1, 4, 5, 6, 9, 10, 11, 14, 15, 18, 19].getD i 0
def dl_X12_isMaid : List (Nat × Instr × Nat) := [(0, .iload_n 1, 1), (1, .ifCond .lt 17, 3), (4, .iload_n 1, 1), (5, .aload_n 0, 1), (6, .getfield 7, 3), (9, .iconst 1, 1), (10, .iaload, 1), (11, .if_icmp .ge 7, 3), (14, .iconst 1, 1), (15, .goto 4, 3), (18, .iconst 0, 1), (19, .ireturn, 1)]
theorem dc_X12_isMaid : DEC prog_14_method_60_code pc_X12_isMaid dl_X12_isMaid := DEC_of (by decide +kernel)
abbrev rm_X12_isMaid : Room := { frames := 0, cells := 0, slots := 0, locals := 0 }
set_option maxRecDepth 20000 in
theorem sa_X12_isMaid (l : Launch) : SNDALL l prog_14_method_60_code "GivenUpModel" 2 (some .boolean) rm_X12_isMaid P_X12_isMaid pc_X12_isMaid := fun p e s m args below meth c cells slots Q D dA ad A RR hC hR => by
  have hM := RTX_room (R := rm_X12_isMaid) hR
  exact ⟨st_iload_n hC (n := 0) (k := 1) (dc_X12_isMaid 0 (0, .iload_n 1, 1) rfl rfl) rfl rfl,
    st_iflt hC (n := 1) (dc_X12_isMaid 1 (1, .ifCond .lt 17, 3) rfl rfl) rfl (by decide),
    st_iload_n hC (n := 2) (k := 1) (dc_X12_isMaid 2 (4, .iload_n 1, 1) rfl rfl) rfl rfl,
    st_aload_n hC (n := 3) (k := 0) (dc_X12_isMaid 3 (5, .aload_n 0, 1) rfl rfl) rfl rfl,
    st_getR hC (n := 4) (k := 12) (j := 0) (dc_X12_isMaid 4 (6, .getfield 7, 3) rfl rfl) rfl clf_12 (by decide) rfl (by decide) wd_1552,
    st_iconst hC (n := 5) (x := 1) (dc_X12_isMaid 5 (9, .iconst 1, 1) rfl rfl) rfl (by decide),
    st_iald hC (n := 6) (dc_X12_isMaid 6 (10, .iaload, 1) rfl rfl) rfl,
    st_icge hC (n := 7) (dc_X12_isMaid 7 (11, .if_icmp .ge 7, 3) rfl rfl) rfl (by decide),
    st_iconst hC (n := 8) (x := 1) (dc_X12_isMaid 8 (14, .iconst 1, 1) rfl rfl) rfl (by decide),
    st_goto hC (n := 9) (dc_X12_isMaid 9 (15, .goto 4, 3) rfl rfl) (by decide),
    st_iconst hC (n := 10) (x := 0) (dc_X12_isMaid 10 (18, .iconst 0, 1) rfl rfl) rfl (by decide),
    st_zret hC (n := 11) hR (dc_X12_isMaid 11 (19, .ireturn, 1) rfl rfl), trivial⟩
theorem vc_X12_isMaid : VC P_X12_isMaid 2 Pre_X12_isMaid Fn_X12_isMaid := by
  rintro mm as hom hoa ⟨x, rfl⟩
  refine ⟨Nat.le_of_ble_eq_true rfl, fun X h => ?_⟩
  refine h (fun _ => false) 3000 0 _ _ _ ?_
  repeat' (first | refine And.intro (by (first | exact rfl | exact Or.inl rfl | exact Or.inr rfl | exact bI_in | exact inb_o 3060 rfl rfl (by (try simp (disch := omega) only [li, pk_mul, nI_add, nI_clamp]); rfl) (by omega) | exact inb_o 12 rfl rfl (by (try simp (disch := omega) only [li, pk_mul, nI_add, nI_clamp]); rfl) (by omega) | exact inb_o 4 rfl rfl (by (try simp (disch := omega) only [li, pk_mul, nI_add, nI_clamp]); rfl) (by omega) | exact inb_o 5 rfl rfl (by (try simp (disch := omega) only [li, pk_mul, nI_add, nI_clamp]); rfl) (by omega) | exact inb_o 16 rfl rfl (by (try simp (disch := omega) only [li, pk_mul, nI_add, nI_clamp]); rfl) (by omega) | exact inb_o 20 rfl rfl (by (try simp (disch := omega) only [li, pk_mul, nI_add, nI_clamp]); rfl) (by omega) | exact inb_o 30 rfl rfl (by (try simp (disch := omega) only [li, pk_mul, nI_add, nI_clamp]); rfl) (by omega) | exact inb_o 48 rfl rfl (by (try simp (disch := omega) only [li, pk_mul, nI_add, nI_clamp]); rfl) (by omega) | exact inb_o 60 rfl rfl (by (try simp (disch := omega) only [li, pk_mul, nI_add, nI_clamp]); rfl) (by omega) | exact inb_o 80 rfl rfl (by (try simp (disch := omega) only [li, pk_mul, nI_add, nI_clamp]); rfl) (by omega) | exact inb_o 120 rfl rfl (by (try simp (disch := omega) only [li, pk_mul, nI_add, nI_clamp]); rfl) (by omega) | exact inb_o 240 rfl rfl (by (try simp (disch := omega) only [li, pk_mul, nI_add, nI_clamp]); rfl) (by omega) | exact inb_o 900 rfl rfl (by (try simp (disch := omega) only [li, pk_mul, nI_add, nI_clamp]); rfl) (by omega) | exact inb_o 4096 rfl rfl (by (try simp (disch := omega) only [li, pk_mul, nI_add, nI_clamp]); rfl) (by omega) | exact inb_o 3 rfl rfl (by (try simp (disch := omega) only [li, pk_mul, nI_add, nI_clamp]); rfl) (by omega))) ?_ | refine br_t (by ((try simp (disch := omega) only [li, pk_mul, nI_add, nI_clamp, nI_leI, nI_ltI, nI_eq, bI_0, bI_n0, Decidable.not_not, gu_m1]); first | done | omega | assumption)) ?_ | refine br_f (by ((try simp (disch := omega) only [li, pk_mul, nI_add, nI_clamp, nI_leI, nI_ltI, nI_eq, bI_0, bI_n0, Decidable.not_not, gu_m1]); first | done | omega | assumption)) ?_ | refine brn_t (by ((try simp (disch := omega) only [li, pk_mul, nI_add, nI_clamp, nI_leI, nI_ltI, nI_eq, bI_0, bI_n0, Decidable.not_not, gu_m1]); first | done | omega | assumption)) ?_ | refine brn_f (by ((try simp (disch := omega) only [li, pk_mul, nI_add, nI_clamp, nI_leI, nI_ltI, nI_eq, bI_0, bI_n0, Decidable.not_not, gu_m1]); first | done | omega | assumption)) ?_ | refine br_c (fun _ => ?_) (fun _ => ?_) | refine brn_c (fun _ => ?_) (fun _ => ?_))
  all_goals (refine leaf ?_; (try simp (disch := omega) only [Fn_X12_isMaid, li, pk_mul, nI_add, nI_clamp, bI] at *); (try simp [*]); done)
theorem con_X12_isMaid (l : Launch) : CON l y_X12_isMaid prog_14_method_60_code 2 (some .boolean) rm_X12_isMaid Pre_X12_isMaid Fn_X12_isMaid := CON_of (by decide) rfl rfl (sa_X12_isMaid l) vc_X12_isMaid
def Pre_X12_isThing : PreT := fun _ as => ∃ x : Int32, as = [vR 12 0, vI x]
def Fn_X12_isThing : FnT := fun m as => match as with
  | [_, Sum.inl x] => (some (vI (bI (¬ x < 0 ∧ ¬ m.1 54 0 2 ≤ x))), m)
  | _ => (none, m)
abbrev y_X12_isThing : MethodName := ⟨"GivenUpModel", "isThing", "(I)Z"⟩
def P_X12_isThing : List StpT := [s_iload 1, s_iflt 10, s_iload 1, s_aload 0, s_getR 12 0 54, s_ic (2), s_iald, s_icge 10, s_ic (1), s_goto 11, s_ic (0), s_zret]
def pc_X12_isThing : Nat → Nat := fun i => [0, 1, 4, 5, 6, 9, 10, 11, 14, 15, 18, 19].getD i 0
def dl_X12_isThing : List (Nat × Instr × Nat) := [(0, .iload_n 1, 1), (1, .ifCond .lt 17, 3), (4, .iload_n 1, 1), (5, .aload_n 0, 1), (6, .getfield 7, 3), (9, .iconst 2, 1), (10, .iaload, 1), (11, .if_icmp .ge 7, 3), (14, .iconst 1, 1), (15, .goto 4, 3), (18, .iconst 0, 1), (19, .ireturn, 1)]
theorem dc_X12_isThing : DEC prog_14_method_61_code pc_X12_isThing dl_X12_isThing := DEC_of (by decide +kernel)
abbrev rm_X12_isThing : Room := { frames := 0, cells := 0, slots := 0, locals := 0 }
set_option maxRecDepth 20000 in
theorem sa_X12_isThing (l : Launch) : SNDALL l prog_14_method_61_code "GivenUpModel" 2 (some .boolean) rm_X12_isThing P_X12_isThing pc_X12_isThing := fun p e s m args below meth c cells slots Q D dA ad A RR hC hR => by
  have hM := RTX_room (R := rm_X12_isThing) hR
  exact ⟨st_iload_n hC (n := 0) (k := 1) (dc_X12_isThing 0 (0, .iload_n 1, 1) rfl rfl) rfl rfl,
    st_iflt hC (n := 1) (dc_X12_isThing 1 (1, .ifCond .lt 17, 3) rfl rfl) rfl (by decide),
    st_iload_n hC (n := 2) (k := 1) (dc_X12_isThing 2 (4, .iload_n 1, 1) rfl rfl) rfl rfl,
    st_aload_n hC (n := 3) (k := 0) (dc_X12_isThing 3 (5, .aload_n 0, 1) rfl rfl) rfl rfl,
    st_getR hC (n := 4) (k := 12) (j := 0) (dc_X12_isThing 4 (6, .getfield 7, 3) rfl rfl) rfl clf_12 (by decide) rfl (by decide) wd_1552,
    st_iconst hC (n := 5) (x := 2) (dc_X12_isThing 5 (9, .iconst 2, 1) rfl rfl) rfl (by decide),
    st_iald hC (n := 6) (dc_X12_isThing 6 (10, .iaload, 1) rfl rfl) rfl,
    st_icge hC (n := 7) (dc_X12_isThing 7 (11, .if_icmp .ge 7, 3) rfl rfl) rfl (by decide),
    st_iconst hC (n := 8) (x := 1) (dc_X12_isThing 8 (14, .iconst 1, 1) rfl rfl) rfl (by decide),
    st_goto hC (n := 9) (dc_X12_isThing 9 (15, .goto 4, 3) rfl rfl) (by decide),
    st_iconst hC (n := 10) (x := 0) (dc_X12_isThing 10 (18, .iconst 0, 1) rfl rfl) rfl (by decide),
    st_zret hC (n := 11) hR (dc_X12_isThing 11 (19, .ireturn, 1) rfl rfl), trivial⟩
theorem vc_X12_isThing : VC P_X12_isThing 2 Pre_X12_isThing Fn_X12_isThing := by
  rintro mm as hom hoa ⟨x, rfl⟩
  refine ⟨Nat.le_of_ble_eq_true rfl, fun X h => ?_⟩
  refine h (fun _ => false) 3000 0 _ _ _ ?_
  repeat' (first | refine And.intro (by (first | exact rfl | exact Or.inl rfl | exact Or.inr rfl | exact bI_in | exact inb_o 3060 rfl rfl (by (try simp (disch := omega) only [li, pk_mul, nI_add, nI_clamp]); rfl) (by omega) | exact inb_o 12 rfl rfl (by (try simp (disch := omega) only [li, pk_mul, nI_add, nI_clamp]); rfl) (by omega) | exact inb_o 4 rfl rfl (by (try simp (disch := omega) only [li, pk_mul, nI_add, nI_clamp]); rfl) (by omega) | exact inb_o 5 rfl rfl (by (try simp (disch := omega) only [li, pk_mul, nI_add, nI_clamp]); rfl) (by omega) | exact inb_o 16 rfl rfl (by (try simp (disch := omega) only [li, pk_mul, nI_add, nI_clamp]); rfl) (by omega) | exact inb_o 20 rfl rfl (by (try simp (disch := omega) only [li, pk_mul, nI_add, nI_clamp]); rfl) (by omega) | exact inb_o 30 rfl rfl (by (try simp (disch := omega) only [li, pk_mul, nI_add, nI_clamp]); rfl) (by omega) | exact inb_o 48 rfl rfl (by (try simp (disch := omega) only [li, pk_mul, nI_add, nI_clamp]); rfl) (by omega) | exact inb_o 60 rfl rfl (by (try simp (disch := omega) only [li, pk_mul, nI_add, nI_clamp]); rfl) (by omega) | exact inb_o 80 rfl rfl (by (try simp (disch := omega) only [li, pk_mul, nI_add, nI_clamp]); rfl) (by omega) | exact inb_o 120 rfl rfl (by (try simp (disch := omega) only [li, pk_mul, nI_add, nI_clamp]); rfl) (by omega) | exact inb_o 240 rfl rfl (by (try simp (disch := omega) only [li, pk_mul, nI_add, nI_clamp]); rfl) (by omega) | exact inb_o 900 rfl rfl (by (try simp (disch := omega) only [li, pk_mul, nI_add, nI_clamp]); rfl) (by omega) | exact inb_o 4096 rfl rfl (by (try simp (disch := omega) only [li, pk_mul, nI_add, nI_clamp]); rfl) (by omega) | exact inb_o 3 rfl rfl (by (try simp (disch := omega) only [li, pk_mul, nI_add, nI_clamp]); rfl) (by omega))) ?_ | refine br_t (by ((try simp (disch := omega) only [li, pk_mul, nI_add, nI_clamp, nI_leI, nI_ltI, nI_eq, bI_0, bI_n0, Decidable.not_not, gu_m1]); first | done | omega | assumption)) ?_ | refine br_f (by ((try simp (disch := omega) only [li, pk_mul, nI_add, nI_clamp, nI_leI, nI_ltI, nI_eq, bI_0, bI_n0, Decidable.not_not, gu_m1]); first | done | omega | assumption)) ?_ | refine brn_t (by ((try simp (disch := omega) only [li, pk_mul, nI_add, nI_clamp, nI_leI, nI_ltI, nI_eq, bI_0, bI_n0, Decidable.not_not, gu_m1]); first | done | omega | assumption)) ?_ | refine brn_f (by ((try simp (disch := omega) only [li, pk_mul, nI_add, nI_clamp, nI_leI, nI_ltI, nI_eq, bI_0, bI_n0, Decidable.not_not, gu_m1]); first | done | omega | assumption)) ?_ | refine br_c (fun _ => ?_) (fun _ => ?_) | refine brn_c (fun _ => ?_) (fun _ => ?_))
  all_goals (refine leaf ?_; (try simp (disch := omega) only [Fn_X12_isThing, li, pk_mul, nI_add, nI_clamp, bI] at *); (try simp [*]); done)
theorem con_X12_isThing (l : Launch) : CON l y_X12_isThing prog_14_method_61_code 2 (some .boolean) rm_X12_isThing Pre_X12_isThing Fn_X12_isThing := CON_of (by decide) rfl rfl (sa_X12_isThing l) vc_X12_isThing
def Pre_X12_areBoth : PreT := fun _ as => ∃ x y : Int32, as = [vR 12 0, vI x, vI y]
def Fn_X12_areBoth : FnT := fun m as => match as with
  | [_, Sum.inl x, Sum.inl y] => (some (vI (bI ((¬ x < 0 ∧ ¬ m.1 54 0 0 ≤ x) ∧ (¬ y < 0 ∧ ¬ m.1 54 0 1 ≤ y)))), m)
  | _ => (none, m)
abbrev y_X12_areBoth : MethodName := ⟨"GivenUpModel", "areBoth", "(II)Z"⟩
def P_X12_areBoth : List StpT := [s_aload 0, s_iload 1, s_callV 12 1 Pre_X12_isSuitor Fn_X12_isSuitor, s_ifeq 10, s_aload 0, s_iload 2, s_callV 12 1 Pre_X12_isMaid Fn_X12_isMaid, s_ifeq 10, s_ic (1), s_goto 11, s_ic (0), s_zret]
def pc_X12_areBoth : Nat → Nat := fun i => [0, 1, 2, 5, 8, 9, 10, 13, 16, 17, 20, 21].getD i 0
def dl_X12_areBoth : List (Nat × Instr × Nat) := [(0, .aload_n 0, 1), (1, .iload_n 1, 1), (2, .invokevirtual 265, 3), (5, .ifCond .eq 15, 3), (8, .aload_n 0, 1), (9, .iload_n 2, 1), (10, .invokevirtual 268, 3), (13, .ifCond .eq 7, 3), (16, .iconst 1, 1), (17, .goto 4, 3), (20, .iconst 0, 1), (21, .ireturn, 1)]
theorem dc_X12_areBoth : DEC prog_14_method_62_code pc_X12_areBoth dl_X12_areBoth := DEC_of (by decide +kernel)
abbrev rm_X12_areBoth : Room := { frames := 1, cells := 0, slots := 0, locals := 21 }
set_option maxRecDepth 20000 in
theorem sa_X12_areBoth (l : Launch) : SNDALL l prog_14_method_62_code "GivenUpModel" 3 (some .boolean) rm_X12_areBoth P_X12_areBoth pc_X12_areBoth := fun p e s m args below meth c cells slots Q D dA ad A RR hC hR => by
  have hM := RTX_room (R := rm_X12_areBoth) hR
  exact ⟨st_aload_n hC (n := 0) (k := 0) (dc_X12_areBoth 0 (0, .aload_n 0, 1) rfl rfl) rfl rfl,
    st_iload_n hC (n := 1) (k := 1) (dc_X12_areBoth 1 (1, .iload_n 1, 1) rfl rfl) rfl rfl,
    st_callV hC (n := 2) (k := 12) (na := 1) (con_X12_isSuitor l) (dc_X12_areBoth 2 (2, .invokevirtual 265, 3) rfl rfl) rfl wd_1885 wd_160 (by decide) ⟨rfl, rfl, by decide, by decide⟩ hM wd_1882 wd_1884 wd_85 clf_12,
    st_ifeq hC (n := 3) (dc_X12_areBoth 3 (5, .ifCond .eq 15, 3) rfl rfl) rfl (by decide),
    st_aload_n hC (n := 4) (k := 0) (dc_X12_areBoth 4 (8, .aload_n 0, 1) rfl rfl) rfl rfl,
    st_iload_n hC (n := 5) (k := 2) (dc_X12_areBoth 5 (9, .iload_n 2, 1) rfl rfl) rfl rfl,
    st_callV hC (n := 6) (k := 12) (na := 1) (con_X12_isMaid l) (dc_X12_areBoth 6 (10, .invokevirtual 268, 3) rfl rfl) rfl wd_1923 wd_160 (by decide) ⟨rfl, rfl, by decide, by decide⟩ hM wd_1920 wd_1922 wd_92 clf_12,
    st_ifeq hC (n := 7) (dc_X12_areBoth 7 (13, .ifCond .eq 7, 3) rfl rfl) rfl (by decide),
    st_iconst hC (n := 8) (x := 1) (dc_X12_areBoth 8 (16, .iconst 1, 1) rfl rfl) rfl (by decide),
    st_goto hC (n := 9) (dc_X12_areBoth 9 (17, .goto 4, 3) rfl rfl) (by decide),
    st_iconst hC (n := 10) (x := 0) (dc_X12_areBoth 10 (20, .iconst 0, 1) rfl rfl) rfl (by decide),
    st_zret hC (n := 11) hR (dc_X12_areBoth 11 (21, .ireturn, 1) rfl rfl), trivial⟩
theorem vc_X12_areBoth : VC P_X12_areBoth 3 Pre_X12_areBoth Fn_X12_areBoth := by
  rintro mm as hom hoa ⟨x, y, rfl⟩
  refine ⟨Nat.le_of_ble_eq_true rfl, fun X h => ?_⟩
  refine h (fun _ => false) 3000 0 _ _ _ ?_
  refine And.intro ⟨_, rfl⟩ ?_
  refine br_c (fun h1 => ?_) (fun h1 => ?_)
  · rw [bI_0] at h1
    repeat' (first | refine And.intro (by (first | exact rfl | exact Or.inl rfl | exact Or.inr rfl | exact bI_in | exact inb_o 3060 rfl rfl (by (try simp (disch := omega) only [li, pk_mul, nI_add, nI_clamp]); rfl) (by omega) | exact inb_o 12 rfl rfl (by (try simp (disch := omega) only [li, pk_mul, nI_add, nI_clamp]); rfl) (by omega) | exact inb_o 4 rfl rfl (by (try simp (disch := omega) only [li, pk_mul, nI_add, nI_clamp]); rfl) (by omega) | exact inb_o 5 rfl rfl (by (try simp (disch := omega) only [li, pk_mul, nI_add, nI_clamp]); rfl) (by omega) | exact inb_o 16 rfl rfl (by (try simp (disch := omega) only [li, pk_mul, nI_add, nI_clamp]); rfl) (by omega) | exact inb_o 20 rfl rfl (by (try simp (disch := omega) only [li, pk_mul, nI_add, nI_clamp]); rfl) (by omega) | exact inb_o 30 rfl rfl (by (try simp (disch := omega) only [li, pk_mul, nI_add, nI_clamp]); rfl) (by omega) | exact inb_o 48 rfl rfl (by (try simp (disch := omega) only [li, pk_mul, nI_add, nI_clamp]); rfl) (by omega) | exact inb_o 60 rfl rfl (by (try simp (disch := omega) only [li, pk_mul, nI_add, nI_clamp]); rfl) (by omega) | exact inb_o 80 rfl rfl (by (try simp (disch := omega) only [li, pk_mul, nI_add, nI_clamp]); rfl) (by omega) | exact inb_o 120 rfl rfl (by (try simp (disch := omega) only [li, pk_mul, nI_add, nI_clamp]); rfl) (by omega) | exact inb_o 240 rfl rfl (by (try simp (disch := omega) only [li, pk_mul, nI_add, nI_clamp]); rfl) (by omega) | exact inb_o 900 rfl rfl (by (try simp (disch := omega) only [li, pk_mul, nI_add, nI_clamp]); rfl) (by omega) | exact inb_o 4096 rfl rfl (by (try simp (disch := omega) only [li, pk_mul, nI_add, nI_clamp]); rfl) (by omega) | exact inb_o 3 rfl rfl (by (try simp (disch := omega) only [li, pk_mul, nI_add, nI_clamp]); rfl) (by omega))) ?_ | refine br_t (by ((try simp (disch := omega) only [li, pk_mul, nI_add, nI_clamp, nI_leI, nI_ltI, nI_eq, bI_0, bI_n0, Decidable.not_not, gu_m1]); first | done | omega | assumption)) ?_ | refine br_f (by ((try simp (disch := omega) only [li, pk_mul, nI_add, nI_clamp, nI_leI, nI_ltI, nI_eq, bI_0, bI_n0, Decidable.not_not, gu_m1]); first | done | omega | assumption)) ?_ | refine brn_t (by ((try simp (disch := omega) only [li, pk_mul, nI_add, nI_clamp, nI_leI, nI_ltI, nI_eq, bI_0, bI_n0, Decidable.not_not, gu_m1]); first | done | omega | assumption)) ?_ | refine brn_f (by ((try simp (disch := omega) only [li, pk_mul, nI_add, nI_clamp, nI_leI, nI_ltI, nI_eq, bI_0, bI_n0, Decidable.not_not, gu_m1]); first | done | omega | assumption)) ?_ | refine br_c (fun _ => ?_) (fun _ => ?_) | refine brn_c (fun _ => ?_) (fun _ => ?_))
    exact ret_f (fun z => h1 z.1)
  · rw [bI_n0] at h1
    refine And.intro ⟨_, rfl⟩ ?_
    refine br_c (fun h2 => ?_) (fun h2 => ?_)
    · replace h2 := bI_0.mp h2
      repeat' (first | refine And.intro (by (first | exact rfl | exact Or.inl rfl | exact Or.inr rfl | exact bI_in | exact inb_o 3060 rfl rfl (by (try simp (disch := omega) only [li, pk_mul, nI_add, nI_clamp]); rfl) (by omega) | exact inb_o 12 rfl rfl (by (try simp (disch := omega) only [li, pk_mul, nI_add, nI_clamp]); rfl) (by omega) | exact inb_o 4 rfl rfl (by (try simp (disch := omega) only [li, pk_mul, nI_add, nI_clamp]); rfl) (by omega) | exact inb_o 5 rfl rfl (by (try simp (disch := omega) only [li, pk_mul, nI_add, nI_clamp]); rfl) (by omega) | exact inb_o 16 rfl rfl (by (try simp (disch := omega) only [li, pk_mul, nI_add, nI_clamp]); rfl) (by omega) | exact inb_o 20 rfl rfl (by (try simp (disch := omega) only [li, pk_mul, nI_add, nI_clamp]); rfl) (by omega) | exact inb_o 30 rfl rfl (by (try simp (disch := omega) only [li, pk_mul, nI_add, nI_clamp]); rfl) (by omega) | exact inb_o 48 rfl rfl (by (try simp (disch := omega) only [li, pk_mul, nI_add, nI_clamp]); rfl) (by omega) | exact inb_o 60 rfl rfl (by (try simp (disch := omega) only [li, pk_mul, nI_add, nI_clamp]); rfl) (by omega) | exact inb_o 80 rfl rfl (by (try simp (disch := omega) only [li, pk_mul, nI_add, nI_clamp]); rfl) (by omega) | exact inb_o 120 rfl rfl (by (try simp (disch := omega) only [li, pk_mul, nI_add, nI_clamp]); rfl) (by omega) | exact inb_o 240 rfl rfl (by (try simp (disch := omega) only [li, pk_mul, nI_add, nI_clamp]); rfl) (by omega) | exact inb_o 900 rfl rfl (by (try simp (disch := omega) only [li, pk_mul, nI_add, nI_clamp]); rfl) (by omega) | exact inb_o 4096 rfl rfl (by (try simp (disch := omega) only [li, pk_mul, nI_add, nI_clamp]); rfl) (by omega) | exact inb_o 3 rfl rfl (by (try simp (disch := omega) only [li, pk_mul, nI_add, nI_clamp]); rfl) (by omega))) ?_ | refine br_t (by ((try simp (disch := omega) only [li, pk_mul, nI_add, nI_clamp, nI_leI, nI_ltI, nI_eq, bI_0, bI_n0, Decidable.not_not, gu_m1]); first | done | omega | assumption)) ?_ | refine br_f (by ((try simp (disch := omega) only [li, pk_mul, nI_add, nI_clamp, nI_leI, nI_ltI, nI_eq, bI_0, bI_n0, Decidable.not_not, gu_m1]); first | done | omega | assumption)) ?_ | refine brn_t (by ((try simp (disch := omega) only [li, pk_mul, nI_add, nI_clamp, nI_leI, nI_ltI, nI_eq, bI_0, bI_n0, Decidable.not_not, gu_m1]); first | done | omega | assumption)) ?_ | refine brn_f (by ((try simp (disch := omega) only [li, pk_mul, nI_add, nI_clamp, nI_leI, nI_ltI, nI_eq, bI_0, bI_n0, Decidable.not_not, gu_m1]); first | done | omega | assumption)) ?_ | refine br_c (fun _ => ?_) (fun _ => ?_) | refine brn_c (fun _ => ?_) (fun _ => ?_))
      exact ret_f (fun z => h2 z.2)
    · replace h2 := bI_n0.mp h2
      repeat' (first | refine And.intro (by (first | exact rfl | exact Or.inl rfl | exact Or.inr rfl | exact bI_in | exact inb_o 3060 rfl rfl (by (try simp (disch := omega) only [li, pk_mul, nI_add, nI_clamp]); rfl) (by omega) | exact inb_o 12 rfl rfl (by (try simp (disch := omega) only [li, pk_mul, nI_add, nI_clamp]); rfl) (by omega) | exact inb_o 4 rfl rfl (by (try simp (disch := omega) only [li, pk_mul, nI_add, nI_clamp]); rfl) (by omega) | exact inb_o 5 rfl rfl (by (try simp (disch := omega) only [li, pk_mul, nI_add, nI_clamp]); rfl) (by omega) | exact inb_o 16 rfl rfl (by (try simp (disch := omega) only [li, pk_mul, nI_add, nI_clamp]); rfl) (by omega) | exact inb_o 20 rfl rfl (by (try simp (disch := omega) only [li, pk_mul, nI_add, nI_clamp]); rfl) (by omega) | exact inb_o 30 rfl rfl (by (try simp (disch := omega) only [li, pk_mul, nI_add, nI_clamp]); rfl) (by omega) | exact inb_o 48 rfl rfl (by (try simp (disch := omega) only [li, pk_mul, nI_add, nI_clamp]); rfl) (by omega) | exact inb_o 60 rfl rfl (by (try simp (disch := omega) only [li, pk_mul, nI_add, nI_clamp]); rfl) (by omega) | exact inb_o 80 rfl rfl (by (try simp (disch := omega) only [li, pk_mul, nI_add, nI_clamp]); rfl) (by omega) | exact inb_o 120 rfl rfl (by (try simp (disch := omega) only [li, pk_mul, nI_add, nI_clamp]); rfl) (by omega) | exact inb_o 240 rfl rfl (by (try simp (disch := omega) only [li, pk_mul, nI_add, nI_clamp]); rfl) (by omega) | exact inb_o 900 rfl rfl (by (try simp (disch := omega) only [li, pk_mul, nI_add, nI_clamp]); rfl) (by omega) | exact inb_o 4096 rfl rfl (by (try simp (disch := omega) only [li, pk_mul, nI_add, nI_clamp]); rfl) (by omega) | exact inb_o 3 rfl rfl (by (try simp (disch := omega) only [li, pk_mul, nI_add, nI_clamp]); rfl) (by omega))) ?_ | refine br_t (by ((try simp (disch := omega) only [li, pk_mul, nI_add, nI_clamp, nI_leI, nI_ltI, nI_eq, bI_0, bI_n0, Decidable.not_not, gu_m1]); first | done | omega | assumption)) ?_ | refine br_f (by ((try simp (disch := omega) only [li, pk_mul, nI_add, nI_clamp, nI_leI, nI_ltI, nI_eq, bI_0, bI_n0, Decidable.not_not, gu_m1]); first | done | omega | assumption)) ?_ | refine brn_t (by ((try simp (disch := omega) only [li, pk_mul, nI_add, nI_clamp, nI_leI, nI_ltI, nI_eq, bI_0, bI_n0, Decidable.not_not, gu_m1]); first | done | omega | assumption)) ?_ | refine brn_f (by ((try simp (disch := omega) only [li, pk_mul, nI_add, nI_clamp, nI_leI, nI_ltI, nI_eq, bI_0, bI_n0, Decidable.not_not, gu_m1]); first | done | omega | assumption)) ?_ | refine br_c (fun _ => ?_) (fun _ => ?_) | refine brn_c (fun _ => ?_) (fun _ => ?_))
      exact ret_t ⟨h1, h2⟩
theorem con_X12_areBoth (l : Launch) : CON l y_X12_areBoth prog_14_method_62_code 3 (some .boolean) rm_X12_areBoth Pre_X12_areBoth Fn_X12_areBoth := CON_of (by decide) rfl rfl (sa_X12_areBoth l) vc_X12_areBoth
