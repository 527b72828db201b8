/-! PART 9ZZL: constructors -/

noncomputable section
abbrev y_X0_init : MethodName := ⟨"GivenUp$Courtship", "<init>", "()V"⟩
def pn_X0_init : Nat → Nat := fun i => [0, 1, 4, 5, 6, 8, 11, 12, 13, 15, 18, 19, 20, 22, 25, 26, 27, 30, 31, 32, 35, 36, 37, 40, 41, 42, 45].getD i 0
def dm_X0_init : List (Nat × Instr × Nat) := [(0, .aload_n 0, 1), (1, .invokespecial 3, 3), (4, .aload_n 0, 1), (5, .iconst 4, 1), (6, .newarray .int, 2), (8, .putfield 9, 3), (11, .aload_n 0, 1), (12, .iconst 4, 1), (13, .newarray .int, 2), (15, .putfield 15, 3), (18, .aload_n 0, 1), (19, .iconst 4, 1), (20, .newarray .int, 2), (22, .putfield 18, 3), (25, .aload_n 0, 1), (26, .iconst 0, 1), (27, .putfield 21, 3), (30, .aload_n 0, 1), (31, .iconst (-1), 1), (32, .putfield 25, 3), (35, .aload_n 0, 1), (36, .iconst (-1), 1), (37, .putfield 28, 3), (40, .aload_n 0, 1), (41, .iconst 0, 1), (42, .putfield 31, 3), (45, .return_, 1)]
theorem dn_X0_init : DEC prog_2_method_1_code pn_X0_init dm_X0_init := DEC_of (by decide +kernel)
abbrev rm_X0_init : Room := { frames := 1, cells := 3, slots := 12, locals := 12 }
set_option maxHeartbeats 4000000 in
set_option maxRecDepth 20000 in
theorem cn_X0_init (l : Launch) (ad0 : Nat → Nat → Nat) : CNI l ad0 y_X0_init prog_2_method_1_code 1 rm_X0_init 3 12 (alen 0) [.null, .null, .null, .int 0, .int 0, .int 0, .int 0] [] 0 CX0 m0 (fun _ => True) := by
  refine CNI_of (own := "GivenUp$Courtship") (by decide) rfl rfl (Nat.le_of_ble_eq_true rfl) (fun p e s m args below meth c D dA h0 hG hmn hrt hlk => ?_)
  refine g_aload_n hG (dn_X0_init 0 (0, .aload_n 0, 1) rfl rfl) (pc' := 1) rfl rfl 0 rfl ?_
  refine g_obj hG (dn_X0_init 1 (1, .invokespecial 3, 3) rfl rfl) (pc' := 4) rfl wd_403 wd_170 wd_171 (Nat.le_of_ble_eq_true rfl) (Nat.le_of_ble_eq_true rfl) ?_
  refine g_aload_n hG (dn_X0_init 2 (4, .aload_n 0, 1) rfl rfl) (pc' := 5) rfl rfl 0 rfl ?_
  refine g_iconst hG 4 (dn_X0_init 3 (5, .iconst 4, 1) rfl rfl) (pc' := 6) rfl (by decide) ?_
  refine k_newa hG 4 (4, .inl (fun _ => 0)) 0 (dn_X0_init 4 (6, .newarray .int, 2) rfl rfl) (pc' := 8) rfl wd_303 rfl (fun _ z => by cases z) rfl (fun _ => rfl) (by decide) (by decide +kernel) (Nat.le_of_ble_eq_true rfl) (Nat.le_of_ble_eq_true rfl) (Nat.le_of_ble_eq_true rfl) (fun q1 => ?_)
  refine g_putF hG (j := 0) [.ref q1, .null, .null, .int 0, .int 0, .int 0, .int 0] hmn (dn_X0_init 5 (8, .putfield 9, 3) rfl rfl) (pc' := 11) rfl clf_0 (by decide) rfl rfl rfl rfl rfl wd_404 ?_
  refine g_aload_n hG (dn_X0_init 6 (11, .aload_n 0, 1) rfl rfl) (pc' := 12) rfl rfl 0 rfl ?_
  refine g_iconst hG 4 (dn_X0_init 7 (12, .iconst 4, 1) rfl rfl) (pc' := 13) rfl (by decide) ?_
  refine k_newa hG 4 (4, .inl (fun _ => 0)) 0 (dn_X0_init 8 (13, .newarray .int, 2) rfl rfl) (pc' := 15) rfl wd_303 rfl (fun _ z => by cases z) rfl (fun _ => rfl) (by decide) (by decide +kernel) (Nat.le_of_ble_eq_true rfl) (Nat.le_of_ble_eq_true rfl) (Nat.le_of_ble_eq_true rfl) (fun q2 => ?_)
  refine g_putF hG (j := 1) [.ref q1, .ref q2, .null, .int 0, .int 0, .int 0, .int 0] hmn (dn_X0_init 9 (15, .putfield 15, 3) rfl rfl) (pc' := 18) rfl clf_0 (by decide) rfl rfl rfl rfl rfl wd_405 ?_
  refine g_aload_n hG (dn_X0_init 10 (18, .aload_n 0, 1) rfl rfl) (pc' := 19) rfl rfl 0 rfl ?_
  refine g_iconst hG 4 (dn_X0_init 11 (19, .iconst 4, 1) rfl rfl) (pc' := 20) rfl (by decide) ?_
  refine k_newa hG 4 (4, .inl (fun _ => 0)) 0 (dn_X0_init 12 (20, .newarray .int, 2) rfl rfl) (pc' := 22) rfl wd_303 rfl (fun _ z => by cases z) rfl (fun _ => rfl) (by decide) (by decide +kernel) (Nat.le_of_ble_eq_true rfl) (Nat.le_of_ble_eq_true rfl) (Nat.le_of_ble_eq_true rfl) (fun q3 => ?_)
  refine g_putF hG (j := 2) [.ref q1, .ref q2, .ref q3, .int 0, .int 0, .int 0, .int 0] hmn (dn_X0_init 13 (22, .putfield 18, 3) rfl rfl) (pc' := 25) rfl clf_0 (by decide) rfl rfl rfl rfl rfl wd_406 ?_
  refine g_aload_n hG (dn_X0_init 14 (25, .aload_n 0, 1) rfl rfl) (pc' := 26) rfl rfl 0 rfl ?_
  refine g_iconst hG 0 (dn_X0_init 15 (26, .iconst 0, 1) rfl rfl) (pc' := 27) rfl (by decide) ?_
  refine g_put hG (j := 3) [.ref q1, .ref q2, .ref q3, .int 0, .int 0, .int 0, .int 0] (dn_X0_init 16 (27, .putfield 21, 3) rfl rfl) (pc' := 30) rfl clf_0 (by decide) rfl rfl rfl rfl rfl wd_408 ?_
  refine g_aload_n hG (dn_X0_init 17 (30, .aload_n 0, 1) rfl rfl) (pc' := 31) rfl rfl 0 rfl ?_
  refine g_iconst hG (-1) (dn_X0_init 18 (31, .iconst (-1), 1) rfl rfl) (pc' := 32) rfl (by decide) ?_
  refine g_put hG (j := 4) [.ref q1, .ref q2, .ref q3, .int 0, .int (-1), .int 0, .int 0] (dn_X0_init 19 (32, .putfield 25, 3) rfl rfl) (pc' := 35) rfl clf_0 (by decide) rfl rfl rfl rfl rfl wd_410 ?_
  refine g_aload_n hG (dn_X0_init 20 (35, .aload_n 0, 1) rfl rfl) (pc' := 36) rfl rfl 0 rfl ?_
  refine g_iconst hG (-1) (dn_X0_init 21 (36, .iconst (-1), 1) rfl rfl) (pc' := 37) rfl (by decide) ?_
  refine g_put hG (j := 5) [.ref q1, .ref q2, .ref q3, .int 0, .int (-1), .int (-1), .int 0] (dn_X0_init 22 (37, .putfield 28, 3) rfl rfl) (pc' := 40) rfl clf_0 (by decide) rfl rfl rfl rfl rfl wd_412 ?_
  refine g_aload_n hG (dn_X0_init 23 (40, .aload_n 0, 1) rfl rfl) (pc' := 41) rfl rfl 0 rfl ?_
  refine g_iconst hG 0 (dn_X0_init 24 (41, .iconst 0, 1) rfl rfl) (pc' := 42) rfl (by decide) ?_
  refine g_put hG (j := 6) [.ref q1, .ref q2, .ref q3, .int 0, .int (-1), .int (-1), .int 0] (dn_X0_init 25 (42, .putfield 31, 3) rfl rfl) (pc' := 45) rfl clf_0 (by decide) rfl rfl rfl rfl rfl wd_414 ?_
  exact g_vret hG (dn_X0_init 26 (45, .return_, 1) rfl rfl) rfl rfl hrt hlk (fun k g => bif Nat.beq k 0 then h0 else bif Nat.beq k 13 then q1 else bif Nat.beq k 14 then q2 else bif Nat.beq k 15 then q3 else ad0 k g) rfl trivial rfl
abbrev y_X1_init : MethodName := ⟨"GivenUp$Deeds", "<init>", "()V"⟩
def pn_X1_init : Nat → Nat := fun i => [0, 1, 4, 5, 6, 8, 11, 12, 13, 15, 18, 19, 20, 22, 25, 26, 27, 29, 32, 33, 34, 37, 38, 39, 42, 43, 44, 47].getD i 0
def dm_X1_init : List (Nat × Instr × Nat) := [(0, .aload_n 0, 1), (1, .invokespecial 3, 3), (4, .aload_n 0, 1), (5, .iconst 4, 1), (6, .newarray .int, 2), (8, .putfield 9, 3), (11, .aload_n 0, 1), (12, .iconst 4, 1), (13, .newarray .int, 2), (15, .putfield 15, 3), (18, .aload_n 0, 1), (19, .iconst 4, 1), (20, .newarray .int, 2), (22, .putfield 18, 3), (25, .aload_n 0, 1), (26, .iconst 4, 1), (27, .newarray .int, 2), (29, .putfield 21, 3), (32, .aload_n 0, 1), (33, .iconst 0, 1), (34, .putfield 24, 3), (37, .aload_n 0, 1), (38, .iconst 0, 1), (39, .putfield 28, 3), (42, .aload_n 0, 1), (43, .iconst 0, 1), (44, .putfield 31, 3), (47, .return_, 1)]
theorem dn_X1_init : DEC prog_3_method_1_code pn_X1_init dm_X1_init := DEC_of (by decide +kernel)
abbrev rm_X1_init : Room := { frames := 1, cells := 4, slots := 16, locals := 12 }
set_option maxHeartbeats 4000000 in
set_option maxRecDepth 20000 in
theorem cn_X1_init (l : Launch) (ad0 : Nat → Nat → Nat) : CNI l ad0 y_X1_init prog_3_method_1_code 1 rm_X1_init 4 16 (alen 1) [.null, .null, .null, .null, .int 0, .int 0, .int 0] [] 1 CX1 m0 (fun _ => True) := by
  refine CNI_of (own := "GivenUp$Deeds") (by decide) rfl rfl (Nat.le_of_ble_eq_true rfl) (fun p e s m args below meth c D dA h0 hG hmn hrt hlk => ?_)
  refine g_aload_n hG (dn_X1_init 0 (0, .aload_n 0, 1) rfl rfl) (pc' := 1) rfl rfl 0 rfl ?_
  refine g_obj hG (dn_X1_init 1 (1, .invokespecial 3, 3) rfl rfl) (pc' := 4) rfl wd_462 wd_170 wd_171 (Nat.le_of_ble_eq_true rfl) (Nat.le_of_ble_eq_true rfl) ?_
  refine g_aload_n hG (dn_X1_init 2 (4, .aload_n 0, 1) rfl rfl) (pc' := 5) rfl rfl 0 rfl ?_
  refine g_iconst hG 4 (dn_X1_init 3 (5, .iconst 4, 1) rfl rfl) (pc' := 6) rfl (by decide) ?_
  refine k_newa hG 4 (4, .inl (fun _ => 0)) 0 (dn_X1_init 4 (6, .newarray .int, 2) rfl rfl) (pc' := 8) rfl wd_303 rfl (fun _ z => by cases z) rfl (fun _ => rfl) (by decide) (by decide +kernel) (Nat.le_of_ble_eq_true rfl) (Nat.le_of_ble_eq_true rfl) (Nat.le_of_ble_eq_true rfl) (fun q1 => ?_)
  refine g_putF hG (j := 0) [.ref q1, .null, .null, .null, .int 0, .int 0, .int 0] hmn (dn_X1_init 5 (8, .putfield 9, 3) rfl rfl) (pc' := 11) rfl clf_1 (by decide) rfl rfl rfl rfl rfl wd_463 ?_
  refine g_aload_n hG (dn_X1_init 6 (11, .aload_n 0, 1) rfl rfl) (pc' := 12) rfl rfl 0 rfl ?_
  refine g_iconst hG 4 (dn_X1_init 7 (12, .iconst 4, 1) rfl rfl) (pc' := 13) rfl (by decide) ?_
  refine k_newa hG 4 (4, .inl (fun _ => 0)) 0 (dn_X1_init 8 (13, .newarray .int, 2) rfl rfl) (pc' := 15) rfl wd_303 rfl (fun _ z => by cases z) rfl (fun _ => rfl) (by decide) (by decide +kernel) (Nat.le_of_ble_eq_true rfl) (Nat.le_of_ble_eq_true rfl) (Nat.le_of_ble_eq_true rfl) (fun q2 => ?_)
  refine g_putF hG (j := 1) [.ref q1, .ref q2, .null, .null, .int 0, .int 0, .int 0] hmn (dn_X1_init 9 (15, .putfield 15, 3) rfl rfl) (pc' := 18) rfl clf_1 (by decide) rfl rfl rfl rfl rfl wd_467 ?_
  refine g_aload_n hG (dn_X1_init 10 (18, .aload_n 0, 1) rfl rfl) (pc' := 19) rfl rfl 0 rfl ?_
  refine g_iconst hG 4 (dn_X1_init 11 (19, .iconst 4, 1) rfl rfl) (pc' := 20) rfl (by decide) ?_
  refine k_newa hG 4 (4, .inl (fun _ => 0)) 0 (dn_X1_init 12 (20, .newarray .int, 2) rfl rfl) (pc' := 22) rfl wd_303 rfl (fun _ z => by cases z) rfl (fun _ => rfl) (by decide) (by decide +kernel) (Nat.le_of_ble_eq_true rfl) (Nat.le_of_ble_eq_true rfl) (Nat.le_of_ble_eq_true rfl) (fun q3 => ?_)
  refine g_putF hG (j := 2) [.ref q1, .ref q2, .ref q3, .null, .int 0, .int 0, .int 0] hmn (dn_X1_init 13 (22, .putfield 18, 3) rfl rfl) (pc' := 25) rfl clf_1 (by decide) rfl rfl rfl rfl rfl wd_471 ?_
  refine g_aload_n hG (dn_X1_init 14 (25, .aload_n 0, 1) rfl rfl) (pc' := 26) rfl rfl 0 rfl ?_
  refine g_iconst hG 4 (dn_X1_init 15 (26, .iconst 4, 1) rfl rfl) (pc' := 27) rfl (by decide) ?_
  refine k_newa hG 4 (4, .inl (fun _ => 0)) 0 (dn_X1_init 16 (27, .newarray .int, 2) rfl rfl) (pc' := 29) rfl wd_303 rfl (fun _ z => by cases z) rfl (fun _ => rfl) (by decide) (by decide +kernel) (Nat.le_of_ble_eq_true rfl) (Nat.le_of_ble_eq_true rfl) (Nat.le_of_ble_eq_true rfl) (fun q4 => ?_)
  refine g_putF hG (j := 3) [.ref q1, .ref q2, .ref q3, .ref q4, .int 0, .int 0, .int 0] hmn (dn_X1_init 17 (29, .putfield 21, 3) rfl rfl) (pc' := 32) rfl clf_1 (by decide) rfl rfl rfl rfl rfl wd_474 ?_
  refine g_aload_n hG (dn_X1_init 18 (32, .aload_n 0, 1) rfl rfl) (pc' := 33) rfl rfl 0 rfl ?_
  refine g_iconst hG 0 (dn_X1_init 19 (33, .iconst 0, 1) rfl rfl) (pc' := 34) rfl (by decide) ?_
  refine g_put hG (j := 4) [.ref q1, .ref q2, .ref q3, .ref q4, .int 0, .int 0, .int 0] (dn_X1_init 20 (34, .putfield 24, 3) rfl rfl) (pc' := 37) rfl clf_1 (by decide) rfl rfl rfl rfl rfl wd_477 ?_
  refine g_aload_n hG (dn_X1_init 21 (37, .aload_n 0, 1) rfl rfl) (pc' := 38) rfl rfl 0 rfl ?_
  refine g_iconst hG 0 (dn_X1_init 22 (38, .iconst 0, 1) rfl rfl) (pc' := 39) rfl (by decide) ?_
  refine g_put hG (j := 5) [.ref q1, .ref q2, .ref q3, .ref q4, .int 0, .int 0, .int 0] (dn_X1_init 23 (39, .putfield 28, 3) rfl rfl) (pc' := 42) rfl clf_1 (by decide) rfl rfl rfl rfl rfl wd_481 ?_
  refine g_aload_n hG (dn_X1_init 24 (42, .aload_n 0, 1) rfl rfl) (pc' := 43) rfl rfl 0 rfl ?_
  refine g_iconst hG 0 (dn_X1_init 25 (43, .iconst 0, 1) rfl rfl) (pc' := 44) rfl (by decide) ?_
  refine g_put hG (j := 6) [.ref q1, .ref q2, .ref q3, .ref q4, .int 0, .int 0, .int 0] (dn_X1_init 26 (44, .putfield 31, 3) rfl rfl) (pc' := 47) rfl clf_1 (by decide) rfl rfl rfl rfl rfl wd_485 ?_
  exact g_vret hG (dn_X1_init 27 (47, .return_, 1) rfl rfl) rfl rfl hrt hlk (fun k g => bif Nat.beq k 1 then h0 else bif Nat.beq k 16 then q1 else bif Nat.beq k 17 then q2 else bif Nat.beq k 18 then q3 else bif Nat.beq k 19 then q4 else ad0 k g) rfl trivial rfl
abbrev y_X2_init : MethodName := ⟨"GivenUp$Life", "<init>", "()V"⟩
def pn_X2_init : Nat → Nat := fun i => [0, 1, 4, 5, 7, 9, 12, 13, 14, 16, 19, 20, 21, 24, 25, 26, 29].getD i 0
def dm_X2_init : List (Nat × Instr × Nat) := [(0, .aload_n 0, 1), (1, .invokespecial 3, 3), (4, .aload_n 0, 1), (5, .bipush 60, 2), (7, .newarray .int, 2), (9, .putfield 9, 3), (12, .aload_n 0, 1), (13, .iconst 5, 1), (14, .newarray .int, 2), (16, .putfield 15, 3), (19, .aload_n 0, 1), (20, .iconst 0, 1), (21, .putfield 18, 3), (24, .aload_n 0, 1), (25, .iconst 0, 1), (26, .putfield 22, 3), (29, .return_, 1)]
theorem dn_X2_init : DEC prog_4_method_1_code pn_X2_init dm_X2_init := DEC_of (by decide +kernel)
abbrev rm_X2_init : Room := { frames := 1, cells := 2, slots := 65, locals := 12 }
set_option maxHeartbeats 4000000 in
set_option maxRecDepth 20000 in
theorem cn_X2_init (l : Launch) (ad0 : Nat → Nat → Nat) : CNI l ad0 y_X2_init prog_4_method_1_code 1 rm_X2_init 2 65 (alen 2) [.null, .null, .int 0, .int 0] [] 2 CX2 m0 (fun _ => True) := by
  refine CNI_of (own := "GivenUp$Life") (by decide) rfl rfl (Nat.le_of_ble_eq_true rfl) (fun p e s m args below meth c D dA h0 hG hmn hrt hlk => ?_)
  refine g_aload_n hG (dn_X2_init 0 (0, .aload_n 0, 1) rfl rfl) (pc' := 1) rfl rfl 0 rfl ?_
  refine g_obj hG (dn_X2_init 1 (1, .invokespecial 3, 3) rfl rfl) (pc' := 4) rfl wd_436 wd_170 wd_171 (Nat.le_of_ble_eq_true rfl) (Nat.le_of_ble_eq_true rfl) ?_
  refine g_aload_n hG (dn_X2_init 2 (4, .aload_n 0, 1) rfl rfl) (pc' := 5) rfl rfl 0 rfl ?_
  refine g_bipush hG 60 (dn_X2_init 3 (5, .bipush 60, 2) rfl rfl) (pc' := 7) rfl (by decide) ?_
  refine k_newa hG 60 (60, .inl (fun _ => 0)) 0 (dn_X2_init 4 (7, .newarray .int, 2) rfl rfl) (pc' := 9) rfl wd_303 rfl (fun _ z => by cases z) rfl (fun _ => rfl) (by decide) (by decide +kernel) (Nat.le_of_ble_eq_true rfl) (Nat.le_of_ble_eq_true rfl) (Nat.le_of_ble_eq_true rfl) (fun q1 => ?_)
  refine g_putF hG (j := 0) [.ref q1, .null, .int 0, .int 0] hmn (dn_X2_init 5 (9, .putfield 9, 3) rfl rfl) (pc' := 12) rfl clf_2 (by decide) rfl rfl rfl rfl rfl wd_437 ?_
  refine g_aload_n hG (dn_X2_init 6 (12, .aload_n 0, 1) rfl rfl) (pc' := 13) rfl rfl 0 rfl ?_
  refine g_iconst hG 5 (dn_X2_init 7 (13, .iconst 5, 1) rfl rfl) (pc' := 14) rfl (by decide) ?_
  refine k_newa hG 5 (5, .inl (fun _ => 0)) 0 (dn_X2_init 8 (14, .newarray .int, 2) rfl rfl) (pc' := 16) rfl wd_303 rfl (fun _ z => by cases z) rfl (fun _ => rfl) (by decide) (by decide +kernel) (Nat.le_of_ble_eq_true rfl) (Nat.le_of_ble_eq_true rfl) (Nat.le_of_ble_eq_true rfl) (fun q2 => ?_)
  refine g_putF hG (j := 1) [.ref q1, .ref q2, .int 0, .int 0] hmn (dn_X2_init 9 (16, .putfield 15, 3) rfl rfl) (pc' := 19) rfl clf_2 (by decide) rfl rfl rfl rfl rfl wd_438 ?_
  refine g_aload_n hG (dn_X2_init 10 (19, .aload_n 0, 1) rfl rfl) (pc' := 20) rfl rfl 0 rfl ?_
  refine g_iconst hG 0 (dn_X2_init 11 (20, .iconst 0, 1) rfl rfl) (pc' := 21) rfl (by decide) ?_
  refine g_put hG (j := 2) [.ref q1, .ref q2, .int 0, .int 0] (dn_X2_init 12 (21, .putfield 18, 3) rfl rfl) (pc' := 24) rfl clf_2 (by decide) rfl rfl rfl rfl rfl wd_440 ?_
  refine g_aload_n hG (dn_X2_init 13 (24, .aload_n 0, 1) rfl rfl) (pc' := 25) rfl rfl 0 rfl ?_
  refine g_iconst hG 0 (dn_X2_init 14 (25, .iconst 0, 1) rfl rfl) (pc' := 26) rfl (by decide) ?_
  refine g_put hG (j := 3) [.ref q1, .ref q2, .int 0, .int 0] (dn_X2_init 15 (26, .putfield 22, 3) rfl rfl) (pc' := 29) rfl clf_2 (by decide) rfl rfl rfl rfl rfl wd_442 ?_
  exact g_vret hG (dn_X2_init 16 (29, .return_, 1) rfl rfl) rfl rfl hrt hlk (fun k g => bif Nat.beq k 2 then h0 else bif Nat.beq k 20 then q1 else bif Nat.beq k 21 then q2 else ad0 k g) rfl trivial rfl
abbrev y_X3_init : MethodName := ⟨"GivenUp$Plan", "<init>", "()V"⟩
def pn_X3_init : Nat → Nat := fun i => [0, 1, 4, 5, 7, 9, 12, 13, 15, 17, 20, 21, 23, 25, 28, 29, 31, 33, 36, 37, 38, 41, 42, 43, 46, 47, 48, 51, 52, 53, 56, 57, 58, 61, 62, 63, 66, 67, 68, 71, 72, 73, 76, 77, 78, 81, 82, 83, 86, 87, 88, 91, 92, 93, 96, 97, 98, 101].getD i 0
def dm_X3_init : List (Nat × Instr × Nat) := [(0, .aload_n 0, 1), (1, .invokespecial 3, 3), (4, .aload_n 0, 1), (5, .bipush 12, 2), (7, .newarray .int, 2), (9, .putfield 9, 3), (12, .aload_n 0, 1), (13, .bipush 12, 2), (15, .newarray .int, 2), (17, .putfield 15, 3), (20, .aload_n 0, 1), (21, .bipush 12, 2), (23, .newarray .int, 2), (25, .putfield 18, 3), (28, .aload_n 0, 1), (29, .bipush 12, 2), (31, .newarray .int, 2), (33, .putfield 21, 3), (36, .aload_n 0, 1), (37, .iconst 0, 1), (38, .putfield 24, 3), (41, .aload_n 0, 1), (42, .iconst 0, 1), (43, .putfield 28, 3), (46, .aload_n 0, 1), (47, .iconst 0, 1), (48, .putfield 31, 3), (51, .aload_n 0, 1), (52, .iconst 0, 1), (53, .putfield 34, 3), (56, .aload_n 0, 1), (57, .iconst 0, 1), (58, .putfield 37, 3), (61, .aload_n 0, 1), (62, .iconst 0, 1), (63, .putfield 40, 3), (66, .aload_n 0, 1), (67, .iconst 0, 1), (68, .putfield 43, 3), (71, .aload_n 0, 1), (72, .iconst 0, 1), (73, .putfield 46, 3), (76, .aload_n 0, 1), (77, .iconst 0, 1), (78, .putfield 49, 3), (81, .aload_n 0, 1), (82, .iconst (-1), 1), (83, .putfield 52, 3), (86, .aload_n 0, 1), (87, .iconst 0, 1), (88, .putfield 55, 3), (91, .aload_n 0, 1), (92, .iconst 0, 1), (93, .putfield 58, 3), (96, .aload_n 0, 1), (97, .iconst 0, 1), (98, .putfield 61, 3), (101, .return_, 1)]
theorem dn_X3_init : DEC prog_5_method_1_code pn_X3_init dm_X3_init := DEC_of (by decide +kernel)
abbrev rm_X3_init : Room := { frames := 1, cells := 4, slots := 48, locals := 12 }
set_option maxHeartbeats 4000000 in
set_option maxRecDepth 20000 in
theorem cn_X3_init (l : Launch) (ad0 : Nat → Nat → Nat) : CNI l ad0 y_X3_init prog_5_method_1_code 1 rm_X3_init 4 48 (alen 3) [.null, .null, .null, .null, .int 0, .int 0, .int 0, .int 0, .int 0, .int 0, .int 0, .int 0, .int 0, .int 0, .int 0, .int 0, .int 0] [] 3 CX3 m0 (fun _ => True) := by
  refine CNI_of (own := "GivenUp$Plan") (by decide) rfl rfl (Nat.le_of_ble_eq_true rfl) (fun p e s m args below meth c D dA h0 hG hmn hrt hlk => ?_)
  refine g_aload_n hG (dn_X3_init 0 (0, .aload_n 0, 1) rfl rfl) (pc' := 1) rfl rfl 0 rfl ?_
  refine g_obj hG (dn_X3_init 1 (1, .invokespecial 3, 3) rfl rfl) (pc' := 4) rfl wd_311 wd_170 wd_171 (Nat.le_of_ble_eq_true rfl) (Nat.le_of_ble_eq_true rfl) ?_
  refine g_aload_n hG (dn_X3_init 2 (4, .aload_n 0, 1) rfl rfl) (pc' := 5) rfl rfl 0 rfl ?_
  refine g_bipush hG 12 (dn_X3_init 3 (5, .bipush 12, 2) rfl rfl) (pc' := 7) rfl (by decide) ?_
  refine k_newa hG 12 (12, .inl (fun _ => 0)) 0 (dn_X3_init 4 (7, .newarray .int, 2) rfl rfl) (pc' := 9) rfl wd_303 rfl (fun _ z => by cases z) rfl (fun _ => rfl) (by decide) (by decide +kernel) (Nat.le_of_ble_eq_true rfl) (Nat.le_of_ble_eq_true rfl) (Nat.le_of_ble_eq_true rfl) (fun q1 => ?_)
  refine g_putF hG (j := 0) [.ref q1, .null, .null, .null, .int 0, .int 0, .int 0, .int 0, .int 0, .int 0, .int 0, .int 0, .int 0, .int 0, .int 0, .int 0, .int 0] hmn (dn_X3_init 5 (9, .putfield 9, 3) rfl rfl) (pc' := 12) rfl clf_3 (by decide) rfl rfl rfl rfl rfl wd_312 ?_
  refine g_aload_n hG (dn_X3_init 6 (12, .aload_n 0, 1) rfl rfl) (pc' := 13) rfl rfl 0 rfl ?_
  refine g_bipush hG 12 (dn_X3_init 7 (13, .bipush 12, 2) rfl rfl) (pc' := 15) rfl (by decide) ?_
  refine k_newa hG 12 (12, .inl (fun _ => 0)) 0 (dn_X3_init 8 (15, .newarray .int, 2) rfl rfl) (pc' := 17) rfl wd_303 rfl (fun _ z => by cases z) rfl (fun _ => rfl) (by decide) (by decide +kernel) (Nat.le_of_ble_eq_true rfl) (Nat.le_of_ble_eq_true rfl) (Nat.le_of_ble_eq_true rfl) (fun q2 => ?_)
  refine g_putF hG (j := 1) [.ref q1, .ref q2, .null, .null, .int 0, .int 0, .int 0, .int 0, .int 0, .int 0, .int 0, .int 0, .int 0, .int 0, .int 0, .int 0, .int 0] hmn (dn_X3_init 9 (17, .putfield 15, 3) rfl rfl) (pc' := 20) rfl clf_3 (by decide) rfl rfl rfl rfl rfl wd_313 ?_
  refine g_aload_n hG (dn_X3_init 10 (20, .aload_n 0, 1) rfl rfl) (pc' := 21) rfl rfl 0 rfl ?_
  refine g_bipush hG 12 (dn_X3_init 11 (21, .bipush 12, 2) rfl rfl) (pc' := 23) rfl (by decide) ?_
  refine k_newa hG 12 (12, .inl (fun _ => 0)) 0 (dn_X3_init 12 (23, .newarray .int, 2) rfl rfl) (pc' := 25) rfl wd_303 rfl (fun _ z => by cases z) rfl (fun _ => rfl) (by decide) (by decide +kernel) (Nat.le_of_ble_eq_true rfl) (Nat.le_of_ble_eq_true rfl) (Nat.le_of_ble_eq_true rfl) (fun q3 => ?_)
  refine g_putF hG (j := 2) [.ref q1, .ref q2, .ref q3, .null, .int 0, .int 0, .int 0, .int 0, .int 0, .int 0, .int 0, .int 0, .int 0, .int 0, .int 0, .int 0, .int 0] hmn (dn_X3_init 13 (25, .putfield 18, 3) rfl rfl) (pc' := 28) rfl clf_3 (by decide) rfl rfl rfl rfl rfl wd_314 ?_
  refine g_aload_n hG (dn_X3_init 14 (28, .aload_n 0, 1) rfl rfl) (pc' := 29) rfl rfl 0 rfl ?_
  refine g_bipush hG 12 (dn_X3_init 15 (29, .bipush 12, 2) rfl rfl) (pc' := 31) rfl (by decide) ?_
  refine k_newa hG 12 (12, .inl (fun _ => 0)) 0 (dn_X3_init 16 (31, .newarray .int, 2) rfl rfl) (pc' := 33) rfl wd_303 rfl (fun _ z => by cases z) rfl (fun _ => rfl) (by decide) (by decide +kernel) (Nat.le_of_ble_eq_true rfl) (Nat.le_of_ble_eq_true rfl) (Nat.le_of_ble_eq_true rfl) (fun q4 => ?_)
  refine g_putF hG (j := 3) [.ref q1, .ref q2, .ref q3, .ref q4, .int 0, .int 0, .int 0, .int 0, .int 0, .int 0, .int 0, .int 0, .int 0, .int 0, .int 0, .int 0, .int 0] hmn (dn_X3_init 17 (33, .putfield 21, 3) rfl rfl) (pc' := 36) rfl clf_3 (by decide) rfl rfl rfl rfl rfl wd_315 ?_
  refine g_aload_n hG (dn_X3_init 18 (36, .aload_n 0, 1) rfl rfl) (pc' := 37) rfl rfl 0 rfl ?_
  refine g_iconst hG 0 (dn_X3_init 19 (37, .iconst 0, 1) rfl rfl) (pc' := 38) rfl (by decide) ?_
  refine g_put hG (j := 4) [.ref q1, .ref q2, .ref q3, .ref q4, .int 0, .int 0, .int 0, .int 0, .int 0, .int 0, .int 0, .int 0, .int 0, .int 0, .int 0, .int 0, .int 0] (dn_X3_init 20 (38, .putfield 24, 3) rfl rfl) (pc' := 41) rfl clf_3 (by decide) rfl rfl rfl rfl rfl wd_316 ?_
  refine g_aload_n hG (dn_X3_init 21 (41, .aload_n 0, 1) rfl rfl) (pc' := 42) rfl rfl 0 rfl ?_
  refine g_iconst hG 0 (dn_X3_init 22 (42, .iconst 0, 1) rfl rfl) (pc' := 43) rfl (by decide) ?_
  refine g_put hG (j := 5) [.ref q1, .ref q2, .ref q3, .ref q4, .int 0, .int 0, .int 0, .int 0, .int 0, .int 0, .int 0, .int 0, .int 0, .int 0, .int 0, .int 0, .int 0] (dn_X3_init 23 (43, .putfield 28, 3) rfl rfl) (pc' := 46) rfl clf_3 (by decide) rfl rfl rfl rfl rfl wd_317 ?_
  refine g_aload_n hG (dn_X3_init 24 (46, .aload_n 0, 1) rfl rfl) (pc' := 47) rfl rfl 0 rfl ?_
  refine g_iconst hG 0 (dn_X3_init 25 (47, .iconst 0, 1) rfl rfl) (pc' := 48) rfl (by decide) ?_
  refine g_put hG (j := 6) [.ref q1, .ref q2, .ref q3, .ref q4, .int 0, .int 0, .int 0, .int 0, .int 0, .int 0, .int 0, .int 0, .int 0, .int 0, .int 0, .int 0, .int 0] (dn_X3_init 26 (48, .putfield 31, 3) rfl rfl) (pc' := 51) rfl clf_3 (by decide) rfl rfl rfl rfl rfl wd_318 ?_
  refine g_aload_n hG (dn_X3_init 27 (51, .aload_n 0, 1) rfl rfl) (pc' := 52) rfl rfl 0 rfl ?_
  refine g_iconst hG 0 (dn_X3_init 28 (52, .iconst 0, 1) rfl rfl) (pc' := 53) rfl (by decide) ?_
  refine g_put hG (j := 7) [.ref q1, .ref q2, .ref q3, .ref q4, .int 0, .int 0, .int 0, .int 0, .int 0, .int 0, .int 0, .int 0, .int 0, .int 0, .int 0, .int 0, .int 0] (dn_X3_init 29 (53, .putfield 34, 3) rfl rfl) (pc' := 56) rfl clf_3 (by decide) rfl rfl rfl rfl rfl wd_319 ?_
  refine g_aload_n hG (dn_X3_init 30 (56, .aload_n 0, 1) rfl rfl) (pc' := 57) rfl rfl 0 rfl ?_
  refine g_iconst hG 0 (dn_X3_init 31 (57, .iconst 0, 1) rfl rfl) (pc' := 58) rfl (by decide) ?_
  refine g_put hG (j := 8) [.ref q1, .ref q2, .ref q3, .ref q4, .int 0, .int 0, .int 0, .int 0, .int 0, .int 0, .int 0, .int 0, .int 0, .int 0, .int 0, .int 0, .int 0] (dn_X3_init 32 (58, .putfield 37, 3) rfl rfl) (pc' := 61) rfl clf_3 (by decide) rfl rfl rfl rfl rfl wd_320 ?_
  refine g_aload_n hG (dn_X3_init 33 (61, .aload_n 0, 1) rfl rfl) (pc' := 62) rfl rfl 0 rfl ?_
  refine g_iconst hG 0 (dn_X3_init 34 (62, .iconst 0, 1) rfl rfl) (pc' := 63) rfl (by decide) ?_
  refine g_put hG (j := 9) [.ref q1, .ref q2, .ref q3, .ref q4, .int 0, .int 0, .int 0, .int 0, .int 0, .int 0, .int 0, .int 0, .int 0, .int 0, .int 0, .int 0, .int 0] (dn_X3_init 35 (63, .putfield 40, 3) rfl rfl) (pc' := 66) rfl clf_3 (by decide) rfl rfl rfl rfl rfl wd_321 ?_
  refine g_aload_n hG (dn_X3_init 36 (66, .aload_n 0, 1) rfl rfl) (pc' := 67) rfl rfl 0 rfl ?_
  refine g_iconst hG 0 (dn_X3_init 37 (67, .iconst 0, 1) rfl rfl) (pc' := 68) rfl (by decide) ?_
  refine g_put hG (j := 10) [.ref q1, .ref q2, .ref q3, .ref q4, .int 0, .int 0, .int 0, .int 0, .int 0, .int 0, .int 0, .int 0, .int 0, .int 0, .int 0, .int 0, .int 0] (dn_X3_init 38 (68, .putfield 43, 3) rfl rfl) (pc' := 71) rfl clf_3 (by decide) rfl rfl rfl rfl rfl wd_322 ?_
  refine g_aload_n hG (dn_X3_init 39 (71, .aload_n 0, 1) rfl rfl) (pc' := 72) rfl rfl 0 rfl ?_
  refine g_iconst hG 0 (dn_X3_init 40 (72, .iconst 0, 1) rfl rfl) (pc' := 73) rfl (by decide) ?_
  refine g_put hG (j := 11) [.ref q1, .ref q2, .ref q3, .ref q4, .int 0, .int 0, .int 0, .int 0, .int 0, .int 0, .int 0, .int 0, .int 0, .int 0, .int 0, .int 0, .int 0] (dn_X3_init 41 (73, .putfield 46, 3) rfl rfl) (pc' := 76) rfl clf_3 (by decide) rfl rfl rfl rfl rfl wd_323 ?_
  refine g_aload_n hG (dn_X3_init 42 (76, .aload_n 0, 1) rfl rfl) (pc' := 77) rfl rfl 0 rfl ?_
  refine g_iconst hG 0 (dn_X3_init 43 (77, .iconst 0, 1) rfl rfl) (pc' := 78) rfl (by decide) ?_
  refine g_put hG (j := 12) [.ref q1, .ref q2, .ref q3, .ref q4, .int 0, .int 0, .int 0, .int 0, .int 0, .int 0, .int 0, .int 0, .int 0, .int 0, .int 0, .int 0, .int 0] (dn_X3_init 44 (78, .putfield 49, 3) rfl rfl) (pc' := 81) rfl clf_3 (by decide) rfl rfl rfl rfl rfl wd_324 ?_
  refine g_aload_n hG (dn_X3_init 45 (81, .aload_n 0, 1) rfl rfl) (pc' := 82) rfl rfl 0 rfl ?_
  refine g_iconst hG (-1) (dn_X3_init 46 (82, .iconst (-1), 1) rfl rfl) (pc' := 83) rfl (by decide) ?_
  refine g_put hG (j := 13) [.ref q1, .ref q2, .ref q3, .ref q4, .int 0, .int 0, .int 0, .int 0, .int 0, .int 0, .int 0, .int 0, .int 0, .int (-1), .int 0, .int 0, .int 0] (dn_X3_init 47 (83, .putfield 52, 3) rfl rfl) (pc' := 86) rfl clf_3 (by decide) rfl rfl rfl rfl rfl wd_327 ?_
  refine g_aload_n hG (dn_X3_init 48 (86, .aload_n 0, 1) rfl rfl) (pc' := 87) rfl rfl 0 rfl ?_
  refine g_iconst hG 0 (dn_X3_init 49 (87, .iconst 0, 1) rfl rfl) (pc' := 88) rfl (by decide) ?_
  refine g_put hG (j := 14) [.ref q1, .ref q2, .ref q3, .ref q4, .int 0, .int 0, .int 0, .int 0, .int 0, .int 0, .int 0, .int 0, .int 0, .int (-1), .int 0, .int 0, .int 0] (dn_X3_init 50 (88, .putfield 55, 3) rfl rfl) (pc' := 91) rfl clf_3 (by decide) rfl rfl rfl rfl rfl wd_329 ?_
  refine g_aload_n hG (dn_X3_init 51 (91, .aload_n 0, 1) rfl rfl) (pc' := 92) rfl rfl 0 rfl ?_
  refine g_iconst hG 0 (dn_X3_init 52 (92, .iconst 0, 1) rfl rfl) (pc' := 93) rfl (by decide) ?_
  refine g_put hG (j := 15) [.ref q1, .ref q2, .ref q3, .ref q4, .int 0, .int 0, .int 0, .int 0, .int 0, .int 0, .int 0, .int 0, .int 0, .int (-1), .int 0, .int 0, .int 0] (dn_X3_init 53 (93, .putfield 58, 3) rfl rfl) (pc' := 96) rfl clf_3 (by decide) rfl rfl rfl rfl rfl wd_331 ?_
  refine g_aload_n hG (dn_X3_init 54 (96, .aload_n 0, 1) rfl rfl) (pc' := 97) rfl rfl 0 rfl ?_
  refine g_iconst hG 0 (dn_X3_init 55 (97, .iconst 0, 1) rfl rfl) (pc' := 98) rfl (by decide) ?_
  refine g_put hG (j := 16) [.ref q1, .ref q2, .ref q3, .ref q4, .int 0, .int 0, .int 0, .int 0, .int 0, .int 0, .int 0, .int 0, .int 0, .int (-1), .int 0, .int 0, .int 0] (dn_X3_init 56 (98, .putfield 61, 3) rfl rfl) (pc' := 101) rfl clf_3 (by decide) rfl rfl rfl rfl rfl wd_333 ?_
  exact g_vret hG (dn_X3_init 57 (101, .return_, 1) rfl rfl) rfl rfl hrt hlk (fun k g => bif Nat.beq k 3 then h0 else bif Nat.beq k 22 then q1 else bif Nat.beq k 23 then q2 else bif Nat.beq k 24 then q3 else bif Nat.beq k 25 then q4 else ad0 k g) rfl trivial rfl
abbrev y_X5_init : MethodName := ⟨"GivenUp$Tray", "<init>", "()V"⟩
def pn_X5_init : Nat → Nat := fun i => [0, 1, 4, 5, 7, 9, 12, 13, 14, 17, 18, 19, 22, 23, 24, 27].getD i 0
def dm_X5_init : List (Nat × Instr × Nat) := [(0, .aload_n 0, 1), (1, .invokespecial 3, 3), (4, .aload_n 0, 1), (5, .bipush 60, 2), (7, .newarray .long, 2), (9, .putfield 9, 3), (12, .aload_n 0, 1), (13, .iconst 0, 1), (14, .putfield 15, 3), (17, .aload_n 0, 1), (18, .iconst 0, 1), (19, .putfield 19, 3), (22, .aload_n 0, 1), (23, .iconst 0, 1), (24, .putfield 23, 3), (27, .return_, 1)]
theorem dn_X5_init : DEC prog_7_method_1_code pn_X5_init dm_X5_init := DEC_of (by decide +kernel)
abbrev rm_X5_init : Room := { frames := 1, cells := 1, slots := 60, locals := 12 }
set_option maxHeartbeats 4000000 in
set_option maxRecDepth 20000 in
theorem cn_X5_init (l : Launch) (ad0 : Nat → Nat → Nat) : CNI l ad0 y_X5_init prog_7_method_1_code 1 rm_X5_init 1 60 (alen 5) [.null, .int 0, .int 0, .int 0] [] 5 CX5 m0 (fun _ => True) := by
  refine CNI_of (own := "GivenUp$Tray") (by decide) rfl rfl (Nat.le_of_ble_eq_true rfl) (fun p e s m args below meth c D dA h0 hG hmn hrt hlk => ?_)
  refine g_aload_n hG (dn_X5_init 0 (0, .aload_n 0, 1) rfl rfl) (pc' := 1) rfl rfl 0 rfl ?_
  refine g_obj hG (dn_X5_init 1 (1, .invokespecial 3, 3) rfl rfl) (pc' := 4) rfl wd_692 wd_170 wd_171 (Nat.le_of_ble_eq_true rfl) (Nat.le_of_ble_eq_true rfl) ?_
  refine g_aload_n hG (dn_X5_init 2 (4, .aload_n 0, 1) rfl rfl) (pc' := 5) rfl rfl 0 rfl ?_
  refine g_bipush hG 60 (dn_X5_init 3 (5, .bipush 60, 2) rfl rfl) (pc' := 7) rfl (by decide) ?_
  refine k_newa hG 60 (60, .inr (.inl (fun _ => 0))) 1 (dn_X5_init 4 (7, .newarray .long, 2) rfl rfl) (pc' := 9) rfl wd_270 rfl (fun _ z => by cases z) rfl (fun _ => rfl) (by decide) (by decide +kernel) (Nat.le_of_ble_eq_true rfl) (Nat.le_of_ble_eq_true rfl) (Nat.le_of_ble_eq_true rfl) (fun q1 => ?_)
  refine g_putF hG (j := 0) [.ref q1, .int 0, .int 0, .int 0] hmn (dn_X5_init 5 (9, .putfield 9, 3) rfl rfl) (pc' := 12) rfl clf_5 (by decide) rfl rfl rfl rfl rfl wd_693 ?_
  refine g_aload_n hG (dn_X5_init 6 (12, .aload_n 0, 1) rfl rfl) (pc' := 13) rfl rfl 0 rfl ?_
  refine g_iconst hG 0 (dn_X5_init 7 (13, .iconst 0, 1) rfl rfl) (pc' := 14) rfl (by decide) ?_
  refine g_put hG (j := 1) [.ref q1, .int 0, .int 0, .int 0] (dn_X5_init 8 (14, .putfield 15, 3) rfl rfl) (pc' := 17) rfl clf_5 (by decide) rfl rfl rfl rfl rfl wd_696 ?_
  refine g_aload_n hG (dn_X5_init 9 (17, .aload_n 0, 1) rfl rfl) (pc' := 18) rfl rfl 0 rfl ?_
  refine g_iconst hG 0 (dn_X5_init 10 (18, .iconst 0, 1) rfl rfl) (pc' := 19) rfl (by decide) ?_
  refine g_put hG (j := 2) [.ref q1, .int 0, .int 0, .int 0] (dn_X5_init 11 (19, .putfield 19, 3) rfl rfl) (pc' := 22) rfl clf_5 (by decide) rfl rfl rfl rfl rfl wd_698 ?_
  refine g_aload_n hG (dn_X5_init 12 (22, .aload_n 0, 1) rfl rfl) (pc' := 23) rfl rfl 0 rfl ?_
  refine g_iconst hG 0 (dn_X5_init 13 (23, .iconst 0, 1) rfl rfl) (pc' := 24) rfl (by decide) ?_
  refine g_put hG (j := 3) [.ref q1, .int 0, .int 0, .int 0] (dn_X5_init 14 (24, .putfield 23, 3) rfl rfl) (pc' := 27) rfl clf_5 (by decide) rfl rfl rfl rfl rfl wd_700 ?_
  exact g_vret hG (dn_X5_init 15 (27, .return_, 1) rfl rfl) rfl rfl hrt hlk (fun k g => bif Nat.beq k 5 then h0 else bif Nat.beq k 28 then q1 else ad0 k g) rfl trivial rfl
abbrev y_X7_init : MethodName := ⟨"GivenUp$ValleyReader", "<init>", "(LGivenUp$Text;)V"⟩
def pn_X7_init : Nat → Nat := fun i => [0, 1, 4, 5, 6, 9, 10, 11, 14, 15, 16, 19].getD i 0
def dm_X7_init : List (Nat × Instr × Nat) := [(0, .aload_n 0, 1), (1, .invokespecial 3, 3), (4, .aload_n 0, 1), (5, .iconst 0, 1), (6, .putfield 9, 3), (9, .aload_n 0, 1), (10, .iconst 0, 1), (11, .putfield 15, 3), (14, .aload_n 0, 1), (15, .aload_n 1, 1), (16, .putfield 18, 3), (19, .return_, 1)]
theorem dn_X7_init : DEC prog_9_method_1_code pn_X7_init dm_X7_init := DEC_of (by decide +kernel)
abbrev rm_X7_init : Room := { frames := 1, cells := 0, slots := 0, locals := 12 }
set_option maxHeartbeats 4000000 in
set_option maxRecDepth 20000 in
theorem cn_X7_init (l : Launch) (ad0 : Nat → Nat → Nat) (qa : Nat) : CNI l ad0 y_X7_init prog_9_method_1_code 2 rm_X7_init 0 0 (alen 7) [.null, .int 0, .int 0] [.ref qa] 7 CX7 m0 (fun ad => qa = ad 4 0) := by
  refine CNI_of (own := "GivenUp$ValleyReader") (by decide) rfl rfl (Nat.le_of_ble_eq_true rfl) (fun p e s m args below meth c D dA h0 hG hmn hrt hlk => ?_)
  refine g_aload_n hG (dn_X7_init 0 (0, .aload_n 0, 1) rfl rfl) (pc' := 1) rfl rfl 0 rfl ?_
  refine g_obj hG (dn_X7_init 1 (1, .invokespecial 3, 3) rfl rfl) (pc' := 4) rfl wd_276 wd_170 wd_171 (Nat.le_of_ble_eq_true rfl) (Nat.le_of_ble_eq_true rfl) ?_
  refine g_aload_n hG (dn_X7_init 2 (4, .aload_n 0, 1) rfl rfl) (pc' := 5) rfl rfl 0 rfl ?_
  refine g_iconst hG 0 (dn_X7_init 3 (5, .iconst 0, 1) rfl rfl) (pc' := 6) rfl (by decide) ?_
  refine g_put hG (j := 1) [.null, .int 0, .int 0] (dn_X7_init 4 (6, .putfield 9, 3) rfl rfl) (pc' := 9) rfl clf_7 (by decide) rfl rfl rfl rfl rfl wd_278 ?_
  refine g_aload_n hG (dn_X7_init 5 (9, .aload_n 0, 1) rfl rfl) (pc' := 10) rfl rfl 0 rfl ?_
  refine g_iconst hG 0 (dn_X7_init 6 (10, .iconst 0, 1) rfl rfl) (pc' := 11) rfl (by decide) ?_
  refine g_put hG (j := 2) [.null, .int 0, .int 0] (dn_X7_init 7 (11, .putfield 15, 3) rfl rfl) (pc' := 14) rfl clf_7 (by decide) rfl rfl rfl rfl rfl wd_279 ?_
  refine g_aload_n hG (dn_X7_init 8 (14, .aload_n 0, 1) rfl rfl) (pc' := 15) rfl rfl 0 rfl ?_
  refine g_aload_n hG (dn_X7_init 9 (15, .aload_n 1, 1) rfl rfl) (pc' := 16) rfl rfl 1 rfl ?_
  refine g_putF hG (j := 0) [.ref qa, .int 0, .int 0] hmn (dn_X7_init 10 (16, .putfield 18, 3) rfl rfl) (pc' := 19) rfl clf_7 (by decide) rfl rfl rfl rfl rfl wd_277 ?_
  exact g_vret hG (dn_X7_init 11 (19, .return_, 1) rfl rfl) rfl rfl hrt hlk (fun k g => bif Nat.beq k 7 then h0 else bif Nat.beq k 4 then qa else ad0 k g) rfl rfl rfl
abbrev y_X8_init : MethodName := ⟨"GivenUp$Village", "<init>", "(LGivenUp$Plan;)V"⟩
def pn_X8_init : Nat → Nat := fun i => [0, 1, 4, 5, 7, 9, 12, 13, 14, 16, 19, 20, 21, 23, 26, 27, 28, 31, 32, 33, 36, 37, 38, 41].getD i 0
def dm_X8_init : List (Nat × Instr × Nat) := [(0, .aload_n 0, 1), (1, .invokespecial 3, 3), (4, .aload_n 0, 1), (5, .bipush 16, 2), (7, .newarray .int, 2), (9, .putfield 9, 3), (12, .aload_n 0, 1), (13, .iconst 4, 1), (14, .newarray .int, 2), (16, .putfield 15, 3), (19, .aload_n 0, 1), (20, .iconst 4, 1), (21, .newarray .int, 2), (23, .putfield 18, 3), (26, .aload_n 0, 1), (27, .iconst 0, 1), (28, .putfield 21, 3), (31, .aload_n 0, 1), (32, .iconst 0, 1), (33, .putfield 25, 3), (36, .aload_n 0, 1), (37, .aload_n 1, 1), (38, .putfield 28, 3), (41, .return_, 1)]
theorem dn_X8_init : DEC prog_10_method_1_code pn_X8_init dm_X8_init := DEC_of (by decide +kernel)
abbrev rm_X8_init : Room := { frames := 1, cells := 3, slots := 24, locals := 12 }
set_option maxHeartbeats 4000000 in
set_option maxRecDepth 20000 in
theorem cn_X8_init (l : Launch) (ad0 : Nat → Nat → Nat) (qa : Nat) : CNI l ad0 y_X8_init prog_10_method_1_code 2 rm_X8_init 3 24 (alen 8) [.null, .null, .null, .null, .int 0, .int 0] [.ref qa] 8 CX8 m0 (fun ad => qa = ad 3 0) := by
  refine CNI_of (own := "GivenUp$Village") (by decide) rfl rfl (Nat.le_of_ble_eq_true rfl) (fun p e s m args below meth c D dA h0 hG hmn hrt hlk => ?_)
  refine g_aload_n hG (dn_X8_init 0 (0, .aload_n 0, 1) rfl rfl) (pc' := 1) rfl rfl 0 rfl ?_
  refine g_obj hG (dn_X8_init 1 (1, .invokespecial 3, 3) rfl rfl) (pc' := 4) rfl wd_375 wd_170 wd_171 (Nat.le_of_ble_eq_true rfl) (Nat.le_of_ble_eq_true rfl) ?_
  refine g_aload_n hG (dn_X8_init 2 (4, .aload_n 0, 1) rfl rfl) (pc' := 5) rfl rfl 0 rfl ?_
  refine g_bipush hG 16 (dn_X8_init 3 (5, .bipush 16, 2) rfl rfl) (pc' := 7) rfl (by decide) ?_
  refine k_newa hG 16 (16, .inl (fun _ => 0)) 0 (dn_X8_init 4 (7, .newarray .int, 2) rfl rfl) (pc' := 9) rfl wd_303 rfl (fun _ z => by cases z) rfl (fun _ => rfl) (by decide) (by decide +kernel) (Nat.le_of_ble_eq_true rfl) (Nat.le_of_ble_eq_true rfl) (Nat.le_of_ble_eq_true rfl) (fun q1 => ?_)
  refine g_putF hG (j := 1) [.null, .ref q1, .null, .null, .int 0, .int 0] hmn (dn_X8_init 5 (9, .putfield 9, 3) rfl rfl) (pc' := 12) rfl clf_8 (by decide) rfl rfl rfl rfl rfl wd_377 ?_
  refine g_aload_n hG (dn_X8_init 6 (12, .aload_n 0, 1) rfl rfl) (pc' := 13) rfl rfl 0 rfl ?_
  refine g_iconst hG 4 (dn_X8_init 7 (13, .iconst 4, 1) rfl rfl) (pc' := 14) rfl (by decide) ?_
  refine k_newa hG 4 (4, .inl (fun _ => 0)) 0 (dn_X8_init 8 (14, .newarray .int, 2) rfl rfl) (pc' := 16) rfl wd_303 rfl (fun _ z => by cases z) rfl (fun _ => rfl) (by decide) (by decide +kernel) (Nat.le_of_ble_eq_true rfl) (Nat.le_of_ble_eq_true rfl) (Nat.le_of_ble_eq_true rfl) (fun q2 => ?_)
  refine g_putF hG (j := 2) [.null, .ref q1, .ref q2, .null, .int 0, .int 0] hmn (dn_X8_init 9 (16, .putfield 15, 3) rfl rfl) (pc' := 19) rfl clf_8 (by decide) rfl rfl rfl rfl rfl wd_378 ?_
  refine g_aload_n hG (dn_X8_init 10 (19, .aload_n 0, 1) rfl rfl) (pc' := 20) rfl rfl 0 rfl ?_
  refine g_iconst hG 4 (dn_X8_init 11 (20, .iconst 4, 1) rfl rfl) (pc' := 21) rfl (by decide) ?_
  refine k_newa hG 4 (4, .inl (fun _ => 0)) 0 (dn_X8_init 12 (21, .newarray .int, 2) rfl rfl) (pc' := 23) rfl wd_303 rfl (fun _ z => by cases z) rfl (fun _ => rfl) (by decide) (by decide +kernel) (Nat.le_of_ble_eq_true rfl) (Nat.le_of_ble_eq_true rfl) (Nat.le_of_ble_eq_true rfl) (fun q3 => ?_)
  refine g_putF hG (j := 3) [.null, .ref q1, .ref q2, .ref q3, .int 0, .int 0] hmn (dn_X8_init 13 (23, .putfield 18, 3) rfl rfl) (pc' := 26) rfl clf_8 (by decide) rfl rfl rfl rfl rfl wd_379 ?_
  refine g_aload_n hG (dn_X8_init 14 (26, .aload_n 0, 1) rfl rfl) (pc' := 27) rfl rfl 0 rfl ?_
  refine g_iconst hG 0 (dn_X8_init 15 (27, .iconst 0, 1) rfl rfl) (pc' := 28) rfl (by decide) ?_
  refine g_put hG (j := 4) [.null, .ref q1, .ref q2, .ref q3, .int 0, .int 0] (dn_X8_init 16 (28, .putfield 21, 3) rfl rfl) (pc' := 31) rfl clf_8 (by decide) rfl rfl rfl rfl rfl wd_381 ?_
  refine g_aload_n hG (dn_X8_init 17 (31, .aload_n 0, 1) rfl rfl) (pc' := 32) rfl rfl 0 rfl ?_
  refine g_iconst hG 0 (dn_X8_init 18 (32, .iconst 0, 1) rfl rfl) (pc' := 33) rfl (by decide) ?_
  refine g_put hG (j := 5) [.null, .ref q1, .ref q2, .ref q3, .int 0, .int 0] (dn_X8_init 19 (33, .putfield 25, 3) rfl rfl) (pc' := 36) rfl clf_8 (by decide) rfl rfl rfl rfl rfl wd_383 ?_
  refine g_aload_n hG (dn_X8_init 20 (36, .aload_n 0, 1) rfl rfl) (pc' := 37) rfl rfl 0 rfl ?_
  refine g_aload_n hG (dn_X8_init 21 (37, .aload_n 1, 1) rfl rfl) (pc' := 38) rfl rfl 1 rfl ?_
  refine g_putF hG (j := 0) [.ref qa, .ref q1, .ref q2, .ref q3, .int 0, .int 0] hmn (dn_X8_init 22 (38, .putfield 28, 3) rfl rfl) (pc' := 41) rfl clf_8 (by decide) rfl rfl rfl rfl rfl wd_376 ?_
  exact g_vret hG (dn_X8_init 23 (41, .return_, 1) rfl rfl) rfl rfl hrt hlk (fun k g => bif Nat.beq k 8 then h0 else bif Nat.beq k 40 then q1 else bif Nat.beq k 41 then q2 else bif Nat.beq k 42 then q3 else bif Nat.beq k 3 then qa else ad0 k g) rfl rfl rfl
abbrev y_X9_init : MethodName := ⟨"GivenUp$Years", "<init>", "()V"⟩
def pn_X9_init : Nat → Nat := fun i => [0, 1, 4, 5, 7, 9, 12, 13, 15, 17, 20, 21, 23, 25, 28, 29, 31, 33, 36, 37, 39, 41, 44, 45, 47, 49, 52, 53, 54, 57, 58, 59, 62, 63, 64, 67].getD i 0
def dm_X9_init : List (Nat × Instr × Nat) := [(0, .aload_n 0, 1), (1, .invokespecial 3, 3), (4, .aload_n 0, 1), (5, .bipush 60, 2), (7, .newarray .int, 2), (9, .putfield 9, 3), (12, .aload_n 0, 1), (13, .bipush 60, 2), (15, .newarray .int, 2), (17, .putfield 15, 3), (20, .aload_n 0, 1), (21, .bipush 60, 2), (23, .newarray .int, 2), (25, .putfield 18, 3), (28, .aload_n 0, 1), (29, .bipush 60, 2), (31, .newarray .int, 2), (33, .putfield 21, 3), (36, .aload_n 0, 1), (37, .bipush 60, 2), (39, .newarray .int, 2), (41, .putfield 24, 3), (44, .aload_n 0, 1), (45, .bipush 60, 2), (47, .newarray .int, 2), (49, .putfield 27, 3), (52, .aload_n 0, 1), (53, .iconst 0, 1), (54, .putfield 30, 3), (57, .aload_n 0, 1), (58, .iconst 0, 1), (59, .putfield 34, 3), (62, .aload_n 0, 1), (63, .iconst 0, 1), (64, .putfield 38, 3), (67, .return_, 1)]
theorem dn_X9_init : DEC prog_11_method_1_code pn_X9_init dm_X9_init := DEC_of (by decide +kernel)
abbrev rm_X9_init : Room := { frames := 1, cells := 6, slots := 360, locals := 12 }
set_option maxHeartbeats 4000000 in
set_option maxRecDepth 20000 in
theorem cn_X9_init (l : Launch) (ad0 : Nat → Nat → Nat) : CNI l ad0 y_X9_init prog_11_method_1_code 1 rm_X9_init 6 360 (alen 9) [.null, .null, .null, .null, .null, .null, .int 0, .int 0, .int 0] [] 9 CX9 m0 (fun _ => True) := by
  refine CNI_of (own := "GivenUp$Years") (by decide) rfl rfl (Nat.le_of_ble_eq_true rfl) (fun p e s m args below meth c D dA h0 hG hmn hrt hlk => ?_)
  refine g_aload_n hG (dn_X9_init 0 (0, .aload_n 0, 1) rfl rfl) (pc' := 1) rfl rfl 0 rfl ?_
  refine g_obj hG (dn_X9_init 1 (1, .invokespecial 3, 3) rfl rfl) (pc' := 4) rfl wd_509 wd_170 wd_171 (Nat.le_of_ble_eq_true rfl) (Nat.le_of_ble_eq_true rfl) ?_
  refine g_aload_n hG (dn_X9_init 2 (4, .aload_n 0, 1) rfl rfl) (pc' := 5) rfl rfl 0 rfl ?_
  refine g_bipush hG 60 (dn_X9_init 3 (5, .bipush 60, 2) rfl rfl) (pc' := 7) rfl (by decide) ?_
  refine k_newa hG 60 (60, .inl (fun _ => 0)) 0 (dn_X9_init 4 (7, .newarray .int, 2) rfl rfl) (pc' := 9) rfl wd_303 rfl (fun _ z => by cases z) rfl (fun _ => rfl) (by decide) (by decide +kernel) (Nat.le_of_ble_eq_true rfl) (Nat.le_of_ble_eq_true rfl) (Nat.le_of_ble_eq_true rfl) (fun q1 => ?_)
  refine g_putF hG (j := 0) [.ref q1, .null, .null, .null, .null, .null, .int 0, .int 0, .int 0] hmn (dn_X9_init 5 (9, .putfield 9, 3) rfl rfl) (pc' := 12) rfl clf_9 (by decide) rfl rfl rfl rfl rfl wd_510 ?_
  refine g_aload_n hG (dn_X9_init 6 (12, .aload_n 0, 1) rfl rfl) (pc' := 13) rfl rfl 0 rfl ?_
  refine g_bipush hG 60 (dn_X9_init 7 (13, .bipush 60, 2) rfl rfl) (pc' := 15) rfl (by decide) ?_
  refine k_newa hG 60 (60, .inl (fun _ => 0)) 0 (dn_X9_init 8 (15, .newarray .int, 2) rfl rfl) (pc' := 17) rfl wd_303 rfl (fun _ z => by cases z) rfl (fun _ => rfl) (by decide) (by decide +kernel) (Nat.le_of_ble_eq_true rfl) (Nat.le_of_ble_eq_true rfl) (Nat.le_of_ble_eq_true rfl) (fun q2 => ?_)
  refine g_putF hG (j := 1) [.ref q1, .ref q2, .null, .null, .null, .null, .int 0, .int 0, .int 0] hmn (dn_X9_init 9 (17, .putfield 15, 3) rfl rfl) (pc' := 20) rfl clf_9 (by decide) rfl rfl rfl rfl rfl wd_513 ?_
  refine g_aload_n hG (dn_X9_init 10 (20, .aload_n 0, 1) rfl rfl) (pc' := 21) rfl rfl 0 rfl ?_
  refine g_bipush hG 60 (dn_X9_init 11 (21, .bipush 60, 2) rfl rfl) (pc' := 23) rfl (by decide) ?_
  refine k_newa hG 60 (60, .inl (fun _ => 0)) 0 (dn_X9_init 12 (23, .newarray .int, 2) rfl rfl) (pc' := 25) rfl wd_303 rfl (fun _ z => by cases z) rfl (fun _ => rfl) (by decide) (by decide +kernel) (Nat.le_of_ble_eq_true rfl) (Nat.le_of_ble_eq_true rfl) (Nat.le_of_ble_eq_true rfl) (fun q3 => ?_)
  refine g_putF hG (j := 2) [.ref q1, .ref q2, .ref q3, .null, .null, .null, .int 0, .int 0, .int 0] hmn (dn_X9_init 13 (25, .putfield 18, 3) rfl rfl) (pc' := 28) rfl clf_9 (by decide) rfl rfl rfl rfl rfl wd_516 ?_
  refine g_aload_n hG (dn_X9_init 14 (28, .aload_n 0, 1) rfl rfl) (pc' := 29) rfl rfl 0 rfl ?_
  refine g_bipush hG 60 (dn_X9_init 15 (29, .bipush 60, 2) rfl rfl) (pc' := 31) rfl (by decide) ?_
  refine k_newa hG 60 (60, .inl (fun _ => 0)) 0 (dn_X9_init 16 (31, .newarray .int, 2) rfl rfl) (pc' := 33) rfl wd_303 rfl (fun _ z => by cases z) rfl (fun _ => rfl) (by decide) (by decide +kernel) (Nat.le_of_ble_eq_true rfl) (Nat.le_of_ble_eq_true rfl) (Nat.le_of_ble_eq_true rfl) (fun q4 => ?_)
  refine g_putF hG (j := 3) [.ref q1, .ref q2, .ref q3, .ref q4, .null, .null, .int 0, .int 0, .int 0] hmn (dn_X9_init 17 (33, .putfield 21, 3) rfl rfl) (pc' := 36) rfl clf_9 (by decide) rfl rfl rfl rfl rfl wd_519 ?_
  refine g_aload_n hG (dn_X9_init 18 (36, .aload_n 0, 1) rfl rfl) (pc' := 37) rfl rfl 0 rfl ?_
  refine g_bipush hG 60 (dn_X9_init 19 (37, .bipush 60, 2) rfl rfl) (pc' := 39) rfl (by decide) ?_
  refine k_newa hG 60 (60, .inl (fun _ => 0)) 0 (dn_X9_init 20 (39, .newarray .int, 2) rfl rfl) (pc' := 41) rfl wd_303 rfl (fun _ z => by cases z) rfl (fun _ => rfl) (by decide) (by decide +kernel) (Nat.le_of_ble_eq_true rfl) (Nat.le_of_ble_eq_true rfl) (Nat.le_of_ble_eq_true rfl) (fun q5 => ?_)
  refine g_putF hG (j := 4) [.ref q1, .ref q2, .ref q3, .ref q4, .ref q5, .null, .int 0, .int 0, .int 0] hmn (dn_X9_init 21 (41, .putfield 24, 3) rfl rfl) (pc' := 44) rfl clf_9 (by decide) rfl rfl rfl rfl rfl wd_522 ?_
  refine g_aload_n hG (dn_X9_init 22 (44, .aload_n 0, 1) rfl rfl) (pc' := 45) rfl rfl 0 rfl ?_
  refine g_bipush hG 60 (dn_X9_init 23 (45, .bipush 60, 2) rfl rfl) (pc' := 47) rfl (by decide) ?_
  refine k_newa hG 60 (60, .inl (fun _ => 0)) 0 (dn_X9_init 24 (47, .newarray .int, 2) rfl rfl) (pc' := 49) rfl wd_303 rfl (fun _ z => by cases z) rfl (fun _ => rfl) (by decide) (by decide +kernel) (Nat.le_of_ble_eq_true rfl) (Nat.le_of_ble_eq_true rfl) (Nat.le_of_ble_eq_true rfl) (fun q6 => ?_)
  refine g_putF hG (j := 5) [.ref q1, .ref q2, .ref q3, .ref q4, .ref q5, .ref q6, .int 0, .int 0, .int 0] hmn (dn_X9_init 25 (49, .putfield 27, 3) rfl rfl) (pc' := 52) rfl clf_9 (by decide) rfl rfl rfl rfl rfl wd_525 ?_
  refine g_aload_n hG (dn_X9_init 26 (52, .aload_n 0, 1) rfl rfl) (pc' := 53) rfl rfl 0 rfl ?_
  refine g_iconst hG 0 (dn_X9_init 27 (53, .iconst 0, 1) rfl rfl) (pc' := 54) rfl (by decide) ?_
  refine g_put hG (j := 6) [.ref q1, .ref q2, .ref q3, .ref q4, .ref q5, .ref q6, .int 0, .int 0, .int 0] (dn_X9_init 28 (54, .putfield 30, 3) rfl rfl) (pc' := 57) rfl clf_9 (by decide) rfl rfl rfl rfl rfl wd_528 ?_
  refine g_aload_n hG (dn_X9_init 29 (57, .aload_n 0, 1) rfl rfl) (pc' := 58) rfl rfl 0 rfl ?_
  refine g_iconst hG 0 (dn_X9_init 30 (58, .iconst 0, 1) rfl rfl) (pc' := 59) rfl (by decide) ?_
  refine g_put hG (j := 7) [.ref q1, .ref q2, .ref q3, .ref q4, .ref q5, .ref q6, .int 0, .int 0, .int 0] (dn_X9_init 31 (59, .putfield 34, 3) rfl rfl) (pc' := 62) rfl clf_9 (by decide) rfl rfl rfl rfl rfl wd_531 ?_
  refine g_aload_n hG (dn_X9_init 32 (62, .aload_n 0, 1) rfl rfl) (pc' := 63) rfl rfl 0 rfl ?_
  refine g_iconst hG 0 (dn_X9_init 33 (63, .iconst 0, 1) rfl rfl) (pc' := 64) rfl (by decide) ?_
  refine g_put hG (j := 8) [.ref q1, .ref q2, .ref q3, .ref q4, .ref q5, .ref q6, .int 0, .int 0, .int 0] (dn_X9_init 34 (64, .putfield 38, 3) rfl rfl) (pc' := 67) rfl clf_9 (by decide) rfl rfl rfl rfl rfl wd_534 ?_
  exact g_vret hG (dn_X9_init 35 (67, .return_, 1) rfl rfl) rfl rfl hrt hlk (fun k g => bif Nat.beq k 9 then h0 else bif Nat.beq k 43 then q1 else bif Nat.beq k 44 then q2 else bif Nat.beq k 45 then q3 else bif Nat.beq k 46 then q4 else bif Nat.beq k 47 then q5 else bif Nat.beq k 48 then q6 else ad0 k g) rfl trivial rfl
abbrev y_X10_init : MethodName := ⟨"GivenUp$YearsReader", "<init>", "(LGivenUp$Text;)V"⟩
def pn_X10_init : Nat → Nat := fun i => [0, 1, 4, 5, 6, 8, 11, 12, 13, 16, 17, 18, 21].getD i 0
def dm_X10_init : List (Nat × Instr × Nat) := [(0, .aload_n 0, 1), (1, .invokespecial 3, 3), (4, .aload_n 0, 1), (5, .iconst 3, 1), (6, .newarray .int, 2), (8, .putfield 9, 3), (11, .aload_n 0, 1), (12, .iconst 0, 1), (13, .putfield 15, 3), (16, .aload_n 0, 1), (17, .aload_n 1, 1), (18, .putfield 19, 3), (21, .return_, 1)]
theorem dn_X10_init : DEC prog_12_method_1_code pn_X10_init dm_X10_init := DEC_of (by decide +kernel)
abbrev rm_X10_init : Room := { frames := 1, cells := 1, slots := 3, locals := 12 }
set_option maxHeartbeats 4000000 in
set_option maxRecDepth 20000 in
theorem cn_X10_init (l : Launch) (ad0 : Nat → Nat → Nat) (qa : Nat) : CNI l ad0 y_X10_init prog_12_method_1_code 2 rm_X10_init 1 3 (alen 10) [.null, .null, .int 0] [.ref qa] 10 CX10 m0 (fun ad => qa = ad 4 0) := by
  refine CNI_of (own := "GivenUp$YearsReader") (by decide) rfl rfl (Nat.le_of_ble_eq_true rfl) (fun p e s m args below meth c D dA h0 hG hmn hrt hlk => ?_)
  refine g_aload_n hG (dn_X10_init 0 (0, .aload_n 0, 1) rfl rfl) (pc' := 1) rfl rfl 0 rfl ?_
  refine g_obj hG (dn_X10_init 1 (1, .invokespecial 3, 3) rfl rfl) (pc' := 4) rfl wd_292 wd_170 wd_171 (Nat.le_of_ble_eq_true rfl) (Nat.le_of_ble_eq_true rfl) ?_
  refine g_aload_n hG (dn_X10_init 2 (4, .aload_n 0, 1) rfl rfl) (pc' := 5) rfl rfl 0 rfl ?_
  refine g_iconst hG 3 (dn_X10_init 3 (5, .iconst 3, 1) rfl rfl) (pc' := 6) rfl (by decide) ?_
  refine k_newa hG 3 (3, .inl (fun _ => 0)) 0 (dn_X10_init 4 (6, .newarray .int, 2) rfl rfl) (pc' := 8) rfl wd_303 rfl (fun _ z => by cases z) rfl (fun _ => rfl) (by decide) (by decide +kernel) (Nat.le_of_ble_eq_true rfl) (Nat.le_of_ble_eq_true rfl) (Nat.le_of_ble_eq_true rfl) (fun q1 => ?_)
  refine g_putF hG (j := 1) [.null, .ref q1, .int 0] hmn (dn_X10_init 5 (8, .putfield 9, 3) rfl rfl) (pc' := 11) rfl clf_10 (by decide) rfl rfl rfl rfl rfl wd_294 ?_
  refine g_aload_n hG (dn_X10_init 6 (11, .aload_n 0, 1) rfl rfl) (pc' := 12) rfl rfl 0 rfl ?_
  refine g_iconst hG 0 (dn_X10_init 7 (12, .iconst 0, 1) rfl rfl) (pc' := 13) rfl (by decide) ?_
  refine g_put hG (j := 2) [.null, .ref q1, .int 0] (dn_X10_init 8 (13, .putfield 15, 3) rfl rfl) (pc' := 16) rfl clf_10 (by decide) rfl rfl rfl rfl rfl wd_295 ?_
  refine g_aload_n hG (dn_X10_init 9 (16, .aload_n 0, 1) rfl rfl) (pc' := 17) rfl rfl 0 rfl ?_
  refine g_aload_n hG (dn_X10_init 10 (17, .aload_n 1, 1) rfl rfl) (pc' := 18) rfl rfl 1 rfl ?_
  refine g_putF hG (j := 0) [.ref qa, .ref q1, .int 0] hmn (dn_X10_init 11 (18, .putfield 19, 3) rfl rfl) (pc' := 21) rfl clf_10 (by decide) rfl rfl rfl rfl rfl wd_293 ?_
  exact g_vret hG (dn_X10_init 12 (21, .return_, 1) rfl rfl) rfl rfl hrt hlk (fun k g => bif Nat.beq k 10 then h0 else bif Nat.beq k 49 then q1 else bif Nat.beq k 4 then qa else ad0 k g) rfl rfl rfl

end
