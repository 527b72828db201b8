/-! PART 9ZZM: constructors with a rest -/

noncomputable section
abbrev y_X4_init : MethodName := ⟨"GivenUp$Text", "<init>", "()V"⟩
def pn_X4_init : Nat → Nat := fun i => [0, 1, 4, 5, 8, 10, 13, 14, 16, 18, 21, 22, 23, 26, 27, 28, 31, 32, 33, 36, 37, 38, 41, 42, 44, 47, 48, 49, 52, 53, 54, 57, 58, 59, 62, 63, 64, 67, 68, 69, 70, 71, 72, 74, 77, 80, 81, 83, 86, 88, 89, 92, 93, 94, 96, 99, 102, 105, 106, 109, 110, 111, 114, 115, 116, 119, 120, 121, 123, 124, 125, 126, 127, 128, 129, 132, 135].getD i 0
def dm_X4_init : List (Nat × Instr × Nat) := [(0, .aload_n 0, 1), (1, .invokespecial 3, 3), (4, .aload_n 0, 1), (5, .sipush 900, 3), (8, .newarray .byte, 2), (10, .putfield 9, 3), (13, .aload_n 0, 1), (14, .bipush 30, 2), (16, .newarray .long, 2), (18, .putfield 15, 3), (21, .aload_n 0, 1), (22, .iconst 0, 1), (23, .putfield 19, 3), (26, .aload_n 0, 1), (27, .iconst 0, 1), (28, .putfield 23, 3), (31, .aload_n 0, 1), (32, .iconst 0, 1), (33, .putfield 26, 3), (36, .aload_n 0, 1), (37, .iconst 0, 1), (38, .putfield 29, 3), (41, .aload_n 0, 1), (42, .bipush 37, 2), (44, .putfield 32, 3), (47, .aload_n 0, 1), (48, .iconst 0, 1), (49, .putfield 35, 3), (52, .aload_n 0, 1), (53, .lconst 0, 1), (54, .putfield 38, 3), (57, .aload_n 0, 1), (58, .iconst 0, 1), (59, .putfield 42, 3), (62, .aload_n 0, 1), (63, .iconst 0, 1), (64, .putfield 45, 3), (67, .iconst 0, 1), (68, .istore_n 1, 1), (69, .iconst 0, 1), (70, .istore_n 2, 1), (71, .iload_n 2, 1), (72, .ldc 48, 2), (74, .invokevirtual 50, 3), (77, .if_icmp .ge 58, 3), (80, .iload_n 1, 1), (81, .bipush 30, 2), (83, .if_icmp .ge 52, 3), (86, .ldc 48, 2), (88, .iload_n 2, 1), (89, .invokevirtual 56, 3), (92, .istore_n 3, 1), (93, .iload_n 3, 1), (94, .bipush 32, 2), (96, .if_icmp .ne 9, 3), (99, .iinc 1 1, 3), (102, .goto 27, 3), (105, .aload_n 0, 1), (106, .getfield 15, 3), (109, .iload_n 1, 1), (110, .aload_n 0, 1), (111, .getfield 15, 3), (114, .iload_n 1, 1), (115, .laload, 1), (116, .ldc2_w 60, 3), (119, .lmul, 1), (120, .iload_n 3, 1), (121, .bipush 97, 2), (123, .isub, 1), (124, .iconst 1, 1), (125, .iadd, 1), (126, .i2l, 1), (127, .ladd, 1), (128, .lastore, 1), (129, .iinc 2 1, 3), (132, .goto (-61), 3), (135, .return_, 1)]
theorem dn_X4_init : DEC prog_6_method_1_code pn_X4_init dm_X4_init := DEC_of (by decide +kernel)
abbrev rm_X4_init : Room := { frames := 5, cells := 2, slots := 930, locals := 106 }
set_option maxHeartbeats 4000000 in
set_option maxRecDepth 20000 in
theorem cn_X4_init (l : Launch) (ad0 : Nat → Nat → Nat) : CNI l ad0 y_X4_init prog_6_method_1_code 4 rm_X4_init 2 930 (alen 4) [.null, .null, .int 0, .int 0, .int 0, .int 0, .int 0, .int 0, .long 0, .int 0, .int 0] [] 4 CX4 mT (fun _ => True) := by
  refine CNI_of (own := "GivenUp$Text") (by decide) rfl rfl (Nat.le_of_ble_eq_true rfl) (fun p e s m args below meth c D dA h0 hG hmn hrt hlk => ?_)
  refine g_aload_n hG (dn_X4_init 0 (0, .aload_n 0, 1) rfl rfl) (pc' := 1) rfl rfl 0 rfl ?_
  refine g_obj hG (dn_X4_init 1 (1, .invokespecial 3, 3) rfl rfl) (pc' := 4) rfl wd_179 wd_170 wd_171 (Nat.le_of_ble_eq_true rfl) (Nat.le_of_ble_eq_true rfl) ?_
  refine g_aload_n hG (dn_X4_init 2 (4, .aload_n 0, 1) rfl rfl) (pc' := 5) rfl rfl 0 rfl ?_
  refine g_sipush hG 900 (dn_X4_init 3 (5, .sipush 900, 3) rfl rfl) (pc' := 8) rfl (by decide) ?_
  refine k_newa hG 900 (900, .inl (fun _ => 0)) 2 (dn_X4_init 4 (8, .newarray .byte, 2) rfl rfl) (pc' := 10) rfl wd_269 rfl (fun _ z => by cases z) rfl (fun _ => rfl) (by decide) (by decide +kernel) (Nat.le_of_ble_eq_true rfl) (Nat.le_of_ble_eq_true rfl) (Nat.le_of_ble_eq_true rfl) (fun q1 => ?_)
  refine g_putF hG (j := 0) [.ref q1, .null, .int 0, .int 0, .int 0, .int 0, .int 0, .int 0, .long 0, .int 0, .int 0] hmn (dn_X4_init 5 (10, .putfield 9, 3) rfl rfl) (pc' := 13) rfl clf_4 (by decide) rfl rfl rfl rfl rfl wd_230 ?_
  refine g_aload_n hG (dn_X4_init 6 (13, .aload_n 0, 1) rfl rfl) (pc' := 14) rfl rfl 0 rfl ?_
  refine g_bipush hG 30 (dn_X4_init 7 (14, .bipush 30, 2) rfl rfl) (pc' := 16) rfl (by decide) ?_
  refine k_newa hG 30 (30, .inr (.inl (fun _ => 0))) 1 (dn_X4_init 8 (16, .newarray .long, 2) rfl rfl) (pc' := 18) rfl wd_270 rfl (fun _ z => by cases z) rfl (fun _ => rfl) (by decide) (by decide +kernel) (Nat.le_of_ble_eq_true rfl) (Nat.le_of_ble_eq_true rfl) (Nat.le_of_ble_eq_true rfl) (fun q2 => ?_)
  refine g_putF hG (j := 1) [.ref q1, .ref q2, .int 0, .int 0, .int 0, .int 0, .int 0, .int 0, .long 0, .int 0, .int 0] hmn (dn_X4_init 9 (18, .putfield 15, 3) rfl rfl) (pc' := 21) rfl clf_4 (by decide) rfl rfl rfl rfl rfl wd_231 ?_
  refine g_aload_n hG (dn_X4_init 10 (21, .aload_n 0, 1) rfl rfl) (pc' := 22) rfl rfl 0 rfl ?_
  refine g_iconst hG 0 (dn_X4_init 11 (22, .iconst 0, 1) rfl rfl) (pc' := 23) rfl (by decide) ?_
  refine g_put hG (j := 2) [.ref q1, .ref q2, .int 0, .int 0, .int 0, .int 0, .int 0, .int 0, .long 0, .int 0, .int 0] (dn_X4_init 12 (23, .putfield 19, 3) rfl rfl) (pc' := 26) rfl clf_4 (by decide) rfl rfl rfl rfl rfl wd_232 ?_
  refine g_aload_n hG (dn_X4_init 13 (26, .aload_n 0, 1) rfl rfl) (pc' := 27) rfl rfl 0 rfl ?_
  refine g_iconst hG 0 (dn_X4_init 14 (27, .iconst 0, 1) rfl rfl) (pc' := 28) rfl (by decide) ?_
  refine g_put hG (j := 3) [.ref q1, .ref q2, .int 0, .int 0, .int 0, .int 0, .int 0, .int 0, .long 0, .int 0, .int 0] (dn_X4_init 15 (28, .putfield 23, 3) rfl rfl) (pc' := 31) rfl clf_4 (by decide) rfl rfl rfl rfl rfl wd_233 ?_
  refine g_aload_n hG (dn_X4_init 16 (31, .aload_n 0, 1) rfl rfl) (pc' := 32) rfl rfl 0 rfl ?_
  refine g_iconst hG 0 (dn_X4_init 17 (32, .iconst 0, 1) rfl rfl) (pc' := 33) rfl (by decide) ?_
  refine g_put hG (j := 4) [.ref q1, .ref q2, .int 0, .int 0, .int 0, .int 0, .int 0, .int 0, .long 0, .int 0, .int 0] (dn_X4_init 18 (33, .putfield 26, 3) rfl rfl) (pc' := 36) rfl clf_4 (by decide) rfl rfl rfl rfl rfl wd_234 ?_
  refine g_aload_n hG (dn_X4_init 19 (36, .aload_n 0, 1) rfl rfl) (pc' := 37) rfl rfl 0 rfl ?_
  refine g_iconst hG 0 (dn_X4_init 20 (37, .iconst 0, 1) rfl rfl) (pc' := 38) rfl (by decide) ?_
  refine g_put hG (j := 5) [.ref q1, .ref q2, .int 0, .int 0, .int 0, .int 0, .int 0, .int 0, .long 0, .int 0, .int 0] (dn_X4_init 21 (38, .putfield 29, 3) rfl rfl) (pc' := 41) rfl clf_4 (by decide) rfl rfl rfl rfl rfl wd_235 ?_
  refine g_aload_n hG (dn_X4_init 22 (41, .aload_n 0, 1) rfl rfl) (pc' := 42) rfl rfl 0 rfl ?_
  refine g_bipush hG 37 (dn_X4_init 23 (42, .bipush 37, 2) rfl rfl) (pc' := 44) rfl (by decide) ?_
  refine g_put hG (j := 6) [.ref q1, .ref q2, .int 0, .int 0, .int 0, .int 0, .int 37, .int 0, .long 0, .int 0, .int 0] (dn_X4_init 24 (44, .putfield 32, 3) rfl rfl) (pc' := 47) rfl clf_4 (by decide) rfl rfl rfl rfl rfl wd_237 ?_
  refine g_aload_n hG (dn_X4_init 25 (47, .aload_n 0, 1) rfl rfl) (pc' := 48) rfl rfl 0 rfl ?_
  refine g_iconst hG 0 (dn_X4_init 26 (48, .iconst 0, 1) rfl rfl) (pc' := 49) rfl (by decide) ?_
  refine g_put hG (j := 7) [.ref q1, .ref q2, .int 0, .int 0, .int 0, .int 0, .int 37, .int 0, .long 0, .int 0, .int 0] (dn_X4_init 27 (49, .putfield 35, 3) rfl rfl) (pc' := 52) rfl clf_4 (by decide) rfl rfl rfl rfl rfl wd_240 ?_
  refine g_aload_n hG (dn_X4_init 28 (52, .aload_n 0, 1) rfl rfl) (pc' := 53) rfl rfl 0 rfl ?_
  refine g_lconst hG 0 (dn_X4_init 29 (53, .lconst 0, 1) rfl rfl) (pc' := 54) rfl (by decide) ?_
  refine g_put hG (j := 8) [.ref q1, .ref q2, .int 0, .int 0, .int 0, .int 0, .int 37, .int 0, .long 0, .int 0, .int 0] (dn_X4_init 30 (54, .putfield 38, 3) rfl rfl) (pc' := 57) rfl clf_4 (by decide) rfl rfl rfl rfl rfl wd_241 ?_
  refine g_aload_n hG (dn_X4_init 31 (57, .aload_n 0, 1) rfl rfl) (pc' := 58) rfl rfl 0 rfl ?_
  refine g_iconst hG 0 (dn_X4_init 32 (58, .iconst 0, 1) rfl rfl) (pc' := 59) rfl (by decide) ?_
  refine g_put hG (j := 9) [.ref q1, .ref q2, .int 0, .int 0, .int 0, .int 0, .int 37, .int 0, .long 0, .int 0, .int 0] (dn_X4_init 33 (59, .putfield 42, 3) rfl rfl) (pc' := 62) rfl clf_4 (by decide) rfl rfl rfl rfl rfl wd_242 ?_
  refine g_aload_n hG (dn_X4_init 34 (62, .aload_n 0, 1) rfl rfl) (pc' := 63) rfl rfl 0 rfl ?_
  refine g_iconst hG 0 (dn_X4_init 35 (63, .iconst 0, 1) rfl rfl) (pc' := 64) rfl (by decide) ?_
  refine g_put hG (j := 10) [.ref q1, .ref q2, .int 0, .int 0, .int 0, .int 0, .int 37, .int 0, .long 0, .int 0, .int 0] (dn_X4_init 36 (64, .putfield 45, 3) rfl rfl) (pc' := 67) rfl clf_4 (by decide) rfl rfl rfl rfl rfl wd_244 ?_
  have hAD : ∃ AD : Nat → Nat → Nat, AD = (fun k g => bif Nat.beq k 4 then h0 else bif Nat.beq k 26 then q1 else bif Nat.beq k 27 then q2 else ad0 k g) := ⟨_, rfl⟩
  obtain ⟨AD, hAD⟩ := hAD
  refine g_eqw (w' := WSC CX4 dA AD m0) ?_ ?_
  · rw [hAD]
    exact rfl
  have hE : EXT AD (A1 h0 s.heap.size) s s.heap := by rw [hAD]; exact hG.2.2.2.2.2.2.2.1
  have h0e : h0 = AD 4 0 := by rw [hAD]; rfl
  have hR0 : 2 ≤ (rm_X4_init).cells ∧ 930 ≤ (rm_X4_init).slots := ⟨(Nat.le_of_ble_eq_true rfl), (Nat.le_of_ble_eq_true rfl)⟩
  refine g_tail (pcs := pc_X4_own) (ad := AD) (as := [vR 4 0]) hG vc_X4_own hE CHY_X4 (fun hC => ?_) m0_ok (fun v hv => by rw [List.mem_singleton.mp hv]; exact Or.inl List.mem_cons_self) rfl (by rw [h0e]; rfl)
  exact ⟨sc_iconst hC (n := 0) (x := 0) (dc_X4_own 0 (67, .iconst 0, 1) rfl rfl) rfl (by decide),
    sc_istore_n hC (n := 1) (k := 1) (dc_X4_own 1 (68, .istore_n 1, 1) rfl rfl) rfl rfl (by decide),
    sc_iconst hC (n := 2) (x := 0) (dc_X4_own 2 (69, .iconst 0, 1) rfl rfl) rfl (by decide),
    sc_istore_n hC (n := 3) (k := 2) (dc_X4_own 3 (70, .istore_n 2, 1) rfl rfl) rfl rfl (by decide),
    sc_iload_n hC (n := 4) (k := 2) (dc_X4_own 4 (71, .iload_n 2, 1) rfl rfl) rfl rfl,
    sc_ldS0 hC (n := 5) (dc_X4_own 5 (72, .ldc 48, 2) rfl rfl) rfl rfl,
    sc_callT hC (n := 6) (na := 0) (conC_J0_length_8abf5 l CHY_X4) (dc_X4_own 6 (74, .invokevirtual 50, 3) rfl rfl) rfl wd_184 wd_145 (by decide) ⟨rfl, rfl, by decide, by decide⟩ hR0 wd_181 wd_182 wd_183 rfl,
    sc_icge hC (n := 7) (dc_X4_own 7 (77, .if_icmp .ge 58, 3) rfl rfl) rfl (by decide),
    sc_iload_n hC (n := 8) (k := 1) (dc_X4_own 8 (80, .iload_n 1, 1) rfl rfl) rfl rfl,
    sc_bipush hC (n := 9) (x := 30) (dc_X4_own 9 (81, .bipush 30, 2) rfl rfl) rfl (by decide),
    sc_icge hC (n := 10) (dc_X4_own 10 (83, .if_icmp .ge 52, 3) rfl rfl) rfl (by decide),
    sc_ldS0 hC (n := 11) (dc_X4_own 11 (86, .ldc 48, 2) rfl rfl) rfl rfl,
    sc_iload_n hC (n := 12) (k := 2) (dc_X4_own 12 (88, .iload_n 2, 1) rfl rfl) rfl rfl,
    sc_callT hC (n := 13) (na := 1) (conC_J0_charAt_5068e l CHY_X4) (dc_X4_own 13 (89, .invokevirtual 56, 3) rfl rfl) rfl wd_194 wd_145 (by decide) ⟨rfl, rfl, by decide, by decide⟩ hR0 wd_191 wd_192 wd_193 rfl,
    sc_istore_n hC (n := 14) (k := 3) (dc_X4_own 14 (92, .istore_n 3, 1) rfl rfl) rfl rfl (by decide),
    sc_iload_n hC (n := 15) (k := 3) (dc_X4_own 15 (93, .iload_n 3, 1) rfl rfl) rfl rfl,
    sc_bipush hC (n := 16) (x := 32) (dc_X4_own 16 (94, .bipush 32, 2) rfl rfl) rfl (by decide),
    sc_icne hC (n := 17) (dc_X4_own 17 (96, .if_icmp .ne 9, 3) rfl rfl) rfl (by decide),
    sc_iinc hC (n := 18) (x := 1) (dc_X4_own 18 (99, .iinc 1 1, 3) rfl rfl) rfl (by decide) (by decide),
    sc_goto hC (n := 19) (dc_X4_own 19 (102, .goto 27, 3) rfl rfl) (by decide),
    sc_aload_n hC (n := 20) (k := 0) (dc_X4_own 20 (105, .aload_n 0, 1) rfl rfl) rfl rfl,
    sc_getR hC (n := 21) (k := 4) (j := 1) (dc_X4_own 21 (106, .getfield 15, 3) rfl rfl) rfl clf_4 (by decide) rfl (by decide) wd_231,
    sc_iload_n hC (n := 22) (k := 1) (dc_X4_own 22 (109, .iload_n 1, 1) rfl rfl) rfl rfl,
    sc_aload_n hC (n := 23) (k := 0) (dc_X4_own 23 (110, .aload_n 0, 1) rfl rfl) rfl rfl,
    sc_getR hC (n := 24) (k := 4) (j := 1) (dc_X4_own 24 (111, .getfield 15, 3) rfl rfl) rfl clf_4 (by decide) rfl (by decide) wd_231,
    sc_iload_n hC (n := 25) (k := 1) (dc_X4_own 25 (114, .iload_n 1, 1) rfl rfl) rfl rfl,
    sc_lald hC (n := 26) (dc_X4_own 26 (115, .laload, 1) rfl rfl) rfl,
    sc_ldc2 hC (n := 27) (x := 27) (dc_X4_own 27 (116, .ldc2_w 60, 3) rfl rfl) rfl wd_229,
    sc_lmul hC (n := 28) (dc_X4_own 28 (119, .lmul, 1) rfl rfl) rfl,
    sc_iload_n hC (n := 29) (k := 3) (dc_X4_own 29 (120, .iload_n 3, 1) rfl rfl) rfl rfl,
    sc_bipush hC (n := 30) (x := 97) (dc_X4_own 30 (121, .bipush 97, 2) rfl rfl) rfl (by decide),
    sc_isub hC (n := 31) (dc_X4_own 31 (123, .isub, 1) rfl rfl) rfl,
    sc_iconst hC (n := 32) (x := 1) (dc_X4_own 32 (124, .iconst 1, 1) rfl rfl) rfl (by decide),
    sc_iadd hC (n := 33) (dc_X4_own 33 (125, .iadd, 1) rfl rfl) rfl,
    sc_i2l hC (n := 34) (dc_X4_own 34 (126, .i2l, 1) rfl rfl) rfl,
    sc_ladd hC (n := 35) (dc_X4_own 35 (127, .ladd, 1) rfl rfl) rfl,
    sc_last hC (n := 36) (dc_X4_own 36 (128, .lastore, 1) rfl rfl) rfl,
    sc_iinc hC (n := 37) (x := 1) (dc_X4_own 37 (129, .iinc 2 1, 3) rfl rfl) rfl (by decide) (by decide),
    sc_goto hC (n := 38) (dc_X4_own 38 (132, .goto (-61), 3) rfl rfl) (by decide),
    g_tailret (mm := m0) (Z := fun _ => True) hG (n := 39) (dc_X4_own 39 (135, .return_, 1) rfl rfl) rfl rfl hrt hlk h0e trivial (fun r m' z => congrArg Prod.snd z), trivial⟩
abbrev y_X6_init : MethodName := ⟨"GivenUp$Valley", "<init>", "()V"⟩
def pn_X6_init : Nat → Nat := fun i => [0, 1, 4, 5, 7, 9, 12, 13, 14, 16, 19, 20, 22, 24, 27, 28, 29, 31, 34, 35, 36, 38, 41, 42, 43, 45, 48, 49, 51, 53, 56, 57, 59, 61, 64, 65, 67, 69, 72, 73, 75, 77, 80, 81, 83, 85, 88, 89, 92, 93, 96, 99, 100, 103, 104, 107, 110, 111, 112, 115, 116, 117, 120, 121, 122, 125, 126, 127, 130, 131, 132, 135, 136, 137, 140, 141, 142, 145, 146, 149].getD i 0
def dm_X6_init : List (Nat × Instr × Nat) := [(0, .aload_n 0, 1), (1, .invokespecial 3, 3), (4, .aload_n 0, 1), (5, .bipush 20, 2), (7, .newarray .long, 2), (9, .putfield 9, 3), (12, .aload_n 0, 1), (13, .iconst 4, 1), (14, .newarray .int, 2), (16, .putfield 15, 3), (19, .aload_n 0, 1), (20, .bipush 16, 2), (22, .newarray .int, 2), (24, .putfield 19, 3), (27, .aload_n 0, 1), (28, .iconst 4, 1), (29, .newarray .int, 2), (31, .putfield 22, 3), (34, .aload_n 0, 1), (35, .iconst 4, 1), (36, .newarray .int, 2), (38, .putfield 25, 3), (41, .aload_n 0, 1), (42, .iconst 4, 1), (43, .newarray .int, 2), (45, .putfield 28, 3), (48, .aload_n 0, 1), (49, .bipush 12, 2), (51, .newarray .int, 2), (53, .putfield 31, 3), (56, .aload_n 0, 1), (57, .bipush 12, 2), (59, .newarray .int, 2), (61, .putfield 34, 3), (64, .aload_n 0, 1), (65, .bipush 12, 2), (67, .newarray .int, 2), (69, .putfield 37, 3), (72, .aload_n 0, 1), (73, .bipush 12, 2), (75, .newarray .int, 2), (77, .putfield 40, 3), (80, .aload_n 0, 1), (81, .bipush 48, 2), (83, .newarray .int, 2), (85, .putfield 43, 3), (88, .aload_n 0, 1), (89, .new 46, 3), (92, .dup, 1), (93, .invokespecial 48, 3), (96, .putfield 49, 3), (99, .aload_n 0, 1), (100, .new 53, 3), (103, .dup, 1), (104, .invokespecial 55, 3), (107, .putfield 56, 3), (110, .aload_n 0, 1), (111, .iconst 0, 1), (112, .putfield 60, 3), (115, .aload_n 0, 1), (116, .iconst 0, 1), (117, .putfield 64, 3), (120, .aload_n 0, 1), (121, .iconst 0, 1), (122, .putfield 67, 3), (125, .aload_n 0, 1), (126, .iconst 0, 1), (127, .putfield 70, 3), (130, .aload_n 0, 1), (131, .iconst 0, 1), (132, .putfield 73, 3), (135, .aload_n 0, 1), (136, .iconst 0, 1), (137, .putfield 76, 3), (140, .aload_n 0, 1), (141, .iconst 0, 1), (142, .putfield 79, 3), (145, .aload_n 0, 1), (146, .invokevirtual 82, 3), (149, .return_, 1)]
theorem dn_X6_init : DEC prog_8_method_1_code pn_X6_init dm_X6_init := DEC_of (by decide +kernel)
abbrev rm_X6_init : Room := { frames := 3, cells := 23, slots := 540, locals := 63 }
set_option maxHeartbeats 4000000 in
set_option maxRecDepth 20000 in
theorem cn_X6_init (l : Launch) (ad0 : Nat → Nat → Nat) : CNI l ad0 y_X6_init prog_8_method_1_code 1 rm_X6_init 23 540 (alen 6) [.null, .null, .null, .null, .null, .null, .null, .null, .null, .null, .null, .null, .null, .int 0, .int 0, .int 0, .int 0, .int 0, .int 0, .int 0] [] 6 CX6 mV (fun _ => True) := by
  refine CNI_of (own := "GivenUp$Valley") (by decide) rfl rfl (Nat.le_of_ble_eq_true rfl) (fun p e s m args below meth c D dA h0 hG hmn hrt hlk => ?_)
  refine g_aload_n hG (dn_X6_init 0 (0, .aload_n 0, 1) rfl rfl) (pc' := 1) rfl rfl 0 rfl ?_
  refine g_obj hG (dn_X6_init 1 (1, .invokespecial 3, 3) rfl rfl) (pc' := 4) rfl wd_456 wd_170 wd_171 (Nat.le_of_ble_eq_true rfl) (Nat.le_of_ble_eq_true rfl) ?_
  refine g_aload_n hG (dn_X6_init 2 (4, .aload_n 0, 1) rfl rfl) (pc' := 5) rfl rfl 0 rfl ?_
  refine g_bipush hG 20 (dn_X6_init 3 (5, .bipush 20, 2) rfl rfl) (pc' := 7) rfl (by decide) ?_
  refine k_newa hG 20 (20, .inr (.inl (fun _ => 0))) 1 (dn_X6_init 4 (7, .newarray .long, 2) rfl rfl) (pc' := 9) rfl wd_270 rfl (fun _ z => by cases z) rfl (fun _ => rfl) (by decide) (by decide +kernel) (Nat.le_of_ble_eq_true rfl) (Nat.le_of_ble_eq_true rfl) (Nat.le_of_ble_eq_true rfl) (fun q1 => ?_)
  refine g_putF hG (j := 0) [.ref q1, .null, .null, .null, .null, .null, .null, .null, .null, .null, .null, .null, .null, .int 0, .int 0, .int 0, .int 0, .int 0, .int 0, .int 0] hmn (dn_X6_init 5 (9, .putfield 9, 3) rfl rfl) (pc' := 12) rfl clf_6 (by decide) rfl rfl rfl rfl rfl wd_575 ?_
  refine g_aload_n hG (dn_X6_init 6 (12, .aload_n 0, 1) rfl rfl) (pc' := 13) rfl rfl 0 rfl ?_
  refine g_iconst hG 4 (dn_X6_init 7 (13, .iconst 4, 1) rfl rfl) (pc' := 14) rfl (by decide) ?_
  refine k_newa hG 4 (4, .inl (fun _ => 0)) 0 (dn_X6_init 8 (14, .newarray .int, 2) rfl rfl) (pc' := 16) rfl wd_303 rfl (fun _ z => by cases z) rfl (fun _ => rfl) (by decide) (by decide +kernel) (Nat.le_of_ble_eq_true rfl) (Nat.le_of_ble_eq_true rfl) (Nat.le_of_ble_eq_true rfl) (fun q2 => ?_)
  refine g_putF hG (j := 1) [.ref q1, .ref q2, .null, .null, .null, .null, .null, .null, .null, .null, .null, .null, .null, .int 0, .int 0, .int 0, .int 0, .int 0, .int 0, .int 0] hmn (dn_X6_init 9 (16, .putfield 15, 3) rfl rfl) (pc' := 19) rfl clf_6 (by decide) rfl rfl rfl rfl rfl wd_578 ?_
  refine g_aload_n hG (dn_X6_init 10 (19, .aload_n 0, 1) rfl rfl) (pc' := 20) rfl rfl 0 rfl ?_
  refine g_bipush hG 16 (dn_X6_init 11 (20, .bipush 16, 2) rfl rfl) (pc' := 22) rfl (by decide) ?_
  refine k_newa hG 16 (16, .inl (fun _ => 0)) 0 (dn_X6_init 12 (22, .newarray .int, 2) rfl rfl) (pc' := 24) rfl wd_303 rfl (fun _ z => by cases z) rfl (fun _ => rfl) (by decide) (by decide +kernel) (Nat.le_of_ble_eq_true rfl) (Nat.le_of_ble_eq_true rfl) (Nat.le_of_ble_eq_true rfl) (fun q3 => ?_)
  refine g_putF hG (j := 2) [.ref q1, .ref q2, .ref q3, .null, .null, .null, .null, .null, .null, .null, .null, .null, .null, .int 0, .int 0, .int 0, .int 0, .int 0, .int 0, .int 0] hmn (dn_X6_init 13 (24, .putfield 19, 3) rfl rfl) (pc' := 27) rfl clf_6 (by decide) rfl rfl rfl rfl rfl wd_581 ?_
  refine g_aload_n hG (dn_X6_init 14 (27, .aload_n 0, 1) rfl rfl) (pc' := 28) rfl rfl 0 rfl ?_
  refine g_iconst hG 4 (dn_X6_init 15 (28, .iconst 4, 1) rfl rfl) (pc' := 29) rfl (by decide) ?_
  refine k_newa hG 4 (4, .inl (fun _ => 0)) 0 (dn_X6_init 16 (29, .newarray .int, 2) rfl rfl) (pc' := 31) rfl wd_303 rfl (fun _ z => by cases z) rfl (fun _ => rfl) (by decide) (by decide +kernel) (Nat.le_of_ble_eq_true rfl) (Nat.le_of_ble_eq_true rfl) (Nat.le_of_ble_eq_true rfl) (fun q4 => ?_)
  refine g_putF hG (j := 3) [.ref q1, .ref q2, .ref q3, .ref q4, .null, .null, .null, .null, .null, .null, .null, .null, .null, .int 0, .int 0, .int 0, .int 0, .int 0, .int 0, .int 0] hmn (dn_X6_init 17 (31, .putfield 22, 3) rfl rfl) (pc' := 34) rfl clf_6 (by decide) rfl rfl rfl rfl rfl wd_585 ?_
  refine g_aload_n hG (dn_X6_init 18 (34, .aload_n 0, 1) rfl rfl) (pc' := 35) rfl rfl 0 rfl ?_
  refine g_iconst hG 4 (dn_X6_init 19 (35, .iconst 4, 1) rfl rfl) (pc' := 36) rfl (by decide) ?_
  refine k_newa hG 4 (4, .inl (fun _ => 0)) 0 (dn_X6_init 20 (36, .newarray .int, 2) rfl rfl) (pc' := 38) rfl wd_303 rfl (fun _ z => by cases z) rfl (fun _ => rfl) (by decide) (by decide +kernel) (Nat.le_of_ble_eq_true rfl) (Nat.le_of_ble_eq_true rfl) (Nat.le_of_ble_eq_true rfl) (fun q5 => ?_)
  refine g_putF hG (j := 4) [.ref q1, .ref q2, .ref q3, .ref q4, .ref q5, .null, .null, .null, .null, .null, .null, .null, .null, .int 0, .int 0, .int 0, .int 0, .int 0, .int 0, .int 0] hmn (dn_X6_init 21 (38, .putfield 25, 3) rfl rfl) (pc' := 41) rfl clf_6 (by decide) rfl rfl rfl rfl rfl wd_588 ?_
  refine g_aload_n hG (dn_X6_init 22 (41, .aload_n 0, 1) rfl rfl) (pc' := 42) rfl rfl 0 rfl ?_
  refine g_iconst hG 4 (dn_X6_init 23 (42, .iconst 4, 1) rfl rfl) (pc' := 43) rfl (by decide) ?_
  refine k_newa hG 4 (4, .inl (fun _ => 0)) 0 (dn_X6_init 24 (43, .newarray .int, 2) rfl rfl) (pc' := 45) rfl wd_303 rfl (fun _ z => by cases z) rfl (fun _ => rfl) (by decide) (by decide +kernel) (Nat.le_of_ble_eq_true rfl) (Nat.le_of_ble_eq_true rfl) (Nat.le_of_ble_eq_true rfl) (fun q6 => ?_)
  refine g_putF hG (j := 5) [.ref q1, .ref q2, .ref q3, .ref q4, .ref q5, .ref q6, .null, .null, .null, .null, .null, .null, .null, .int 0, .int 0, .int 0, .int 0, .int 0, .int 0, .int 0] hmn (dn_X6_init 25 (45, .putfield 28, 3) rfl rfl) (pc' := 48) rfl clf_6 (by decide) rfl rfl rfl rfl rfl wd_592 ?_
  refine g_aload_n hG (dn_X6_init 26 (48, .aload_n 0, 1) rfl rfl) (pc' := 49) rfl rfl 0 rfl ?_
  refine g_bipush hG 12 (dn_X6_init 27 (49, .bipush 12, 2) rfl rfl) (pc' := 51) rfl (by decide) ?_
  refine k_newa hG 12 (12, .inl (fun _ => 0)) 0 (dn_X6_init 28 (51, .newarray .int, 2) rfl rfl) (pc' := 53) rfl wd_303 rfl (fun _ z => by cases z) rfl (fun _ => rfl) (by decide) (by decide +kernel) (Nat.le_of_ble_eq_true rfl) (Nat.le_of_ble_eq_true rfl) (Nat.le_of_ble_eq_true rfl) (fun q7 => ?_)
  refine g_putF hG (j := 6) [.ref q1, .ref q2, .ref q3, .ref q4, .ref q5, .ref q6, .ref q7, .null, .null, .null, .null, .null, .null, .int 0, .int 0, .int 0, .int 0, .int 0, .int 0, .int 0] hmn (dn_X6_init 29 (53, .putfield 31, 3) rfl rfl) (pc' := 56) rfl clf_6 (by decide) rfl rfl rfl rfl rfl wd_595 ?_
  refine g_aload_n hG (dn_X6_init 30 (56, .aload_n 0, 1) rfl rfl) (pc' := 57) rfl rfl 0 rfl ?_
  refine g_bipush hG 12 (dn_X6_init 31 (57, .bipush 12, 2) rfl rfl) (pc' := 59) rfl (by decide) ?_
  refine k_newa hG 12 (12, .inl (fun _ => 0)) 0 (dn_X6_init 32 (59, .newarray .int, 2) rfl rfl) (pc' := 61) rfl wd_303 rfl (fun _ z => by cases z) rfl (fun _ => rfl) (by decide) (by decide +kernel) (Nat.le_of_ble_eq_true rfl) (Nat.le_of_ble_eq_true rfl) (Nat.le_of_ble_eq_true rfl) (fun q8 => ?_)
  refine g_putF hG (j := 7) [.ref q1, .ref q2, .ref q3, .ref q4, .ref q5, .ref q6, .ref q7, .ref q8, .null, .null, .null, .null, .null, .int 0, .int 0, .int 0, .int 0, .int 0, .int 0, .int 0] hmn (dn_X6_init 33 (61, .putfield 34, 3) rfl rfl) (pc' := 64) rfl clf_6 (by decide) rfl rfl rfl rfl rfl wd_598 ?_
  refine g_aload_n hG (dn_X6_init 34 (64, .aload_n 0, 1) rfl rfl) (pc' := 65) rfl rfl 0 rfl ?_
  refine g_bipush hG 12 (dn_X6_init 35 (65, .bipush 12, 2) rfl rfl) (pc' := 67) rfl (by decide) ?_
  refine k_newa hG 12 (12, .inl (fun _ => 0)) 0 (dn_X6_init 36 (67, .newarray .int, 2) rfl rfl) (pc' := 69) rfl wd_303 rfl (fun _ z => by cases z) rfl (fun _ => rfl) (by decide) (by decide +kernel) (Nat.le_of_ble_eq_true rfl) (Nat.le_of_ble_eq_true rfl) (Nat.le_of_ble_eq_true rfl) (fun q9 => ?_)
  refine g_putF hG (j := 8) [.ref q1, .ref q2, .ref q3, .ref q4, .ref q5, .ref q6, .ref q7, .ref q8, .ref q9, .null, .null, .null, .null, .int 0, .int 0, .int 0, .int 0, .int 0, .int 0, .int 0] hmn (dn_X6_init 37 (69, .putfield 37, 3) rfl rfl) (pc' := 72) rfl clf_6 (by decide) rfl rfl rfl rfl rfl wd_601 ?_
  refine g_aload_n hG (dn_X6_init 38 (72, .aload_n 0, 1) rfl rfl) (pc' := 73) rfl rfl 0 rfl ?_
  refine g_bipush hG 12 (dn_X6_init 39 (73, .bipush 12, 2) rfl rfl) (pc' := 75) rfl (by decide) ?_
  refine k_newa hG 12 (12, .inl (fun _ => 0)) 0 (dn_X6_init 40 (75, .newarray .int, 2) rfl rfl) (pc' := 77) rfl wd_303 rfl (fun _ z => by cases z) rfl (fun _ => rfl) (by decide) (by decide +kernel) (Nat.le_of_ble_eq_true rfl) (Nat.le_of_ble_eq_true rfl) (Nat.le_of_ble_eq_true rfl) (fun q10 => ?_)
  refine g_putF hG (j := 9) [.ref q1, .ref q2, .ref q3, .ref q4, .ref q5, .ref q6, .ref q7, .ref q8, .ref q9, .ref q10, .null, .null, .null, .int 0, .int 0, .int 0, .int 0, .int 0, .int 0, .int 0] hmn (dn_X6_init 41 (77, .putfield 40, 3) rfl rfl) (pc' := 80) rfl clf_6 (by decide) rfl rfl rfl rfl rfl wd_605 ?_
  refine g_aload_n hG (dn_X6_init 42 (80, .aload_n 0, 1) rfl rfl) (pc' := 81) rfl rfl 0 rfl ?_
  refine g_bipush hG 48 (dn_X6_init 43 (81, .bipush 48, 2) rfl rfl) (pc' := 83) rfl (by decide) ?_
  refine k_newa hG 48 (48, .inl (fun _ => 0)) 0 (dn_X6_init 44 (83, .newarray .int, 2) rfl rfl) (pc' := 85) rfl wd_303 rfl (fun _ z => by cases z) rfl (fun _ => rfl) (by decide) (by decide +kernel) (Nat.le_of_ble_eq_true rfl) (Nat.le_of_ble_eq_true rfl) (Nat.le_of_ble_eq_true rfl) (fun q11 => ?_)
  refine g_putF hG (j := 10) [.ref q1, .ref q2, .ref q3, .ref q4, .ref q5, .ref q6, .ref q7, .ref q8, .ref q9, .ref q10, .ref q11, .null, .null, .int 0, .int 0, .int 0, .int 0, .int 0, .int 0, .int 0] hmn (dn_X6_init 45 (85, .putfield 43, 3) rfl rfl) (pc' := 88) rfl clf_6 (by decide) rfl rfl rfl rfl rfl wd_608 ?_
  refine g_aload_n hG (dn_X6_init 46 (88, .aload_n 0, 1) rfl rfl) (pc' := 89) rfl rfl 0 rfl ?_
  refine k_new hG [.null, .null, .null, .null, .int 0, .int 0, .int 0] (dn_X6_init 47 (89, .new 46, 3) rfl rfl) (pc' := 92) rfl clf_1 wd_457 wd_458 wd_156 rfl (Nat.le_of_ble_eq_true rfl) (Nat.le_of_ble_eq_true rfl) (fun q12 => ?_)
  refine g_dup hG (dn_X6_init 48 (92, .dup, 1) rfl rfl) (pc' := 93) rfl ?_
  refine k_initN hG (na := 0) (cn_X1_init l ad0) (dn_X6_init 49 (93, .invokespecial 48, 3) rfl rfl) (pc' := 96) rfl wd_461 wd_156 ⟨by decide, by decide, by decide +kernel⟩ rfl ⟨"GivenUp", by decide⟩ wd_460 rfl rfl (Nat.le_of_ble_eq_true rfl) ⟨rfl, rfl, by decide, by decide⟩ ⟨(Nat.le_of_ble_eq_true rfl), (Nat.le_of_ble_eq_true rfl)⟩ (fun ad12 had hzad12 => ?_)
  subst had
  refine g_putF hG (j := 11) [.ref q1, .ref q2, .ref q3, .ref q4, .ref q5, .ref q6, .ref q7, .ref q8, .ref q9, .ref q10, .ref q11, .ref (ad12 1 0), .null, .int 0, .int 0, .int 0, .int 0, .int 0, .int 0, .int 0] hmn (dn_X6_init 50 (96, .putfield 49, 3) rfl rfl) (pc' := 99) rfl clf_6 (by decide) rfl rfl rfl rfl rfl wd_610 ?_
  refine g_aload_n hG (dn_X6_init 51 (99, .aload_n 0, 1) rfl rfl) (pc' := 100) rfl rfl 0 rfl ?_
  refine k_new hG [.null, .null, .null, .null, .null, .null, .int 0, .int 0, .int 0] (dn_X6_init 52 (100, .new 53, 3) rfl rfl) (pc' := 103) rfl clf_9 wd_504 wd_505 wd_157 rfl (Nat.le_of_ble_eq_true rfl) (Nat.le_of_ble_eq_true rfl) (fun q13 => ?_)
  refine g_dup hG (dn_X6_init 53 (103, .dup, 1) rfl rfl) (pc' := 104) rfl ?_
  refine k_initN hG (na := 0) (cn_X9_init l ad0) (dn_X6_init 54 (104, .invokespecial 55, 3) rfl rfl) (pc' := 107) rfl wd_508 wd_157 ⟨by decide, by decide, by decide +kernel⟩ rfl ⟨"GivenUp", by decide⟩ wd_507 rfl rfl (Nat.le_of_ble_eq_true rfl) ⟨rfl, rfl, by decide, by decide⟩ ⟨(Nat.le_of_ble_eq_true rfl), (Nat.le_of_ble_eq_true rfl)⟩ (fun ad13 had hzad13 => ?_)
  subst had
  refine g_putF hG (j := 12) [.ref q1, .ref q2, .ref q3, .ref q4, .ref q5, .ref q6, .ref q7, .ref q8, .ref q9, .ref q10, .ref q11, .ref (ad12 1 0), .ref (ad13 9 0), .int 0, .int 0, .int 0, .int 0, .int 0, .int 0, .int 0] hmn (dn_X6_init 55 (107, .putfield 56, 3) rfl rfl) (pc' := 110) rfl clf_6 (by decide) rfl rfl rfl rfl rfl wd_614 ?_
  refine g_aload_n hG (dn_X6_init 56 (110, .aload_n 0, 1) rfl rfl) (pc' := 111) rfl rfl 0 rfl ?_
  refine g_iconst hG 0 (dn_X6_init 57 (111, .iconst 0, 1) rfl rfl) (pc' := 112) rfl (by decide) ?_
  refine g_put hG (j := 13) [.ref q1, .ref q2, .ref q3, .ref q4, .ref q5, .ref q6, .ref q7, .ref q8, .ref q9, .ref q10, .ref q11, .ref (ad12 1 0), .ref (ad13 9 0), .int 0, .int 0, .int 0, .int 0, .int 0, .int 0, .int 0] (dn_X6_init 58 (112, .putfield 60, 3) rfl rfl) (pc' := 115) rfl clf_6 (by decide) rfl rfl rfl rfl rfl wd_617 ?_
  refine g_aload_n hG (dn_X6_init 59 (115, .aload_n 0, 1) rfl rfl) (pc' := 116) rfl rfl 0 rfl ?_
  refine g_iconst hG 0 (dn_X6_init 60 (116, .iconst 0, 1) rfl rfl) (pc' := 117) rfl (by decide) ?_
  refine g_put hG (j := 14) [.ref q1, .ref q2, .ref q3, .ref q4, .ref q5, .ref q6, .ref q7, .ref q8, .ref q9, .ref q10, .ref q11, .ref (ad12 1 0), .ref (ad13 9 0), .int 0, .int 0, .int 0, .int 0, .int 0, .int 0, .int 0] (dn_X6_init 61 (117, .putfield 64, 3) rfl rfl) (pc' := 120) rfl clf_6 (by decide) rfl rfl rfl rfl rfl wd_623 ?_
  refine g_aload_n hG (dn_X6_init 62 (120, .aload_n 0, 1) rfl rfl) (pc' := 121) rfl rfl 0 rfl ?_
  refine g_iconst hG 0 (dn_X6_init 63 (121, .iconst 0, 1) rfl rfl) (pc' := 122) rfl (by decide) ?_
  refine g_put hG (j := 15) [.ref q1, .ref q2, .ref q3, .ref q4, .ref q5, .ref q6, .ref q7, .ref q8, .ref q9, .ref q10, .ref q11, .ref (ad12 1 0), .ref (ad13 9 0), .int 0, .int 0, .int 0, .int 0, .int 0, .int 0, .int 0] (dn_X6_init 64 (122, .putfield 67, 3) rfl rfl) (pc' := 125) rfl clf_6 (by decide) rfl rfl rfl rfl rfl wd_629 ?_
  refine g_aload_n hG (dn_X6_init 65 (125, .aload_n 0, 1) rfl rfl) (pc' := 126) rfl rfl 0 rfl ?_
  refine g_iconst hG 0 (dn_X6_init 66 (126, .iconst 0, 1) rfl rfl) (pc' := 127) rfl (by decide) ?_
  refine g_put hG (j := 16) [.ref q1, .ref q2, .ref q3, .ref q4, .ref q5, .ref q6, .ref q7, .ref q8, .ref q9, .ref q10, .ref q11, .ref (ad12 1 0), .ref (ad13 9 0), .int 0, .int 0, .int 0, .int 0, .int 0, .int 0, .int 0] (dn_X6_init 67 (127, .putfield 70, 3) rfl rfl) (pc' := 130) rfl clf_6 (by decide) rfl rfl rfl rfl rfl wd_634 ?_
  refine g_aload_n hG (dn_X6_init 68 (130, .aload_n 0, 1) rfl rfl) (pc' := 131) rfl rfl 0 rfl ?_
  refine g_iconst hG 0 (dn_X6_init 69 (131, .iconst 0, 1) rfl rfl) (pc' := 132) rfl (by decide) ?_
  refine g_put hG (j := 17) [.ref q1, .ref q2, .ref q3, .ref q4, .ref q5, .ref q6, .ref q7, .ref q8, .ref q9, .ref q10, .ref q11, .ref (ad12 1 0), .ref (ad13 9 0), .int 0, .int 0, .int 0, .int 0, .int 0, .int 0, .int 0] (dn_X6_init 70 (132, .putfield 73, 3) rfl rfl) (pc' := 135) rfl clf_6 (by decide) rfl rfl rfl rfl rfl wd_637 ?_
  refine g_aload_n hG (dn_X6_init 71 (135, .aload_n 0, 1) rfl rfl) (pc' := 136) rfl rfl 0 rfl ?_
  refine g_iconst hG 0 (dn_X6_init 72 (136, .iconst 0, 1) rfl rfl) (pc' := 137) rfl (by decide) ?_
  refine g_put hG (j := 18) [.ref q1, .ref q2, .ref q3, .ref q4, .ref q5, .ref q6, .ref q7, .ref q8, .ref q9, .ref q10, .ref q11, .ref (ad12 1 0), .ref (ad13 9 0), .int 0, .int 0, .int 0, .int 0, .int 0, .int 0, .int 0] (dn_X6_init 73 (137, .putfield 76, 3) rfl rfl) (pc' := 140) rfl clf_6 (by decide) rfl rfl rfl rfl rfl wd_641 ?_
  refine g_aload_n hG (dn_X6_init 74 (140, .aload_n 0, 1) rfl rfl) (pc' := 141) rfl rfl 0 rfl ?_
  refine g_iconst hG 0 (dn_X6_init 75 (141, .iconst 0, 1) rfl rfl) (pc' := 142) rfl (by decide) ?_
  refine g_put hG (j := 19) [.ref q1, .ref q2, .ref q3, .ref q4, .ref q5, .ref q6, .ref q7, .ref q8, .ref q9, .ref q10, .ref q11, .ref (ad12 1 0), .ref (ad13 9 0), .int 0, .int 0, .int 0, .int 0, .int 0, .int 0, .int 0] (dn_X6_init 76 (142, .putfield 79, 3) rfl rfl) (pc' := 145) rfl clf_6 (by decide) rfl rfl rfl rfl rfl wd_644 ?_
  have hAD : ∃ AD : Nat → Nat → Nat, AD = (fun k g => bif Nat.beq k 6 then h0 else bif Nat.beq k 29 then q1 else bif Nat.beq k 30 then q2 else bif Nat.beq k 31 then q3 else bif Nat.beq k 32 then q4 else bif Nat.beq k 33 then q5 else bif Nat.beq k 34 then q6 else bif Nat.beq k 35 then q7 else bif Nat.beq k 36 then q8 else bif Nat.beq k 37 then q9 else bif Nat.beq k 38 then q10 else bif Nat.beq k 39 then q11 else bif Nat.beq k 1 then ad12 1 0 else bif Nat.beq k 16 then ad12 16 0 else bif Nat.beq k 17 then ad12 17 0 else bif Nat.beq k 18 then ad12 18 0 else bif Nat.beq k 19 then ad12 19 0 else bif Nat.beq k 9 then ad13 9 0 else bif Nat.beq k 43 then ad13 43 0 else bif Nat.beq k 44 then ad13 44 0 else bif Nat.beq k 45 then ad13 45 0 else bif Nat.beq k 46 then ad13 46 0 else bif Nat.beq k 47 then ad13 47 0 else bif Nat.beq k 48 then ad13 48 0 else ad0 k g) := ⟨_, rfl⟩
  obtain ⟨AD, hAD⟩ := hAD
  have e_ad12 : WSC CX1 dA ad12 m0 = WSC CX1 dA AD m0 := by
    rw [hAD]
    exact (WSC_re (C := CX1) 0 [] (by decide +kernel) (List.forall_mem_cons.mpr ⟨rfl, (List.forall_mem_cons.mpr ⟨rfl, (List.forall_mem_cons.mpr ⟨rfl, (List.forall_mem_cons.mpr ⟨rfl, (List.forall_mem_cons.mpr ⟨rfl, (fun _ z => absurd z List.not_mem_nil)⟩)⟩)⟩)⟩)⟩) (fun _ z => absurd z List.not_mem_nil) (fun _ _ => rfl) (fun _ _ => rfl)).symm
  have e_ad13 : WSC CX9 dA ad13 m0 = WSC CX9 dA AD m0 := by
    rw [hAD]
    exact (WSC_re (C := CX9) 0 [] (by decide +kernel) (List.forall_mem_cons.mpr ⟨rfl, (List.forall_mem_cons.mpr ⟨rfl, (List.forall_mem_cons.mpr ⟨rfl, (List.forall_mem_cons.mpr ⟨rfl, (List.forall_mem_cons.mpr ⟨rfl, (List.forall_mem_cons.mpr ⟨rfl, (List.forall_mem_cons.mpr ⟨rfl, (fun _ z => absurd z List.not_mem_nil)⟩)⟩)⟩)⟩)⟩)⟩)⟩) (fun _ z => absurd z List.not_mem_nil) (fun _ _ => rfl) (fun _ _ => rfl)).symm
  refine g_eqw (w' := WSC CX6 dA AD m0) ?_ ?_
  · rw [e_ad12, e_ad13, hAD]
    exact rfl
  have hE : EXT AD (A1 h0 s.heap.size) s s.heap := by rw [hAD]; exact hG.2.2.2.2.2.2.2.1
  have h0e : h0 = AD 6 0 := by rw [hAD]; rfl
  have hR0 : 23 ≤ (rm_X6_init).cells ∧ 540 ≤ (rm_X6_init).slots := ⟨(Nat.le_of_ble_eq_true rfl), (Nat.le_of_ble_eq_true rfl)⟩
  refine g_tail (pcs := pc_X6_end) (ad := AD) (as := [vR 6 0]) hG vc_X6_end hE CHY_X6 (fun hC => ?_) m0_ok (fun v hv => by rw [List.mem_singleton.mp hv]; exact Or.inl List.mem_cons_self) rfl (by rw [h0e]; rfl)
  exact ⟨sc_aload_n hC (n := 0) (k := 0) (dc_X6_end 0 (145, .aload_n 0, 1) rfl rfl) rfl rfl,
    sc_callV hC (n := 1) (k := 6) (na := 0) (conC_X6_clear l CHY_X6) (dc_X6_end 1 (146, .invokevirtual 82, 3) rfl rfl) rfl wd_559 wd_155 (by decide) ⟨rfl, rfl, by decide, by decide⟩ hR0 wd_556 wd_557 wd_558 clf_6,
    g_tailret (mm := m0) (Z := fun _ => True) hG (n := 2) (dc_X6_end 2 (149, .return_, 1) rfl rfl) rfl rfl hrt hlk h0e trivial (fun r m' z => congrArg Prod.snd z), trivial⟩

end
