/-! PART 88: the class: a village -/

noncomputable section
def vgc (m : MM) : Int32 × MM := (if ¬ m.1 3 0 13 < 0 then m.1 3 0 12 else -1, m)
theorem vgc_2 (m : MM) : (vgc m).2 = m := rfl
def vgC1 (m : MM) (v s d : Nat) (w : Int32) : Int32 × MM := if ¬ abV m v (15 + 4 * s) = -1 ∨ ¬ abV m v (31 + 4 * d) = -1 then (-1, m) else vgc (mkM m v s d w)
theorem SM3_c1 (m : MM) (v s d : Nat) (w : Int32) : SM3 m (vgC1 m v s d w).2 := by
  unfold vgC1
  have z := SM3_mk m v s d w
  revert z
  generalize mkM m v s d w = M
  intro z
  split
  · exact SM3_r m
  · exact z

--tpl ⟨_, _, _, _, {2N}, {3N}, _, by assumption, by assumption, by omega, by omega, rfl⟩ || (vgC1 {m} {g1} {2n} {3n} {4}).1 || (vgC1 {m} {g1} {2n} {3n} {4}).2
def Pre_X8_costOf : PreT := fun m as => ∃ (v ns nm nt s d : Nat) (w : Int32), VC2 m v ns nm nt ∧ NDo m v ∧ s < 4 ∧ d < 4 ∧ as = [vR 8 0, vR 6 v, vI (nI s), vI (nI d), vI w]
def Fn_X8_costOf : FnT := fun m as => match as with
  | [_, Sum.inr (Sum.inr q), Sum.inl s, Sum.inl d, Sum.inl w] => (some (vI (vgC1 m q.2 s.toNatClampNeg d.toNatClampNeg w).1), (vgC1 m q.2 s.toNatClampNeg d.toNatClampNeg w).2)
  | _ => (none, m)
abbrev y_X8_costOf : MethodName := ⟨"GivenUp$Village", "costOf", "(LGivenUp$Valley;III)I"⟩
def P_X8_costOf : List StpT := [s_aload 1, s_iload 2, s_callV 6 1 Pre_X6_isWed Fn_X6_isWed, s_ifne 8, s_aload 1, s_iload 3, s_callV 6 1 Pre_X6_isTaken Fn_X6_isTaken, s_ifeq 10, s_ic (-1), s_iret, s_aload 0, s_getC 8 0 3 0, s_aload 1, s_iload 2, s_iload 3, s_iload 4, s_callV 3 4 Pre_X3_make Fn_X3_make, s_aload 0, s_getC 8 0 3 0, s_callV 3 0 Pre_X3_isFound Fn_X3_isFound, s_ifeq 25, s_aload 0, s_getC 8 0 3 0, s_getI 3 12, s_goto 26, s_ic (-1), s_iret]
def pc_X8_costOf : Nat → Nat := fun i => [0, 1, 2, 5, 8, 9, 10, 13, 16, 17, 18, 19, 22, 23, 24, 25, 27, 30, 31, 34, 37, 40, 41, 44, 47, 50, 51].getD i 0
def dl_X8_costOf : List (Nat × Instr × Nat) := [(0, .aload_n 1, 1), (1, .iload_n 2, 1), (2, .invokevirtual 48, 3), (5, .ifCond .ne 11, 3), (8, .aload_n 1, 1), (9, .iload_n 3, 1), (10, .invokevirtual 52, 3), (13, .ifCond .eq 5, 3), (16, .iconst (-1), 1), (17, .ireturn, 1), (18, .aload_n 0, 1), (19, .getfield 28, 3), (22, .aload_n 1, 1), (23, .iload_n 2, 1), (24, .iload_n 3, 1), (25, .iload 4, 2), (27, .invokevirtual 55, 3), (30, .aload_n 0, 1), (31, .getfield 28, 3), (34, .invokevirtual 61, 3), (37, .ifCond .eq 13, 3), (40, .aload_n 0, 1), (41, .getfield 28, 3), (44, .getfield 65, 3), (47, .goto 4, 3), (50, .iconst (-1), 1), (51, .ireturn, 1)]
theorem dc_X8_costOf : DEC prog_10_method_3_code pc_X8_costOf dl_X8_costOf := DEC_of (by decide +kernel)
abbrev rm_X8_costOf : Room := { frames := 17, cells := 0, slots := 0, locals := 436 }
set_option maxRecDepth 20000 in
theorem sa_X8_costOf (l : Launch) : SNDALL l prog_10_method_3_code "GivenUp$Village" 5 (some .int) rm_X8_costOf P_X8_costOf pc_X8_costOf := fun p e s m args below meth c cells slots Q D dA ad A RR hC hR => by
  have hM := RTX_room (R := rm_X8_costOf) hR
  exact ⟨st_aload_n hC (n := 0) (k := 1) (dc_X8_costOf 0 (0, .aload_n 1, 1) rfl rfl) rfl rfl,
    st_iload_n hC (n := 1) (k := 2) (dc_X8_costOf 1 (1, .iload_n 2, 1) rfl rfl) rfl rfl,
    st_callV hC (n := 2) (k := 6) (na := 1) (con_X6_isWed l) (dc_X8_costOf 2 (2, .invokevirtual 48, 3) rfl rfl) rfl wd_1023 wd_155 (by decide) ⟨rfl, rfl, by decide, by decide⟩ hM wd_1350 wd_1021 wd_1022 clf_6,
    st_ifne hC (n := 3) (dc_X8_costOf 3 (5, .ifCond .ne 11, 3) rfl rfl) rfl (by decide),
    st_aload_n hC (n := 4) (k := 1) (dc_X8_costOf 4 (8, .aload_n 1, 1) rfl rfl) rfl rfl,
    st_iload_n hC (n := 5) (k := 3) (dc_X8_costOf 5 (9, .iload_n 3, 1) rfl rfl) rfl rfl,
    st_callV hC (n := 6) (k := 6) (na := 1) (con_X6_isTaken l) (dc_X8_costOf 6 (10, .invokevirtual 52, 3) rfl rfl) rfl wd_1159 wd_155 (by decide) ⟨rfl, rfl, by decide, by decide⟩ hM wd_1351 wd_1157 wd_1158 clf_6,
    st_ifeq hC (n := 7) (dc_X8_costOf 7 (13, .ifCond .eq 5, 3) rfl rfl) rfl (by decide),
    st_iconst hC (n := 8) (x := (-1)) (dc_X8_costOf 8 (16, .iconst (-1), 1) rfl rfl) rfl (by decide),
    st_iret hC (n := 9) hR (dc_X8_costOf 9 (17, .ireturn, 1) rfl rfl),
    st_aload_n hC (n := 10) (k := 0) (dc_X8_costOf 10 (18, .aload_n 0, 1) rfl rfl) rfl rfl,
    st_getC hC (n := 11) (k := 8) (j := 0) (dc_X8_costOf 11 (19, .getfield 28, 3) rfl rfl) rfl clf_8 (by decide) rfl (by decide) wd_376,
    st_aload_n hC (n := 12) (k := 1) (dc_X8_costOf 12 (22, .aload_n 1, 1) rfl rfl) rfl rfl,
    st_iload_n hC (n := 13) (k := 2) (dc_X8_costOf 13 (23, .iload_n 2, 1) rfl rfl) rfl rfl,
    st_iload_n hC (n := 14) (k := 3) (dc_X8_costOf 14 (24, .iload_n 3, 1) rfl rfl) rfl rfl,
    st_iload hC (n := 15) (dc_X8_costOf 15 (25, .iload 4, 2) rfl rfl) rfl,
    st_callV hC (n := 16) (k := 3) (na := 4) (con_X3_make l) (dc_X8_costOf 16 (27, .invokevirtual 55, 3) rfl rfl) rfl wd_1277 wd_151 (by decide) ⟨rfl, rfl, by decide, by decide⟩ hM wd_1352 wd_1275 wd_1276 clf_3,
    st_aload_n hC (n := 17) (k := 0) (dc_X8_costOf 17 (30, .aload_n 0, 1) rfl rfl) rfl rfl,
    st_getC hC (n := 18) (k := 8) (j := 0) (dc_X8_costOf 18 (31, .getfield 28, 3) rfl rfl) rfl clf_8 (by decide) rfl (by decide) wd_376,
    st_callV hC (n := 19) (k := 3) (na := 0) (con_X3_isFound l) (dc_X8_costOf 19 (34, .invokevirtual 61, 3) rfl rfl) rfl wd_1305 wd_151 (by decide) ⟨rfl, rfl, by decide, by decide⟩ hM wd_1353 wd_1303 wd_1304 clf_3,
    st_ifeq hC (n := 20) (dc_X8_costOf 20 (37, .ifCond .eq 13, 3) rfl rfl) rfl (by decide),
    st_aload_n hC (n := 21) (k := 0) (dc_X8_costOf 21 (40, .aload_n 0, 1) rfl rfl) rfl rfl,
    st_getC hC (n := 22) (k := 8) (j := 0) (dc_X8_costOf 22 (41, .getfield 28, 3) rfl rfl) rfl clf_8 (by decide) rfl (by decide) wd_376,
    st_getI hC (n := 23) (k := 3) (j := 12) (dc_X8_costOf 23 (44, .getfield 65, 3) rfl rfl) rfl clf_3 (by decide) rfl wd_325,
    st_goto hC (n := 24) (dc_X8_costOf 24 (47, .goto 4, 3) rfl rfl) (by decide),
    st_iconst hC (n := 25) (x := (-1)) (dc_X8_costOf 25 (50, .iconst (-1), 1) rfl rfl) rfl (by decide),
    st_iret hC (n := 26) hR (dc_X8_costOf 26 (51, .ireturn, 1) rfl rfl), trivial⟩
set_option maxRecDepth 8000 in
theorem vc_X8_costOf : VC P_X8_costOf 5 Pre_X8_costOf Fn_X8_costOf := by
  rintro mm as hom hoa ⟨v, ns, nm, nt, s, d, w, hV, hN, hs, hd, rfl⟩
  refine ⟨Nat.le_of_ble_eq_true rfl, fun X h => ?_⟩
  have es : (nI s).toNatClampNeg = s := nI_clamp (by omega)
  have ed : (nI d).toNatClampNeg = d := nI_clamp (by omega)
  replace h : RUN P_X8_costOf (RI (vgC1 mm v (nI s).toNatClampNeg (nI d).toNatClampNeg w)) X := h
  rw [es, ed] at h
  obtain ⟨p, hp⟩ : ∃ p, p = vgC1 mm v s d w := ⟨_, rfl⟩
  rw [← hp] at h
  unfold vgC1 at hp
  obtain ⟨K, eK⟩ : ∃ K, K = mkM mm v s d w := ⟨_, rfl⟩
  rw [← eK] at hp
  have s17 : ∀ M, p = vgc M → X 17 [some (vR 8 0), some (vR 6 v), some (vI (nI s)), some (vI (nI d)), some (vI (w))] [] (M) := by
    intro M hp
    unfold vgc at hp
    show X 17 [some (vR 8 0), some (vR 6 v), some (vI (nI s)), some (vI (nI d)), some (vI w)] [] M
    refine h (fun _ => false) 3000 17 _ _ _ ?_
    refine And.intro (show Pre_X3_isFound M [vR 3 0] from rfl) ?_
    refine br_c (fun b20 => ?_) (fun b20 => ?_)
    · -- 20: bI (¬ M.1 3 0 13 < 0) = 0 taken
      replace b20 : ¬ (¬ M.1 3 0 13 < 0) := bI_0.mp b20
      show ((some (vI (-1)) : Option MV), M) = _
      exact pI_q (by rw [hp, if_neg b20])
    · -- 20: bI (¬ M.1 3 0 13 < 0) = 0 on
      replace b20 : ¬ M.1 3 0 13 < 0 := bI_n0.mp b20
      show ((some (vI (M.1 3 0 12)) : Option MV), M) = _
      exact pI_q (by rw [hp, if_pos b20])
  show X 0 [some (vR 8 0), some (vR 6 v), some (vI (nI s)), some (vI (nI d)), some (vI w)] [] mm
  refine h (fun i => Nat.beq i 17) 3000 0 _ _ _ ?_
  refine And.intro (show Pre_X6_isWed mm [vR 6 v, vI (nI s)] from ⟨v, ns, nm, nt, s, hV, hs, rfl⟩) ?_
  refine brn_c (fun b3 => ?_) (fun b3 => ?_)
  · -- 3: bI (¬ abV mm v (15 + 4 * (nI s).toNatClampNeg) = -1) = 0 taken
    replace b3 : ¬ abV mm v (15 + 4 * (nI s).toNatClampNeg) = -1 := bI_n0.mp b3
    (try simp only [es, ed] at b3)
    show ((some (vI (-1)) : Option MV), mm) = _
    (try simp only [es, ed])
    exact pI_q (by rw [hp, if_pos (Or.inl b3)])
  · -- 3: bI (¬ abV mm v (15 + 4 * (nI s).toNatClampNeg) = -1) = 0 on
    replace b3 : ¬ (¬ abV mm v (15 + 4 * (nI s).toNatClampNeg) = -1) := bI_0.mp b3
    (try simp only [es, ed] at b3)
    refine And.intro (show Pre_X6_isTaken mm [vR 6 v, vI (nI d)] from ⟨v, ns, nm, nt, d, hV, hd, rfl⟩) ?_
    refine br_c (fun b7 => ?_) (fun b7 => ?_)
    · -- 7: bI (¬ abV mm v (31 + 4 * (nI d).toNatClampNeg) = -1) = 0 taken
      replace b7 : ¬ (¬ abV mm v (31 + 4 * (nI d).toNatClampNeg) = -1) := bI_0.mp b7
      (try simp only [es, ed] at b7)
      refine And.intro (show Pre_X3_make mm [vR 3 0, vR 6 v, vI (nI s), vI (nI d), vI w] from ⟨v, ns, nm, nt, s, d, w, hV, hN, hs, hd, rfl⟩) ?_
      show X 17 [some (vR 8 0), some (vR 6 v), some (vI (nI s)), some (vI (nI d)), some (vI w)] [] (mkM mm v (nI s).toNatClampNeg (nI d).toNatClampNeg w)
      (try simp only [es, ed])
      rw [if_neg (fun z => z.elim b3 b7)] at hp
      rw [← eK] 
      exact s17 _ hp
    · -- 7: bI (¬ abV mm v (31 + 4 * (nI d).toNatClampNeg) = -1) = 0 on
      replace b7 : ¬ abV mm v (31 + 4 * (nI d).toNatClampNeg) = -1 := bI_n0.mp b7
      (try simp only [es, ed] at b7)
      show ((some (vI (-1)) : Option MV), mm) = _
      (try simp only [es, ed])
      exact pI_q (by rw [hp, if_pos (Or.inr b7)])
theorem con_X8_costOf (l : Launch) : CON l y_X8_costOf prog_10_method_3_code 5 (some .int) rm_X8_costOf Pre_X8_costOf Fn_X8_costOf := CON_of (by decide) rfl rfl (sa_X8_costOf l) vc_X8_costOf
def vgC (m : MM) : MM := mRow m 42 0 (va_cpy (m.1 41 0) (m.1 42 0) 0 0 4)
def vgZ (m : MM) (T : Nat) (su : Int32) : MM := if m.1 8 0 4 < nI (pcN T) ∨ (nI (pcN T) = m.1 8 0 4 ∧ su < m.1 8 0 5) then vgC (mI (mI m 8 0 4 (nI (pcN T))) 8 0 5 su) else m
def vgT (m : MM) (s : Nat) : MM := mRow m 41 0 (upd (m.1 41 0) s (-1))
def vgU (m : MM) (s k : Nat) : MM := mRow m 41 0 (upd (m.1 41 0) s (nI k))
def vgW (nm : Nat) : Nat → Nat → Nat → Int32 → MM → MM
  | 0, _, T, su, m => vgZ m T su
  | s + 1, r, T, su, m => if r % (nm + 1) < nm then (if T.testBit (r % (nm + 1)) = true ∨ (vgT m s).1 40 0 (4 * s + r % (nm + 1)) < 0 then vgT m s else vgW nm s (r / (nm + 1)) (T ||| 2 ^ (r % (nm + 1))) (su + (vgT m s).1 40 0 (4 * s + r % (nm + 1))) (vgU (vgT m s) s (r % (nm + 1)))) else vgW nm s (r / (nm + 1)) T su (vgT m s)
theorem or_bit {T k : Nat} (hk : k < 31) : nI T ||| 1 <<< (nI k &&& 31) = nI (T ||| 2 ^ k) := by
  have z := st_or (x := nI T) (v := T) (n := k) True rfl hk
  rw [if_pos trivial, if_pos trivial] at z
  exact z
theorem or_lt16 {T k : Nat} (hT : T < 16) (hk : k < 4) : T ||| 2 ^ k < 16 := Nat.or_lt_two_pow (n := 4) hT (Nat.pow_lt_pow_right (by omega) hk)

--tpl ⟨_, _, _, {2N}, by assumption, by omega, by assumption, by omega, by omega, rfl⟩ ||  || vgW ({r 1 6 {g1} 14}).toNatClampNeg ({r 1 6 {g1} 13}).toNatClampNeg {2n} 0 0 {m}
def Pre_X8_weighWay : PreT := fun m as => ∃ v ns nm r : Nat, m.1 6 v 13 = nI ns ∧ ns ≤ 4 ∧ m.1 6 v 14 = nI nm ∧ nm ≤ 4 ∧ r < 2 ^ 20 ∧ as = [vR 8 0, vR 6 v, vI (nI r)]
def Fn_X8_weighWay : FnT := fun m as => match as with
  | [_, Sum.inr (Sum.inr q), Sum.inl r] => (none, vgW (m.1 6 q.2 14).toNatClampNeg (m.1 6 q.2 13).toNatClampNeg r.toNatClampNeg 0 0 m)
  | _ => (none, m)
abbrev y_X8_weighWay : MethodName := ⟨"GivenUp$Village", "weighWay", "(LGivenUp$Valley;I)V"⟩
def P_X8_weighWay : List StpT := [s_aload 1, s_getI 6 14, s_ic (1), s_iadd, s_istore 3, s_iload 2, s_istore 4, s_ic (0), s_istore 5, s_ic (0), s_istore 6, s_aload 1, s_getI 6 13, s_ic (1), s_isub, s_istore 7, s_iload 7, s_iflt 81, s_iload 3, s_ifle 24, s_iload 4, s_iload 3, s_irem, s_goto 25, s_ic (0), s_istore 8, s_iload 3, s_ifle 32, s_iload 4, s_iload 3, s_idiv, s_goto 33, s_ic (0), s_istore 4, s_aload 0, s_getR 8 2 41, s_iload 7, s_ic (-1), s_iast, s_iload 8, s_aload 1, s_getI 6 14, s_icge 79, s_iload 5, s_iload 8, s_callS 2 Pre_X11_holds Fn_X11_holds, s_ifne 56, s_aload 0, s_getR 8 1 40, s_iload 7, s_ic (4), s_imul, s_iload 8, s_iadd, s_iald, s_ifge 57, s_vret, s_aload 0, s_getR 8 2 41, s_iload 7, s_iload 8, s_iast, s_iload 5, s_ic (1), s_iload 8, s_ishl, s_ior, s_istore 5, s_iload 6, s_aload 0, s_getR 8 1 40, s_iload 7, s_ic (4), s_imul, s_iload 8, s_iadd, s_iald, s_iadd, s_istore 6, s_iinc 7 (-1), s_goto 16, s_iload 5, s_callS 1 Pre_J6_bitCount_0f7a4 Fn_J6_bitCount_0f7a4, s_istore 7, s_iload 7, s_aload 0, s_getI 8 4, s_icgt 96, s_iload 7, s_aload 0, s_getI 8 4, s_icne 110, s_iload 6, s_aload 0, s_getI 8 5, s_icge 110, s_aload 0, s_iload 7, s_putI 8 4, s_aload 0, s_iload 6, s_putI 8 5, s_aload 0, s_getR 8 2 41, s_ic (0), s_aload 0, s_getR 8 3 42, s_ic (0), s_ic (4), s_acI, s_vret]
def pc_X8_weighWay : Nat → Nat := fun i => [0, 1, 4, 5, 6, 7, 8, 10, 11, 13, 14, 16, 17, 20, 21, 22, 24, 26, 29, 30, 33, 35, 36, 37, 40, 41, 43, 44, 47, 49, 50, 51, 54, 55, 57, 58, 61, 63, 64, 65, 67, 68, 71, 74, 76, 78, 81, 84, 85, 88, 90, 91, 92, 94, 95, 96, 99, 100, 101, 104, 106, 108, 109, 111, 112, 114, 115, 116, 118, 120, 121, 124, 126, 127, 128, 130, 131, 132, 133, 135, 138, 141, 143, 146, 148, 150, 151, 154, 157, 159, 160, 163, 166, 168, 169, 172, 175, 176, 178, 181, 182, 184, 187, 188, 191, 192, 193, 196, 197, 198, 201].getD i 0
def dl_X8_weighWay : List (Nat × Instr × Nat) := [(0, .aload_n 1, 1), (1, .getfield 37, 3), (4, .iconst 1, 1), (5, .iadd, 1), (6, .istore_n 3, 1), (7, .iload_n 2, 1), (8, .istore 4, 2), (10, .iconst 0, 1), (11, .istore 5, 2), (13, .iconst 0, 1), (14, .istore 6, 2), (16, .aload_n 1, 1), (17, .getfield 32, 3), (20, .iconst 1, 1), (21, .isub, 1), (22, .istore 7, 2), (24, .iload 7, 2), (26, .ifCond .lt 115, 3), (29, .iload_n 3, 1), (30, .ifCond .le 10, 3), (33, .iload 4, 2), (35, .iload_n 3, 1), (36, .irem, 1), (37, .goto 4, 3), (40, .iconst 0, 1), (41, .istore 8, 2), (43, .iload_n 3, 1), (44, .ifCond .le 10, 3), (47, .iload 4, 2), (49, .iload_n 3, 1), (50, .idiv, 1), (51, .goto 4, 3), (54, .iconst 0, 1), (55, .istore 4, 2), (57, .aload_n 0, 1), (58, .getfield 15, 3), (61, .iload 7, 2), (63, .iconst (-1), 1), (64, .iastore, 1), (65, .iload 8, 2), (67, .aload_n 1, 1), (68, .getfield 37, 3), (71, .if_icmp .ge 64, 3), (74, .iload 5, 2), (76, .iload 8, 2), (78, .invokestatic 68, 3), (81, .ifCond .ne 18, 3), (84, .aload_n 0, 1), (85, .getfield 9, 3), (88, .iload 7, 2), (90, .iconst 4, 1), (91, .imul, 1), (92, .iload 8, 2), (94, .iadd, 1), (95, .iaload, 1), (96, .ifCond .ge 4, 3), (99, .return_, 1), (100, .aload_n 0, 1), (101, .getfield 15, 3), (104, .iload 7, 2), (106, .iload 8, 2), (108, .iastore, 1), (109, .iload 5, 2), (111, .iconst 1, 1), (112, .iload 8, 2), (114, .ishl, 1), (115, .ior, 1), (116, .istore 5, 2), (118, .iload 6, 2), (120, .aload_n 0, 1), (121, .getfield 9, 3), (124, .iload 7, 2), (126, .iconst 4, 1), (127, .imul, 1), (128, .iload 8, 2), (130, .iadd, 1), (131, .iaload, 1), (132, .iadd, 1), (133, .istore 6, 2), (135, .iinc 7 (-1), 3), (138, .goto (-114), 3), (141, .iload 5, 2), (143, .invokestatic 72, 3), (146, .istore 7, 2), (148, .iload 7, 2), (150, .aload_n 0, 1), (151, .getfield 21, 3), (154, .if_icmp .gt 21, 3), (157, .iload 7, 2), (159, .aload_n 0, 1), (160, .getfield 21, 3), (163, .if_icmp .ne 38, 3), (166, .iload 6, 2), (168, .aload_n 0, 1), (169, .getfield 25, 3), (172, .if_icmp .ge 29, 3), (175, .aload_n 0, 1), (176, .iload 7, 2), (178, .putfield 21, 3), (181, .aload_n 0, 1), (182, .iload 6, 2), (184, .putfield 25, 3), (187, .aload_n 0, 1), (188, .getfield 15, 3), (191, .iconst 0, 1), (192, .aload_n 0, 1), (193, .getfield 18, 3), (196, .iconst 0, 1), (197, .iconst 4, 1), (198, .invokestatic 78, 3), (201, .return_, 1)]
theorem dc_X8_weighWay : DEC prog_10_method_4_code pc_X8_weighWay dl_X8_weighWay := DEC_of (by decide +kernel)
abbrev rm_X8_weighWay : Room := { frames := 1, cells := 0, slots := 0, locals := 26 }
set_option maxRecDepth 20000 in
theorem sa_X8_weighWay (l : Launch) : SNDALL l prog_10_method_4_code "GivenUp$Village" 9 none rm_X8_weighWay P_X8_weighWay pc_X8_weighWay := fun p e s m args below meth c cells slots Q D dA ad A RR hC hR => by
  have hM := RTX_room (R := rm_X8_weighWay) hR
  exact ⟨st_aload_n hC (n := 0) (k := 1) (dc_X8_weighWay 0 (0, .aload_n 1, 1) rfl rfl) rfl rfl,
    st_getI hC (n := 1) (k := 6) (j := 14) (dc_X8_weighWay 1 (1, .getfield 37, 3) rfl rfl) rfl clf_6 (by decide) rfl wd_624,
    st_iconst hC (n := 2) (x := 1) (dc_X8_weighWay 2 (4, .iconst 1, 1) rfl rfl) rfl (by decide),
    st_iadd hC (n := 3) (dc_X8_weighWay 3 (5, .iadd, 1) rfl rfl) rfl,
    st_istore_n hC (n := 4) (k := 3) (dc_X8_weighWay 4 (6, .istore_n 3, 1) rfl rfl) rfl rfl (by decide),
    st_iload_n hC (n := 5) (k := 2) (dc_X8_weighWay 5 (7, .iload_n 2, 1) rfl rfl) rfl rfl,
    st_istore hC (n := 6) (dc_X8_weighWay 6 (8, .istore 4, 2) rfl rfl) rfl (by decide),
    st_iconst hC (n := 7) (x := 0) (dc_X8_weighWay 7 (10, .iconst 0, 1) rfl rfl) rfl (by decide),
    st_istore hC (n := 8) (dc_X8_weighWay 8 (11, .istore 5, 2) rfl rfl) rfl (by decide),
    st_iconst hC (n := 9) (x := 0) (dc_X8_weighWay 9 (13, .iconst 0, 1) rfl rfl) rfl (by decide),
    st_istore hC (n := 10) (dc_X8_weighWay 10 (14, .istore 6, 2) rfl rfl) rfl (by decide),
    st_aload_n hC (n := 11) (k := 1) (dc_X8_weighWay 11 (16, .aload_n 1, 1) rfl rfl) rfl rfl,
    st_getI hC (n := 12) (k := 6) (j := 13) (dc_X8_weighWay 12 (17, .getfield 32, 3) rfl rfl) rfl clf_6 (by decide) rfl wd_618,
    st_iconst hC (n := 13) (x := 1) (dc_X8_weighWay 13 (20, .iconst 1, 1) rfl rfl) rfl (by decide),
    st_isub hC (n := 14) (dc_X8_weighWay 14 (21, .isub, 1) rfl rfl) rfl,
    st_istore hC (n := 15) (dc_X8_weighWay 15 (22, .istore 7, 2) rfl rfl) rfl (by decide),
    st_iload hC (n := 16) (dc_X8_weighWay 16 (24, .iload 7, 2) rfl rfl) rfl,
    st_iflt hC (n := 17) (dc_X8_weighWay 17 (26, .ifCond .lt 115, 3) rfl rfl) rfl (by decide),
    st_iload_n hC (n := 18) (k := 3) (dc_X8_weighWay 18 (29, .iload_n 3, 1) rfl rfl) rfl rfl,
    st_ifle hC (n := 19) (dc_X8_weighWay 19 (30, .ifCond .le 10, 3) rfl rfl) rfl (by decide),
    st_iload hC (n := 20) (dc_X8_weighWay 20 (33, .iload 4, 2) rfl rfl) rfl,
    st_iload_n hC (n := 21) (k := 3) (dc_X8_weighWay 21 (35, .iload_n 3, 1) rfl rfl) rfl rfl,
    st_irem hC (n := 22) (dc_X8_weighWay 22 (36, .irem, 1) rfl rfl) rfl,
    st_goto hC (n := 23) (dc_X8_weighWay 23 (37, .goto 4, 3) rfl rfl) (by decide),
    st_iconst hC (n := 24) (x := 0) (dc_X8_weighWay 24 (40, .iconst 0, 1) rfl rfl) rfl (by decide),
    st_istore hC (n := 25) (dc_X8_weighWay 25 (41, .istore 8, 2) rfl rfl) rfl (by decide),
    st_iload_n hC (n := 26) (k := 3) (dc_X8_weighWay 26 (43, .iload_n 3, 1) rfl rfl) rfl rfl,
    st_ifle hC (n := 27) (dc_X8_weighWay 27 (44, .ifCond .le 10, 3) rfl rfl) rfl (by decide),
    st_iload hC (n := 28) (dc_X8_weighWay 28 (47, .iload 4, 2) rfl rfl) rfl,
    st_iload_n hC (n := 29) (k := 3) (dc_X8_weighWay 29 (49, .iload_n 3, 1) rfl rfl) rfl rfl,
    st_idiv hC (n := 30) (dc_X8_weighWay 30 (50, .idiv, 1) rfl rfl) rfl,
    st_goto hC (n := 31) (dc_X8_weighWay 31 (51, .goto 4, 3) rfl rfl) (by decide),
    st_iconst hC (n := 32) (x := 0) (dc_X8_weighWay 32 (54, .iconst 0, 1) rfl rfl) rfl (by decide),
    st_istore hC (n := 33) (dc_X8_weighWay 33 (55, .istore 4, 2) rfl rfl) rfl (by decide),
    st_aload_n hC (n := 34) (k := 0) (dc_X8_weighWay 34 (57, .aload_n 0, 1) rfl rfl) rfl rfl,
    st_getR hC (n := 35) (k := 8) (j := 2) (dc_X8_weighWay 35 (58, .getfield 15, 3) rfl rfl) rfl clf_8 (by decide) rfl (by decide) wd_378,
    st_iload hC (n := 36) (dc_X8_weighWay 36 (61, .iload 7, 2) rfl rfl) rfl,
    st_iconst hC (n := 37) (x := (-1)) (dc_X8_weighWay 37 (63, .iconst (-1), 1) rfl rfl) rfl (by decide),
    st_iast hC (n := 38) (dc_X8_weighWay 38 (64, .iastore, 1) rfl rfl) rfl,
    st_iload hC (n := 39) (dc_X8_weighWay 39 (65, .iload 8, 2) rfl rfl) rfl,
    st_aload_n hC (n := 40) (k := 1) (dc_X8_weighWay 40 (67, .aload_n 1, 1) rfl rfl) rfl rfl,
    st_getI hC (n := 41) (k := 6) (j := 14) (dc_X8_weighWay 41 (68, .getfield 37, 3) rfl rfl) rfl clf_6 (by decide) rfl wd_624,
    st_icge hC (n := 42) (dc_X8_weighWay 42 (71, .if_icmp .ge 64, 3) rfl rfl) rfl (by decide),
    st_iload hC (n := 43) (dc_X8_weighWay 43 (74, .iload 5, 2) rfl rfl) rfl,
    st_iload hC (n := 44) (dc_X8_weighWay 44 (76, .iload 8, 2) rfl rfl) rfl,
    st_callSN hC (n := 45) (na := 2) (con_X11_holds l) (dc_X8_weighWay 45 (78, .invokestatic 68, 3) rfl rfl) rfl wd_955 wd_143 (by decide) ⟨rfl, rfl, by decide, by decide⟩ hM ⟨"GivenUp", by decide⟩ wd_954,
    st_ifne hC (n := 46) (dc_X8_weighWay 46 (81, .ifCond .ne 18, 3) rfl rfl) rfl (by decide),
    st_aload_n hC (n := 47) (k := 0) (dc_X8_weighWay 47 (84, .aload_n 0, 1) rfl rfl) rfl rfl,
    st_getR hC (n := 48) (k := 8) (j := 1) (dc_X8_weighWay 48 (85, .getfield 9, 3) rfl rfl) rfl clf_8 (by decide) rfl (by decide) wd_377,
    st_iload hC (n := 49) (dc_X8_weighWay 49 (88, .iload 7, 2) rfl rfl) rfl,
    st_iconst hC (n := 50) (x := 4) (dc_X8_weighWay 50 (90, .iconst 4, 1) rfl rfl) rfl (by decide),
    st_imul hC (n := 51) (dc_X8_weighWay 51 (91, .imul, 1) rfl rfl) rfl,
    st_iload hC (n := 52) (dc_X8_weighWay 52 (92, .iload 8, 2) rfl rfl) rfl,
    st_iadd hC (n := 53) (dc_X8_weighWay 53 (94, .iadd, 1) rfl rfl) rfl,
    st_iald hC (n := 54) (dc_X8_weighWay 54 (95, .iaload, 1) rfl rfl) rfl,
    st_ifge hC (n := 55) (dc_X8_weighWay 55 (96, .ifCond .ge 4, 3) rfl rfl) rfl (by decide),
    st_vret hC (n := 56) hR (dc_X8_weighWay 56 (99, .return_, 1) rfl rfl),
    st_aload_n hC (n := 57) (k := 0) (dc_X8_weighWay 57 (100, .aload_n 0, 1) rfl rfl) rfl rfl,
    st_getR hC (n := 58) (k := 8) (j := 2) (dc_X8_weighWay 58 (101, .getfield 15, 3) rfl rfl) rfl clf_8 (by decide) rfl (by decide) wd_378,
    st_iload hC (n := 59) (dc_X8_weighWay 59 (104, .iload 7, 2) rfl rfl) rfl,
    st_iload hC (n := 60) (dc_X8_weighWay 60 (106, .iload 8, 2) rfl rfl) rfl,
    st_iast hC (n := 61) (dc_X8_weighWay 61 (108, .iastore, 1) rfl rfl) rfl,
    st_iload hC (n := 62) (dc_X8_weighWay 62 (109, .iload 5, 2) rfl rfl) rfl,
    st_iconst hC (n := 63) (x := 1) (dc_X8_weighWay 63 (111, .iconst 1, 1) rfl rfl) rfl (by decide),
    st_iload hC (n := 64) (dc_X8_weighWay 64 (112, .iload 8, 2) rfl rfl) rfl,
    st_ishl hC (n := 65) (dc_X8_weighWay 65 (114, .ishl, 1) rfl rfl) rfl,
    st_ior hC (n := 66) (dc_X8_weighWay 66 (115, .ior, 1) rfl rfl) rfl,
    st_istore hC (n := 67) (dc_X8_weighWay 67 (116, .istore 5, 2) rfl rfl) rfl (by decide),
    st_iload hC (n := 68) (dc_X8_weighWay 68 (118, .iload 6, 2) rfl rfl) rfl,
    st_aload_n hC (n := 69) (k := 0) (dc_X8_weighWay 69 (120, .aload_n 0, 1) rfl rfl) rfl rfl,
    st_getR hC (n := 70) (k := 8) (j := 1) (dc_X8_weighWay 70 (121, .getfield 9, 3) rfl rfl) rfl clf_8 (by decide) rfl (by decide) wd_377,
    st_iload hC (n := 71) (dc_X8_weighWay 71 (124, .iload 7, 2) rfl rfl) rfl,
    st_iconst hC (n := 72) (x := 4) (dc_X8_weighWay 72 (126, .iconst 4, 1) rfl rfl) rfl (by decide),
    st_imul hC (n := 73) (dc_X8_weighWay 73 (127, .imul, 1) rfl rfl) rfl,
    st_iload hC (n := 74) (dc_X8_weighWay 74 (128, .iload 8, 2) rfl rfl) rfl,
    st_iadd hC (n := 75) (dc_X8_weighWay 75 (130, .iadd, 1) rfl rfl) rfl,
    st_iald hC (n := 76) (dc_X8_weighWay 76 (131, .iaload, 1) rfl rfl) rfl,
    st_iadd hC (n := 77) (dc_X8_weighWay 77 (132, .iadd, 1) rfl rfl) rfl,
    st_istore hC (n := 78) (dc_X8_weighWay 78 (133, .istore 6, 2) rfl rfl) rfl (by decide),
    st_iinc hC (n := 79) (x := (-1)) (dc_X8_weighWay 79 (135, .iinc 7 (-1), 3) rfl rfl) rfl (by decide) (by decide),
    st_goto hC (n := 80) (dc_X8_weighWay 80 (138, .goto (-114), 3) rfl rfl) (by decide),
    st_iload hC (n := 81) (dc_X8_weighWay 81 (141, .iload 5, 2) rfl rfl) rfl,
    st_callS hC (n := 82) (na := 1) (con_J6_bitCount_0f7a4 l) (dc_X8_weighWay 82 (143, .invokestatic 72, 3) rfl rfl) rfl wd_1071 wd_163 (by decide) ⟨rfl, rfl, by decide, by decide⟩ hM wd_1359 wd_1070,
    st_istore hC (n := 83) (dc_X8_weighWay 83 (146, .istore 7, 2) rfl rfl) rfl (by decide),
    st_iload hC (n := 84) (dc_X8_weighWay 84 (148, .iload 7, 2) rfl rfl) rfl,
    st_aload_n hC (n := 85) (k := 0) (dc_X8_weighWay 85 (150, .aload_n 0, 1) rfl rfl) rfl rfl,
    st_getI hC (n := 86) (k := 8) (j := 4) (dc_X8_weighWay 86 (151, .getfield 21, 3) rfl rfl) rfl clf_8 (by decide) rfl wd_381,
    st_icgt hC (n := 87) (dc_X8_weighWay 87 (154, .if_icmp .gt 21, 3) rfl rfl) rfl (by decide),
    st_iload hC (n := 88) (dc_X8_weighWay 88 (157, .iload 7, 2) rfl rfl) rfl,
    st_aload_n hC (n := 89) (k := 0) (dc_X8_weighWay 89 (159, .aload_n 0, 1) rfl rfl) rfl rfl,
    st_getI hC (n := 90) (k := 8) (j := 4) (dc_X8_weighWay 90 (160, .getfield 21, 3) rfl rfl) rfl clf_8 (by decide) rfl wd_381,
    st_icne hC (n := 91) (dc_X8_weighWay 91 (163, .if_icmp .ne 38, 3) rfl rfl) rfl (by decide),
    st_iload hC (n := 92) (dc_X8_weighWay 92 (166, .iload 6, 2) rfl rfl) rfl,
    st_aload_n hC (n := 93) (k := 0) (dc_X8_weighWay 93 (168, .aload_n 0, 1) rfl rfl) rfl rfl,
    st_getI hC (n := 94) (k := 8) (j := 5) (dc_X8_weighWay 94 (169, .getfield 25, 3) rfl rfl) rfl clf_8 (by decide) rfl wd_383,
    st_icge hC (n := 95) (dc_X8_weighWay 95 (172, .if_icmp .ge 29, 3) rfl rfl) rfl (by decide),
    st_aload_n hC (n := 96) (k := 0) (dc_X8_weighWay 96 (175, .aload_n 0, 1) rfl rfl) rfl rfl,
    st_iload hC (n := 97) (dc_X8_weighWay 97 (176, .iload 7, 2) rfl rfl) rfl,
    st_putI hC (n := 98) (k := 8) (j := 4) (dc_X8_weighWay 98 (178, .putfield 21, 3) rfl rfl) rfl clf_8 (by decide) rfl rfl rfl wd_381,
    st_aload_n hC (n := 99) (k := 0) (dc_X8_weighWay 99 (181, .aload_n 0, 1) rfl rfl) rfl rfl,
    st_iload hC (n := 100) (dc_X8_weighWay 100 (182, .iload 6, 2) rfl rfl) rfl,
    st_putI hC (n := 101) (k := 8) (j := 5) (dc_X8_weighWay 101 (184, .putfield 25, 3) rfl rfl) rfl clf_8 (by decide) rfl rfl rfl wd_383,
    st_aload_n hC (n := 102) (k := 0) (dc_X8_weighWay 102 (187, .aload_n 0, 1) rfl rfl) rfl rfl,
    st_getR hC (n := 103) (k := 8) (j := 2) (dc_X8_weighWay 103 (188, .getfield 15, 3) rfl rfl) rfl clf_8 (by decide) rfl (by decide) wd_378,
    st_iconst hC (n := 104) (x := 0) (dc_X8_weighWay 104 (191, .iconst 0, 1) rfl rfl) rfl (by decide),
    st_aload_n hC (n := 105) (k := 0) (dc_X8_weighWay 105 (192, .aload_n 0, 1) rfl rfl) rfl rfl,
    st_getR hC (n := 106) (k := 8) (j := 3) (dc_X8_weighWay 106 (193, .getfield 18, 3) rfl rfl) rfl clf_8 (by decide) rfl (by decide) wd_379,
    st_iconst hC (n := 107) (x := 0) (dc_X8_weighWay 107 (196, .iconst 0, 1) rfl rfl) rfl (by decide),
    st_iconst hC (n := 108) (x := 4) (dc_X8_weighWay 108 (197, .iconst 4, 1) rfl rfl) rfl (by decide),
    st_acI hC (n := 109) (dc_X8_weighWay 109 (198, .invokestatic 78, 3) rfl rfl) rfl wd_1360 wd_831 wd_830 wd_161 (by decide) (by decide),
    st_vret hC (n := 110) hR (dc_X8_weighWay 110 (201, .return_, 1) rfl rfl), trivial⟩
set_option maxRecDepth 8000 in
theorem vc_X8_weighWay : VC P_X8_weighWay 9 Pre_X8_weighWay Fn_X8_weighWay := by
  rintro mm as hom hoa ⟨v, ns, nm, r, hS, hn4, hN, hm4, hr, rfl⟩
  refine ⟨Nat.le_of_ble_eq_true rfl, fun X h => ?_⟩
  have er : (nI r).toNatClampNeg = r := nI_clamp (by omega)
  have ens : (nI ns).toNatClampNeg = ns := nI_clamp (by omega)
  have enm : (nI nm).toNatClampNeg = nm := nI_clamp (by omega)
  replace h : RUN P_X8_weighWay (fun r' m' => (r', m') = (none, vgW (mm.1 6 v 14).toNatClampNeg (mm.1 6 v 13).toNatClampNeg (nI r).toNatClampNeg 0 0 mm)) X := h
  rw [hS, hN, er, ens, enm] at h
  obtain ⟨R, eR⟩ : ∃ R, R = vgW nm ns r 0 0 mm := ⟨_, rfl⟩
  rw [← eR] at h
  have base : nI nm + 1 = nI (nm + 1) := nI_1 nm
  have s81 : ∀ M T su rr, T < 16 → R = vgZ M T su → ∀ L7 L8, X 81 [some (vR 8 0), some (vR 6 v), some (vI (nI r)), some (vI (nI (nm + 1))), some (vI (rr)), some (vI (nI T)), some (vI (su)), L7, L8] [] (M) := by
    intro M T su rr hT hR L7 L8
    have eT : (nI T).toNatClampNeg = T := nI_clamp (by omega)
    unfold vgZ at hR
    have yes : (M.1 8 0 4 < nI (pcN T) ∨ (nI (pcN T) = M.1 8 0 4 ∧ su < M.1 8 0 5)) → ∀ L8, X 96 [some (vR 8 0), some (vR 6 v), some (vI (nI r)), some (vI (nI (nm + 1))), some (vI (rr)), some (vI (nI T)), some (vI (su)), some (vI (nI (pcN T))), L8] [] (M) := by
      intro c L8
      rw [if_pos c] at hR
      show X 96 [some (vR 8 0), some (vR 6 v), some (vI (nI r)), some (vI (nI (nm + 1))), some (vI rr), some (vI (nI T)), some (vI su), some (vI (nI (pcN T))), L8] [] M
      refine h (fun _ => false) 3000 96 _ _ _ ?_
      refine And.intro (by decide) ?_
      show ((none : Option MV), mRow (mI (mI M 8 0 4 (nI (pcN T))) 8 0 5 su) 42 0 (va_cpy (M.1 41 0) (M.1 42 0) 0 0 4)) = _
      rw [hR]
      rfl
    show X 81 [some (vR 8 0), some (vR 6 v), some (vI (nI r)), some (vI (nI (nm + 1))), some (vI rr), some (vI (nI T)), some (vI su), L7, L8] [] M
    refine h (fun i => Nat.beq i 96) 3000 81 _ _ _ ?_
    refine And.intro (show Pre_J6_bitCount_0f7a4 M [vI (nI T)] from ⟨T, by omega, rfl⟩) ?_
    refine br_c (fun b87 => ?_) (fun b87 => ?_)
    · -- 87: M.1 8 0 4 < nI (pcN (nI T).toNatClampNeg) taken
      replace b87 : M.1 8 0 4 < nI (pcN (nI T).toNatClampNeg) := b87
      (try simp only [eT] at b87)
      show X 96 [some (vR 8 0), some (vR 6 v), some (vI (nI r)), some (vI (nI (nm + 1))), some (vI rr), some (vI (nI T)), some (vI su), some (vI (nI (pcN (nI T).toNatClampNeg))), L8] [] M
      (try simp only [eT])
      exact yes (Or.inl b87) _
    · -- 87: M.1 8 0 4 < nI (pcN (nI T).toNatClampNeg) on
      replace b87 : ¬ (M.1 8 0 4 < nI (pcN (nI T).toNatClampNeg)) := b87
      (try simp only [eT] at b87)
      refine brn_c (fun b91 => ?_) (fun b91 => ?_)
      · -- 91: nI (pcN (nI T).toNatClampNeg) = M.1 8 0 4 taken
        replace b91 : ¬ (nI (pcN (nI T).toNatClampNeg) = M.1 8 0 4) := b91
        (try simp only [eT] at b91)
        show ((none : Option MV), M) = _
        (try simp only [eT])
        rw [hR, if_neg (fun z => z.elim b87 (fun y => b91 y.1))]
      · -- 91: nI (pcN (nI T).toNatClampNeg) = M.1 8 0 4 on
        replace b91 : nI (pcN (nI T).toNatClampNeg) = M.1 8 0 4 := b91
        (try simp only [eT] at b91)
        refine br_c (fun b95 => ?_) (fun b95 => ?_)
        · -- 95: M.1 8 0 5 ≤ su taken
          replace b95 : M.1 8 0 5 ≤ su := b95
          (try simp only [eT] at b95)
          show ((none : Option MV), M) = _
          (try simp only [eT])
          rw [hR, if_neg (fun z => z.elim b87 (fun y => Int32.not_lt.mpr b95 y.2))]
        · -- 95: M.1 8 0 5 ≤ su on
          replace b95 : ¬ (M.1 8 0 5 ≤ su) := b95
          (try simp only [eT] at b95)
          show X 96 [some (vR 8 0), some (vR 6 v), some (vI (nI r)), some (vI (nI (nm + 1))), some (vI rr), some (vI (nI T)), some (vI su), some (vI (nI (pcN (nI T).toNatClampNeg))), L8] [] M
          (try simp only [eT])
          exact yes (Or.inr ⟨b91, Int32.not_le.mp b95⟩) _
  have loop : ∀ s rr T su M, s ≤ ns → rr < 2 ^ 20 → T < 16 → M.1 6 v 14 = nI nm → R = vgW nm s rr T su M → ∀ L8, X 16 [some (vR 8 0), some (vR 6 v), some (vI (nI r)), some (vI (nI (nm + 1))), some (vI (nI rr)), some (vI (nI T)), some (vI (su)), some (vI (nI s - 1)), L8] [] (M) := by
    intro s
    induction s with
    | zero =>
      intro rr T su M hs hrr hT hM hR L8
      rw [vgW] at hR
      have z := s81 M T su (nI rr) hT hR
      show X 16 [some (vR 8 0), some (vR 6 v), some (vI (nI r)), some (vI (nI (nm + 1))), some (vI (nI rr)), some (vI (nI T)), some (vI su), some (vI (nI 0 - 1)), L8] [] M
      refine h (fun i => Nat.beq i 81) 3000 16 _ _ _ ?_
      refine br_t (show nI 0 - 1 < 0 from by decide) ?_
      show X 81 [some (vR 8 0), some (vR 6 v), some (vI (nI r)), some (vI (nI (nm + 1))), some (vI (nI rr)), some (vI (nI T)), some (vI su), some (vI (nI 0 - 1)), L8] [] M
      exact z _ _
    | succ s ih =>
      intro rr T su M hs hrr hT hM hR L8
      rw [vgW] at hR
      have es1 : nI (s + 1) - 1 = nI s := by rw [← nI_1, Int32.add_sub_cancel]
      have es : (nI s).toNatClampNeg = s := nI_clamp (by omega)
      obtain ⟨k, ek⟩ : ∃ k, k = rr % (nm + 1) := ⟨_, rfl⟩
      obtain ⟨r2, er2⟩ : ∃ r2, r2 = rr / (nm + 1) := ⟨_, rfl⟩
      have hk : k < nm + 1 := by rw [ek]; exact Nat.mod_lt _ (by omega)
      have hr2 : r2 < 2 ^ 20 := by rw [er2]; exact Nat.lt_of_le_of_lt (Nat.div_le_self _ _) hrr
      have e1 : nI rr - nI rr / nI (nm + 1) * nI (nm + 1) = nI k := by rw [ek]; exact nIrm (by omega) (by omega) (by omega)
      have e2 : nI rr / nI (nm + 1) = nI r2 := by rw [er2]; exact nIdv (by omega) (by omega) (by omega)
      have ekc : (nI k).toNatClampNeg = k := nI_clamp (by omega)
      rw [← ek, ← er2] at hR
      obtain ⟨N, eN⟩ : ∃ N, N = vgT M s := ⟨_, rfl⟩
      rw [← eN] at hR
      have n14 : N.1 6 v 14 = nI nm := by rw [eN]; exact hM
      have s79 : ∀ M' T' su', T' < 16 → M'.1 6 v 14 = nI nm → R = vgW nm s r2 T' su' M' → X 79 [some (vR 8 0), some (vR 6 v), some (vI (nI r)), some (vI (nI (nm + 1))), some (vI (nI r2)), some (vI (nI T')), some (vI (su')), some (vI (nI s)), some (vI (nI k))] [] (M') := by
        intro M' T' su' hT' hM' hR'
        have z := ih r2 T' su' M' (by omega) hr2 hT' hM' hR'
        have em : nI s + (-1) = nI s - 1 := (Int32.sub_eq_add_neg _ _).symm
        show X 79 [some (vR 8 0), some (vR 6 v), some (vI (nI r)), some (vI (nI (nm + 1))), some (vI (nI r2)), some (vI (nI T')), some (vI su'), some (vI (nI s)), some (vI (nI k))] [] M'
        refine h (fun i => Nat.beq i 16) 3000 79 _ _ _ ?_
        show X 16 [some (vR 8 0), some (vR 6 v), some (vI (nI r)), some (vI (nI (nm + 1))), some (vI (nI r2)), some (vI (nI T')), some (vI su'), some (vI ((nI s) + (-1))), some (vI (nI k))] [] M'
        rw [em]
        exact z _
      have x1 : nI s * 4 + nI k = nI (4 * s + k) := by rw [show (4 : Int32) = nI 4 from rfl, pk_mul, nI_add, Nat.mul_comm s 4]
      have c1 : (nI (4 * s + k)).toNatClampNeg = 4 * s + k := nI_clamp (by omega)
      have hob := or_bit (T := T) (show k < 31 by omega)
      have s57 : k < nm → ¬ T.testBit k = true → ¬ N.1 40 0 (4 * s + k) < 0 → X 57 [some (vR 8 0), some (vR 6 v), some (vI (nI r)), some (vI (nI (nm + 1))), some (vI (nI r2)), some (vI (nI T)), some (vI (su)), some (vI (nI s)), some (vI (nI k))] [] (N) := by
        intro hkm q1 q2
        rw [if_pos hkm, if_neg (fun z => z.elim q1 q2)] at hR
        have z := s79 (vgU N s k) _ _ (or_lt16 hT (by omega)) (by exact n14) hR
        unfold vgU at z
        rw [← hob] at z
        show X 57 [some (vR 8 0), some (vR 6 v), some (vI (nI r)), some (vI (nI (nm + 1))), some (vI (nI r2)), some (vI (nI T)), some (vI su), some (vI (nI s)), some (vI (nI k))] [] N
        refine h (fun i => Nat.beq i 79) 3000 57 _ _ _ ?_
        refine And.intro (show inb (nI s) (alen 41) = true from (inb_o 4 rfl rfl rfl (by omega))) ?_
        refine And.intro (show inb (((nI s) * 4) + (nI k)) (alen 40) = true from (inb_o 16 rfl rfl x1 (by omega))) ?_
        show X 79 [some (vR 8 0), some (vR 6 v), some (vI (nI r)), some (vI (nI (nm + 1))), some (vI (nI r2)), some (vI ((nI T) ||| (1 <<< ((nI k) &&& 31)))), some (vI (su + (N.1 40 0 ((((nI s) * 4) + (nI k)).toNatClampNeg)))), some (vI (nI s)), some (vI (nI k))] [] (mRow N 41 0 (upd (N.1 41 0) (nI s).toNatClampNeg (nI k)))
        (try simp only [es, x1, c1])
        exact z
      have s39 : X 39 [some (vR 8 0), some (vR 6 v), some (vI (nI r)), some (vI (nI (nm + 1))), some (vI (nI r2)), some (vI (nI T)), some (vI (su)), some (vI (nI s)), some (vI (nI k))] [] (N) := by
        show X 39 [some (vR 8 0), some (vR 6 v), some (vI (nI r)), some (vI (nI (nm + 1))), some (vI (nI r2)), some (vI (nI T)), some (vI su), some (vI (nI s)), some (vI (nI k))] [] N
        refine h (fun i => Nat.beq i 57 || Nat.beq i 79) 3000 39 _ _ _ ?_
        refine br_c (fun b42 => ?_) (fun b42 => ?_)
        · -- 42: N.1 6 v 14 ≤ nI k taken
          replace b42 : N.1 6 v 14 ≤ nI k := b42
          (try simp only [n14, x1, c1] at b42)
          rw [nI_leI (by omega) (by omega)] at b42
          show X 79 [some (vR 8 0), some (vR 6 v), some (vI (nI r)), some (vI (nI (nm + 1))), some (vI (nI r2)), some (vI (nI T)), some (vI su), some (vI (nI s)), some (vI (nI k))] [] N
          (try simp only [n14, x1, c1])
          rw [if_neg (by omega)] at hR
          exact s79 N T su hT n14 hR
        · -- 42: N.1 6 v 14 ≤ nI k on
          replace b42 : ¬ (N.1 6 v 14 ≤ nI k) := b42
          (try simp only [n14, x1, c1] at b42)
          rw [nI_leI (by omega) (by omega)] at b42
          refine And.intro (show Pre_X11_holds N [vI (nI T), vI (nI k)] from ⟨_, _, rfl⟩) ?_
          refine brn_c (fun b46 => ?_) (fun b46 => ?_)
          · -- 46: bI (inS (nI T) (nI k)) = 0 taken
            replace b46 : inS (nI T) (nI k) := bI_n0.mp b46
            (try simp only [n14, x1, c1] at b46)
            show ((none : Option MV), N) = _
            (try simp only [n14, x1, c1])
            rw [hR, if_pos (by omega), if_pos (Or.inl ((inS_nI (by omega) (by omega)).mp b46))]
          · -- 46: bI (inS (nI T) (nI k)) = 0 on
            replace b46 : ¬ (inS (nI T) (nI k)) := bI_0.mp b46
            (try simp only [n14, x1, c1] at b46)
            refine And.intro (show inb (((nI s) * 4) + (nI k)) (alen 40) = true from (inb_o 16 rfl rfl x1 (by omega))) ?_
            refine br_c (fun b55 => ?_) (fun b55 => ?_)
            · -- 55: 0 ≤ N.1 40 0 ((((nI s) * 4) + (nI k)).toNatClampNeg) taken
              replace b55 : 0 ≤ N.1 40 0 ((((nI s) * 4) + (nI k)).toNatClampNeg) := b55
              (try simp only [n14, x1, c1] at b55)
              show X 57 [some (vR 8 0), some (vR 6 v), some (vI (nI r)), some (vI (nI (nm + 1))), some (vI (nI r2)), some (vI (nI T)), some (vI su), some (vI (nI s)), some (vI (nI k))] [] N
              (try simp only [n14, x1, c1])
              exact s57 (by omega) (fun z => b46 ((inS_nI (by omega) (by omega)).mpr z)) (Int32.not_lt.mpr b55)
            · -- 55: 0 ≤ N.1 40 0 ((((nI s) * 4) + (nI k)).toNatClampNeg) on
              replace b55 : ¬ (0 ≤ N.1 40 0 ((((nI s) * 4) + (nI k)).toNatClampNeg)) := b55
              (try simp only [n14, x1, c1] at b55)
              show ((none : Option MV), N) = _
              (try simp only [n14, x1, c1])
              rw [hR, if_pos (by omega), if_pos (Or.inr (Int32.not_le.mp b55))]
      rw [es1]
      have p0 : (0 : Int32) < nI (nm + 1) := by rw [show (0 : Int32) = nI 0 from rfl, nI_ltI (by omega) (by omega)]; omega
      have nz : ¬ nI (nm + 1) = 0 := fun z => by rw [z] at p0; exact absurd p0 (by decide)
      show X 16 [some (vR 8 0), some (vR 6 v), some (vI (nI r)), some (vI (nI (nm + 1))), some (vI (nI rr)), some (vI (nI T)), some (vI su), some (vI (nI s)), L8] [] M
      refine h (fun i => Nat.beq i 39) 3000 16 _ _ _ ?_
      refine br_f (show ¬ (nI s < 0) from nI_pos (by omega)) ?_
      refine br_f (show ¬ (nI (nm + 1) ≤ 0) from Int32.not_le.mpr p0) ?_
      refine And.intro nz ?_
      refine br_f (show ¬ (nI (nm + 1) ≤ 0) from Int32.not_le.mpr p0) ?_
      refine And.intro nz ?_
      refine And.intro (show inb (nI s) (alen 41) = true from (inb_o 4 rfl rfl rfl (by omega))) ?_
      show X 39 [some (vR 8 0), some (vR 6 v), some (vI (nI r)), some (vI (nI (nm + 1))), some (vI ((nI rr) / (nI (nm + 1)))), some (vI (nI T)), some (vI su), some (vI (nI s)), some (vI ((nI rr) - (nI rr) / (nI (nm + 1)) * (nI (nm + 1))))] [] (mRow M 41 0 (upd (M.1 41 0) (nI s).toNatClampNeg (-1)))
      rw [e1, e2, es, show mRow M 41 0 (upd (M.1 41 0) s (-1)) = N from eN.symm]
      exact s39
  have l0 := loop ns r 0 0 mm (Nat.le_refl _) hr (by decide) hN eR none
  show X 0 [some (vR 8 0), some (vR 6 v), some (vI (nI r)), none, none, none, none, none, none] [] mm
  refine h (fun i => Nat.beq i 16) 3000 0 _ _ _ ?_
  show X 16 [some (vR 8 0), some (vR 6 v), some (vI (nI r)), some (vI ((mm.1 6 v 14) + 1)), some (vI (nI r)), some (vI 0), some (vI 0), some (vI ((mm.1 6 v 13) - 1)), none] [] mm
  rw [hN, hS, base]
  exact l0
theorem con_X8_weighWay (l : Launch) : CON l y_X8_weighWay prog_10_method_4_code 9 none rm_X8_weighWay Pre_X8_weighWay Fn_X8_weighWay := CON_of (by decide) rfl rfl (sa_X8_weighWay l) vc_X8_weighWay
def vgI (v s : Nat) (w : Int32) : Nat → Nat → MM → MM
  | 0, _, m => m
  | k + 1, d, m => vgI v s w k (d + 1) (mRow (vgC1 m v s d w).2 40 0 (upd ((vgC1 m v s d w).2.1 40 0) (4 * s + d) (vgC1 m v s d w).1))
def vgO (v nm : Nat) (w : Int32) : Nat → Nat → MM → MM
  | 0, _, m => m
  | k + 1, s, m => vgO v nm w k (s + 1) (vgI v s w nm 0 (mRow m 42 0 (upd (m.1 42 0) s (-1))))
def vgL (nm ns : Nat) : Nat → Nat → MM → MM
  | 0, _, m => m
  | k + 1, r, m => vgL nm ns k (r + 1) (vgW nm ns r 0 0 m)
def vg0 (m : MM) : MM := mI (mI m 8 0 4 0) 8 0 5 0
def vgS (v ns nm : Nat) (w : Int32) (m : MM) : MM := vgL nm ns ((nm + 1) ^ ns) 0 (vg0 (vgO v nm w ns 0 m))
def vgM (m : MM) (v : Nat) (w : Int32) : MM := vgS v (m.1 6 v 13).toNatClampNeg (m.1 6 v 14).toNatClampNeg w m
/-- plans and the village alone moved -/
def SM8 (m m' : MM) : Prop := ∀ k g, k ≠ 3 → k ≠ 8 → ¬ (22 ≤ k ∧ k ≤ 25) → ¬ (40 ≤ k ∧ k ≤ 42) → m'.1 k g = m.1 k g
theorem SM8_r (m : MM) : SM8 m m := fun _ _ _ _ _ _ => rfl
theorem SM8_t {a b c : MM} (h : SM8 a b) (h' : SM8 b c) : SM8 a c := fun k g z y x w => (h' k g z y x w).trans (h k g z y x w)
theorem SM8_3 {a b : MM} (h : SM3 a b) : SM8 a b := fun k g z _ x _ => h k g z x
theorem SM8_R {a b : MM} {k g : Nat} {f : Nat → Int32} (hk : k = 8 ∨ (40 ≤ k ∧ k ≤ 42)) (h : SM8 a b) : SM8 a (mRow b k g f) := fun k' j z y x w => (show (mRow b k g f).1 k' j = b.1 k' j from if_neg (fun u : k' = k ∧ j = g => hk.elim (fun t => y (u.1.trans t)) (fun t => w (u.1 ▸ t)))).trans (h k' j z y x w)
theorem abV_8 {m M : MM} {v : Nat} (h : SM8 m M) : abV M v = abV m v := abV_d (fun k hk => h k v (by omega) (by omega) (by omega) (by omega))
theorem SM8_W (nm : Nat) {m : MM} : ∀ s r T su M, SM8 m M → SM8 m (vgW nm s r T su M)
  | 0, _, T, su, M, h => by
    rw [vgW]
    unfold vgZ
    split
    · exact SM8_R (by decide) (SM8_R (by decide) (SM8_R (by decide) h))
    · exact h
  | s + 1, r, T, su, M, h => by
    rw [vgW]
    have hT : SM8 m (vgT M s) := SM8_R (by decide) h
    split
    · split
      · exact hT
      · exact SM8_W nm s _ _ _ _ (SM8_R (by decide) hT)
    · exact SM8_W nm s _ _ _ _ hT
theorem SM8_I (v s : Nat) (w : Int32) {m : MM} : ∀ k d M, SM8 m M → SM8 m (vgI v s w k d M)
  | 0, _, _, h => h
  | k + 1, d, M, h => SM8_I v s w k (d + 1) _ (SM8_R (by decide) (SM8_t h (SM8_3 (SM3_c1 M v s d w))))
theorem SM8_O (v nm : Nat) (w : Int32) {m : MM} : ∀ k s M, SM8 m M → SM8 m (vgO v nm w k s M)
  | 0, _, _, h => h
  | k + 1, s, M, h => SM8_O v nm w k (s + 1) _ (SM8_I v s w nm 0 _ (SM8_R (by decide) h))
theorem SM8_L (nm ns : Nat) {m : MM} : ∀ k r M, SM8 m M → SM8 m (vgL nm ns k r M)
  | 0, _, _, h => h
  | k + 1, r, M, h => SM8_L nm ns k (r + 1) _ (SM8_W nm ns r 0 0 M h)
theorem SM8_M (m : MM) (v : Nat) (w : Int32) : SM8 m (vgM m v w) := SM8_L _ _ _ _ _ (SM8_R (by decide) (SM8_R (by decide) (SM8_O _ _ _ _ _ _ (SM8_r m))))

--tpl ⟨_, _, _, _, _, by assumption, by assumption, rfl⟩ ||  || vgM {m} {g1} {2}
def Pre_X8_settle : PreT := fun m as => ∃ (v ns nm nt : Nat) (w : Int32), VC2 m v ns nm nt ∧ NDo m v ∧ as = [vR 8 0, vR 6 v, vI w]
def Fn_X8_settle : FnT := fun m as => match as with
  | [_, Sum.inr (Sum.inr q), Sum.inl w] => (none, vgM m q.2 w)
  | _ => (none, m)
abbrev y_X8_settle : MethodName := ⟨"GivenUp$Village", "settle", "(LGivenUp$Valley;I)V"⟩
def P_X8_settle : List StpT := [s_ic (1), s_istore 3, s_ic (0), s_istore 4, s_iload 4, s_aload 1, s_getI 6 13, s_icge 44, s_aload 0, s_getR 8 3 42, s_iload 4, s_ic (-1), s_iast, s_iload 3, s_aload 1, s_getI 6 14, s_ic (1), s_iadd, s_imul, s_istore 3, s_ic (0), s_istore 5, s_iload 5, s_aload 1, s_getI 6 14, s_icge 42, s_aload 0, s_getR 8 1 40, s_iload 4, s_ic (4), s_imul, s_iload 5, s_iadd, s_aload 0, s_aload 1, s_iload 4, s_iload 5, s_iload 2, s_callV 8 4 Pre_X8_costOf Fn_X8_costOf, s_iast, s_iinc 5 (1), s_goto 22, s_iinc 4 (1), s_goto 4, s_aload 0, s_ic (0), s_putI 8 4, s_aload 0, s_ic (0), s_putI 8 5, s_ic (0), s_istore 4, s_iload 4, s_iload 3, s_icge 61, s_aload 0, s_aload 1, s_iload 4, s_callV 8 2 Pre_X8_weighWay Fn_X8_weighWay, s_iinc 4 (1), s_goto 52, s_vret]
def pc_X8_settle : Nat → Nat := fun i => [0, 1, 2, 3, 5, 7, 8, 11, 14, 15, 18, 20, 21, 22, 23, 24, 27, 28, 29, 30, 31, 32, 34, 36, 37, 40, 43, 44, 47, 49, 50, 51, 53, 54, 55, 56, 58, 60, 61, 64, 65, 68, 71, 74, 77, 78, 79, 82, 83, 84, 87, 88, 90, 92, 93, 96, 97, 98, 100, 103, 106, 109].getD i 0
def dl_X8_settle : List (Nat × Instr × Nat) := [(0, .iconst 1, 1), (1, .istore_n 3, 1), (2, .iconst 0, 1), (3, .istore 4, 2), (5, .iload 4, 2), (7, .aload_n 1, 1), (8, .getfield 32, 3), (11, .if_icmp .ge 66, 3), (14, .aload_n 0, 1), (15, .getfield 18, 3), (18, .iload 4, 2), (20, .iconst (-1), 1), (21, .iastore, 1), (22, .iload_n 3, 1), (23, .aload_n 1, 1), (24, .getfield 37, 3), (27, .iconst 1, 1), (28, .iadd, 1), (29, .imul, 1), (30, .istore_n 3, 1), (31, .iconst 0, 1), (32, .istore 5, 2), (34, .iload 5, 2), (36, .aload_n 1, 1), (37, .getfield 37, 3), (40, .if_icmp .ge 31, 3), (43, .aload_n 0, 1), (44, .getfield 9, 3), (47, .iload 4, 2), (49, .iconst 4, 1), (50, .imul, 1), (51, .iload 5, 2), (53, .iadd, 1), (54, .aload_n 0, 1), (55, .aload_n 1, 1), (56, .iload 4, 2), (58, .iload 5, 2), (60, .iload_n 2, 1), (61, .invokevirtual 40, 3), (64, .iastore, 1), (65, .iinc 5 1, 3), (68, .goto (-34), 3), (71, .iinc 4 1, 3), (74, .goto (-69), 3), (77, .aload_n 0, 1), (78, .iconst 0, 1), (79, .putfield 21, 3), (82, .aload_n 0, 1), (83, .iconst 0, 1), (84, .putfield 25, 3), (87, .iconst 0, 1), (88, .istore 4, 2), (90, .iload 4, 2), (92, .iload_n 3, 1), (93, .if_icmp .ge 16, 3), (96, .aload_n 0, 1), (97, .aload_n 1, 1), (98, .iload 4, 2), (100, .invokevirtual 44, 3), (103, .iinc 4 1, 3), (106, .goto (-16), 3), (109, .return_, 1)]
theorem dc_X8_settle : DEC prog_10_method_2_code pc_X8_settle dl_X8_settle := DEC_of (by decide +kernel)
abbrev rm_X8_settle : Room := { frames := 18, cells := 0, slots := 0, locals := 460 }
set_option maxRecDepth 20000 in
theorem sa_X8_settle (l : Launch) : SNDALL l prog_10_method_2_code "GivenUp$Village" 6 none rm_X8_settle P_X8_settle pc_X8_settle := fun p e s m args below meth c cells slots Q D dA ad A RR hC hR => by
  have hM := RTX_room (R := rm_X8_settle) hR
  exact ⟨st_iconst hC (n := 0) (x := 1) (dc_X8_settle 0 (0, .iconst 1, 1) rfl rfl) rfl (by decide),
    st_istore_n hC (n := 1) (k := 3) (dc_X8_settle 1 (1, .istore_n 3, 1) rfl rfl) rfl rfl (by decide),
    st_iconst hC (n := 2) (x := 0) (dc_X8_settle 2 (2, .iconst 0, 1) rfl rfl) rfl (by decide),
    st_istore hC (n := 3) (dc_X8_settle 3 (3, .istore 4, 2) rfl rfl) rfl (by decide),
    st_iload hC (n := 4) (dc_X8_settle 4 (5, .iload 4, 2) rfl rfl) rfl,
    st_aload_n hC (n := 5) (k := 1) (dc_X8_settle 5 (7, .aload_n 1, 1) rfl rfl) rfl rfl,
    st_getI hC (n := 6) (k := 6) (j := 13) (dc_X8_settle 6 (8, .getfield 32, 3) rfl rfl) rfl clf_6 (by decide) rfl wd_618,
    st_icge hC (n := 7) (dc_X8_settle 7 (11, .if_icmp .ge 66, 3) rfl rfl) rfl (by decide),
    st_aload_n hC (n := 8) (k := 0) (dc_X8_settle 8 (14, .aload_n 0, 1) rfl rfl) rfl rfl,
    st_getR hC (n := 9) (k := 8) (j := 3) (dc_X8_settle 9 (15, .getfield 18, 3) rfl rfl) rfl clf_8 (by decide) rfl (by decide) wd_379,
    st_iload hC (n := 10) (dc_X8_settle 10 (18, .iload 4, 2) rfl rfl) rfl,
    st_iconst hC (n := 11) (x := (-1)) (dc_X8_settle 11 (20, .iconst (-1), 1) rfl rfl) rfl (by decide),
    st_iast hC (n := 12) (dc_X8_settle 12 (21, .iastore, 1) rfl rfl) rfl,
    st_iload_n hC (n := 13) (k := 3) (dc_X8_settle 13 (22, .iload_n 3, 1) rfl rfl) rfl rfl,
    st_aload_n hC (n := 14) (k := 1) (dc_X8_settle 14 (23, .aload_n 1, 1) rfl rfl) rfl rfl,
    st_getI hC (n := 15) (k := 6) (j := 14) (dc_X8_settle 15 (24, .getfield 37, 3) rfl rfl) rfl clf_6 (by decide) rfl wd_624,
    st_iconst hC (n := 16) (x := 1) (dc_X8_settle 16 (27, .iconst 1, 1) rfl rfl) rfl (by decide),
    st_iadd hC (n := 17) (dc_X8_settle 17 (28, .iadd, 1) rfl rfl) rfl,
    st_imul hC (n := 18) (dc_X8_settle 18 (29, .imul, 1) rfl rfl) rfl,
    st_istore_n hC (n := 19) (k := 3) (dc_X8_settle 19 (30, .istore_n 3, 1) rfl rfl) rfl rfl (by decide),
    st_iconst hC (n := 20) (x := 0) (dc_X8_settle 20 (31, .iconst 0, 1) rfl rfl) rfl (by decide),
    st_istore hC (n := 21) (dc_X8_settle 21 (32, .istore 5, 2) rfl rfl) rfl (by decide),
    st_iload hC (n := 22) (dc_X8_settle 22 (34, .iload 5, 2) rfl rfl) rfl,
    st_aload_n hC (n := 23) (k := 1) (dc_X8_settle 23 (36, .aload_n 1, 1) rfl rfl) rfl rfl,
    st_getI hC (n := 24) (k := 6) (j := 14) (dc_X8_settle 24 (37, .getfield 37, 3) rfl rfl) rfl clf_6 (by decide) rfl wd_624,
    st_icge hC (n := 25) (dc_X8_settle 25 (40, .if_icmp .ge 31, 3) rfl rfl) rfl (by decide),
    st_aload_n hC (n := 26) (k := 0) (dc_X8_settle 26 (43, .aload_n 0, 1) rfl rfl) rfl rfl,
    st_getR hC (n := 27) (k := 8) (j := 1) (dc_X8_settle 27 (44, .getfield 9, 3) rfl rfl) rfl clf_8 (by decide) rfl (by decide) wd_377,
    st_iload hC (n := 28) (dc_X8_settle 28 (47, .iload 4, 2) rfl rfl) rfl,
    st_iconst hC (n := 29) (x := 4) (dc_X8_settle 29 (49, .iconst 4, 1) rfl rfl) rfl (by decide),
    st_imul hC (n := 30) (dc_X8_settle 30 (50, .imul, 1) rfl rfl) rfl,
    st_iload hC (n := 31) (dc_X8_settle 31 (51, .iload 5, 2) rfl rfl) rfl,
    st_iadd hC (n := 32) (dc_X8_settle 32 (53, .iadd, 1) rfl rfl) rfl,
    st_aload_n hC (n := 33) (k := 0) (dc_X8_settle 33 (54, .aload_n 0, 1) rfl rfl) rfl rfl,
    st_aload_n hC (n := 34) (k := 1) (dc_X8_settle 34 (55, .aload_n 1, 1) rfl rfl) rfl rfl,
    st_iload hC (n := 35) (dc_X8_settle 35 (56, .iload 4, 2) rfl rfl) rfl,
    st_iload hC (n := 36) (dc_X8_settle 36 (58, .iload 5, 2) rfl rfl) rfl,
    st_iload_n hC (n := 37) (k := 2) (dc_X8_settle 37 (60, .iload_n 2, 1) rfl rfl) rfl rfl,
    st_callV hC (n := 38) (k := 8) (na := 4) (con_X8_costOf l) (dc_X8_settle 38 (61, .invokevirtual 40, 3) rfl rfl) rfl wd_1349 wd_152 (by decide) ⟨rfl, rfl, by decide, by decide⟩ hM wd_1346 wd_1348 wd_35 clf_8,
    st_iast hC (n := 39) (dc_X8_settle 39 (64, .iastore, 1) rfl rfl) rfl,
    st_iinc hC (n := 40) (x := 1) (dc_X8_settle 40 (65, .iinc 5 1, 3) rfl rfl) rfl (by decide) (by decide),
    st_goto hC (n := 41) (dc_X8_settle 41 (68, .goto (-34), 3) rfl rfl) (by decide),
    st_iinc hC (n := 42) (x := 1) (dc_X8_settle 42 (71, .iinc 4 1, 3) rfl rfl) rfl (by decide) (by decide),
    st_goto hC (n := 43) (dc_X8_settle 43 (74, .goto (-69), 3) rfl rfl) (by decide),
    st_aload_n hC (n := 44) (k := 0) (dc_X8_settle 44 (77, .aload_n 0, 1) rfl rfl) rfl rfl,
    st_iconst hC (n := 45) (x := 0) (dc_X8_settle 45 (78, .iconst 0, 1) rfl rfl) rfl (by decide),
    st_putI hC (n := 46) (k := 8) (j := 4) (dc_X8_settle 46 (79, .putfield 21, 3) rfl rfl) rfl clf_8 (by decide) rfl rfl rfl wd_381,
    st_aload_n hC (n := 47) (k := 0) (dc_X8_settle 47 (82, .aload_n 0, 1) rfl rfl) rfl rfl,
    st_iconst hC (n := 48) (x := 0) (dc_X8_settle 48 (83, .iconst 0, 1) rfl rfl) rfl (by decide),
    st_putI hC (n := 49) (k := 8) (j := 5) (dc_X8_settle 49 (84, .putfield 25, 3) rfl rfl) rfl clf_8 (by decide) rfl rfl rfl wd_383,
    st_iconst hC (n := 50) (x := 0) (dc_X8_settle 50 (87, .iconst 0, 1) rfl rfl) rfl (by decide),
    st_istore hC (n := 51) (dc_X8_settle 51 (88, .istore 4, 2) rfl rfl) rfl (by decide),
    st_iload hC (n := 52) (dc_X8_settle 52 (90, .iload 4, 2) rfl rfl) rfl,
    st_iload_n hC (n := 53) (k := 3) (dc_X8_settle 53 (92, .iload_n 3, 1) rfl rfl) rfl rfl,
    st_icge hC (n := 54) (dc_X8_settle 54 (93, .if_icmp .ge 16, 3) rfl rfl) rfl (by decide),
    st_aload_n hC (n := 55) (k := 0) (dc_X8_settle 55 (96, .aload_n 0, 1) rfl rfl) rfl rfl,
    st_aload_n hC (n := 56) (k := 1) (dc_X8_settle 56 (97, .aload_n 1, 1) rfl rfl) rfl rfl,
    st_iload hC (n := 57) (dc_X8_settle 57 (98, .iload 4, 2) rfl rfl) rfl,
    st_callV hC (n := 58) (k := 8) (na := 2) (con_X8_weighWay l) (dc_X8_settle 58 (100, .invokevirtual 44, 3) rfl rfl) rfl wd_1357 wd_152 (by decide) ⟨rfl, rfl, by decide, by decide⟩ hM wd_1354 wd_1356 wd_36 clf_8,
    st_iinc hC (n := 59) (x := 1) (dc_X8_settle 59 (103, .iinc 4 1, 3) rfl rfl) rfl (by decide) (by decide),
    st_goto hC (n := 60) (dc_X8_settle 60 (106, .goto (-16), 3) rfl rfl) (by decide),
    st_vret hC (n := 61) hR (dc_X8_settle 61 (109, .return_, 1) rfl rfl), trivial⟩
set_option maxRecDepth 8000 in
theorem vc_X8_settle : VC P_X8_settle 6 Pre_X8_settle Fn_X8_settle := by
  rintro mm as hom hoa ⟨v, ns, nm, nt, w, hV, hND, rfl⟩
  refine ⟨Nat.le_of_ble_eq_true rfl, fun X h => ?_⟩
  have hS : mm.1 6 v 13 = nI ns := hV.1.1.1
  have hn4 : ns ≤ 4 := hV.1.1.2
  have hN : mm.1 6 v 14 = nI nm := hV.1.2.1.1
  have hm4 : nm ≤ 4 := hV.1.2.1.2
  have ens : (nI ns).toNatClampNeg = ns := nI_clamp (by omega)
  have enm : (nI nm).toNatClampNeg = nm := nI_clamp (by omega)
  replace h : RUN P_X8_settle (fun r' m' => (r', m') = (none, vgM mm v w)) X := h
  unfold vgM vgS at h
  rw [hS, hN, ens, enm] at h
  obtain ⟨R, eR⟩ : ∃ R, R = vgL nm ns ((nm + 1) ^ ns) 0 (vg0 (vgO v nm w ns 0 mm)) := ⟨_, rfl⟩
  rw [← eR] at h
  obtain ⟨D, eD⟩ : ∃ D, D = (nm + 1) ^ ns := ⟨_, rfl⟩
  have hD : D < 2 ^ 20 := by
    rw [eD]
    have h1 : (nm + 1) ^ ns ≤ 5 ^ ns := Nat.pow_le_pow_left (by omega) ns
    have h2 : 5 ^ ns ≤ 5 ^ 4 := Nat.pow_le_pow_right (by omega) hn4
    omega
  rw [← eD] at eR
  have h13 : ∀ M, SM8 mm M → M.1 6 v 13 = nI ns := fun M hM => by rw [hM 6 v (by decide) (by decide) (by decide) (by decide)]; exact hS
  have h14 : ∀ M, SM8 mm M → M.1 6 v 14 = nI nm := fun M hM => by rw [hM 6 v (by decide) (by decide) (by decide) (by decide)]; exact hN
  have loop2 : ∀ k r M, r + k = D → SM8 mm M → R = vgL nm ns k r M → ∀ L5, X 52 [some (vR 8 0), some (vR 6 v), some (vI (w)), some (vI (nI D)), some (vI (nI r)), L5] [] (M) := by
    intro k
    induction k with
    | zero =>
      intro r M hr hM hR L5
      have hr2 : r = D := by omega
      rw [vgL] at hR
      show X 52 [some (vR 8 0), some (vR 6 v), some (vI w), some (vI (nI D)), some (vI (nI r)), L5] [] M
      refine h (fun _ => false) 3000 52 _ _ _ ?_
      refine br_t (show nI D ≤ nI r from by rw [hr2]; exact Int32.le_refl _) ?_
      show ((none : Option MV), M) = _
      rw [hR]
    | succ k ih =>
      intro r M hr hM hR L5
      rw [vgL] at hR
      have er : (nI r).toNatClampNeg = r := nI_clamp (by omega)
      have e13 := h13 M hM
      have e14 := h14 M hM
      have z := ih (r + 1) _ (by omega) (SM8_W nm ns r 0 0 M hM) hR
      show X 52 [some (vR 8 0), some (vR 6 v), some (vI w), some (vI (nI D)), some (vI (nI r)), L5] [] M
      refine h (fun i => Nat.beq i 52) 3000 52 _ _ _ ?_
      refine br_f (show ¬ (nI D ≤ nI r) from nI_ge (by omega) (by omega)) ?_
      refine And.intro (show Pre_X8_weighWay M [vR 8 0, vR 6 v, vI (nI r)] from ⟨v, ns, nm, r, e13, hn4, e14, hm4, by omega, rfl⟩) ?_
      show X 52 [some (vR 8 0), some (vR 6 v), some (vI w), some (vI (nI D)), some (vI ((nI r) + 1)), L5] [] (vgW (M.1 6 v 14).toNatClampNeg (M.1 6 v 13).toNatClampNeg (nI r).toNatClampNeg 0 0 M)
      rw [e13, e14, ens, enm, er, nI_1]
      exact z _
  have s44 : ∀ M s, SM8 mm M → R = vgL nm ns D 0 (vg0 M) → ∀ L5, X 44 [some (vR 8 0), some (vR 6 v), some (vI (w)), some (vI (nI D)), some (vI (s)), L5] [] (M) := by
    intro M s hM hR L5
    have z := loop2 D 0 (vg0 M) (by omega) (SM8_R (by decide) (SM8_R (by decide) hM)) hR
    unfold vg0 at z
    show X 44 [some (vR 8 0), some (vR 6 v), some (vI w), some (vI (nI D)), some (vI s), L5] [] M
    refine h (fun i => Nat.beq i 52) 3000 44 _ _ _ ?_
    show X 52 [some (vR 8 0), some (vR 6 v), some (vI w), some (vI (nI D)), some (vI 0), L5] [] (mI (mI M 8 0 4 0) 8 0 5 0)
    exact z _
  have loop : ∀ k s M, s + k = ns → SM8 mm M → R = vgL nm ns D 0 (vg0 (vgO v nm w k s M)) → ∀ L5, X 4 [some (vR 8 0), some (vR 6 v), some (vI (w)), some (vI (nI ((nm + 1) ^ s))), some (vI (nI s)), L5] [] (M) := by
    intro k
    induction k with
    | zero =>
      intro s M hs hM hR L5
      have hs2 : s = ns := by omega
      rw [vgO] at hR
      have z := s44 M (nI s) hM hR L5
      rw [eD] at z
      rw [hs2] at z ⊢
      show X 4 [some (vR 8 0), some (vR 6 v), some (vI w), some (vI (nI ((nm + 1) ^ ns))), some (vI (nI ns)), L5] [] M
      refine h (fun i => Nat.beq i 44) 3000 4 _ _ _ ?_
      refine br_t (show M.1 6 v 13 ≤ nI ns from by rw [h13 M hM]; exact Int32.le_refl _) ?_
      show X 44 [some (vR 8 0), some (vR 6 v), some (vI w), some (vI (nI ((nm + 1) ^ ns))), some (vI (nI ns)), L5] [] M
      exact z
    | succ k ih =>
      intro s M hs hM hR L5
      rw [vgO] at hR
      have es : (nI s).toNatClampNeg = s := nI_clamp (by omega)
      obtain ⟨N, eN⟩ : ∃ N, N = mRow M 42 0 (upd (M.1 42 0) s (-1)) := ⟨_, rfl⟩
      have hNM : SM8 mm N := by rw [eN]; exact SM8_R (by decide) hM
      rw [← eN] at hR
      have ep : nI ((nm + 1) ^ s) * (nI nm + 1) = nI ((nm + 1) ^ (s + 1)) := by rw [nI_1, pk_mul, Nat.pow_succ]
      have inner : ∀ k' d M, d + k' = nm → SM8 mm M → R = vgL nm ns D 0 (vg0 (vgO v nm w k (s + 1) (vgI v s w k' d M))) → X 22 [some (vR 8 0), some (vR 6 v), some (vI (w)), some (vI (nI ((nm + 1) ^ (s + 1)))), some (vI (nI s)), some (vI (nI d))] [] (M) := by
        intro k'
        induction k' with
        | zero =>
          intro d M hd hM hR
          have hd2 : d = nm := by omega
          rw [vgI] at hR
          have z := ih (s + 1) M (by omega) hM hR
          show X 22 [some (vR 8 0), some (vR 6 v), some (vI w), some (vI (nI ((nm + 1) ^ (s + 1)))), some (vI (nI s)), some (vI (nI d))] [] M
          refine h (fun i => Nat.beq i 4) 3000 22 _ _ _ ?_
          refine br_t (show M.1 6 v 14 ≤ nI d from by rw [h14 M hM, hd2]; exact Int32.le_refl _) ?_
          show X 4 [some (vR 8 0), some (vR 6 v), some (vI w), some (vI (nI ((nm + 1) ^ (s + 1)))), some (vI ((nI s) + 1)), some (vI (nI d))] [] M
          rw [nI_1]
          exact z _
        | succ k' ihd =>
          intro d M hd hM hR
          rw [vgI] at hR
          have ed : (nI d).toNatClampNeg = d := nI_clamp (by omega)
          have hq : SM8 mm (vgC1 M v s d w).2 := SM8_t hM (SM8_3 (SM3_c1 M v s d w))
          have z := ihd (d + 1) _ (by omega) (SM8_R (by decide) hq) hR
          obtain ⟨q, eq⟩ : ∃ q, q = vgC1 M v s d w := ⟨_, rfl⟩
          rw [← eq] at z
          have x1 : nI s * 4 + nI d = nI (4 * s + d) := by rw [show (4 : Int32) = nI 4 from rfl, pk_mul, nI_add, Nat.mul_comm s 4]
          have c1 : (nI (4 * s + d)).toNatClampNeg = 4 * s + d := nI_clamp (by omega)
          have hN2 : NDo M v := by
            unfold NDo
            rw [hM 38 v (by decide) (by decide) (by decide) (by decide)]
            exact hND
          have s39 : X 39 [some (vR 8 0), some (vR 6 v), some (vI (w)), some (vI (nI ((nm + 1) ^ (s + 1)))), some (vI (nI s)), some (vI (nI d))] [vI (q.1), vI (nI s * 4 + nI d), vR 40 0] (q.2) := by
            show X 39 [some (vR 8 0), some (vR 6 v), some (vI w), some (vI (nI ((nm + 1) ^ (s + 1)))), some (vI (nI s)), some (vI (nI d))] [vI q.1, vI (nI s * 4 + nI d), vR 40 0] q.2
            refine h (fun i => Nat.beq i 22) 3000 39 _ _ _ ?_
            refine And.intro (show inb (nI s * 4 + nI d) (alen 40) = true from (inb_o 16 rfl rfl x1 (by omega))) ?_
            show X 22 [some (vR 8 0), some (vR 6 v), some (vI w), some (vI (nI ((nm + 1) ^ (s + 1)))), some (vI (nI s)), some (vI ((nI d) + 1))] [] (mRow q.2 40 0 (upd ((q.2).1 40 0) (nI s * 4 + nI d).toNatClampNeg q.1))
            (try simp only [x1, c1])
            rw [nI_1]
            exact z
          show X 22 [some (vR 8 0), some (vR 6 v), some (vI w), some (vI (nI ((nm + 1) ^ (s + 1)))), some (vI (nI s)), some (vI (nI d))] [] M
          refine h (fun i => Nat.beq i 39) 3000 22 _ _ _ ?_
          refine br_f (show ¬ (M.1 6 v 14 ≤ nI d) from by rw [h14 M hM]; exact nI_ge (by omega) (by omega)) ?_
          refine And.intro (show Pre_X8_costOf M [vR 8 0, vR 6 v, vI (nI s), vI (nI d), vI w] from ⟨v, ns, nm, nt, s, d, w, VC2_c (abV_8 hM) hV, hN2, by omega, by omega, rfl⟩) ?_
          show X 39 [some (vR 8 0), some (vR 6 v), some (vI w), some (vI (nI ((nm + 1) ^ (s + 1)))), some (vI (nI s)), some (vI (nI d))] [vI ((vgC1 M v (nI s).toNatClampNeg (nI d).toNatClampNeg w).1), vI (((nI s) * 4) + (nI d)), vR 40 0] ((vgC1 M v (nI s).toNatClampNeg (nI d).toNatClampNeg w).2)
          rw [es, ed, ← eq]
          exact s39
      have z := inner nm 0 N (by omega) hNM hR
      have n14 := h14 N hNM
      have s13 : X 13 [some (vR 8 0), some (vR 6 v), some (vI (w)), some (vI (nI ((nm + 1) ^ s))), some (vI (nI s)), L5] [] (N) := by
        show X 13 [some (vR 8 0), some (vR 6 v), some (vI w), some (vI (nI ((nm + 1) ^ s))), some (vI (nI s)), L5] [] N
        refine h (fun i => Nat.beq i 22) 3000 13 _ _ _ ?_
        show X 22 [some (vR 8 0), some (vR 6 v), some (vI w), some (vI ((nI ((nm + 1) ^ s)) * ((N.1 6 v 14) + 1))), some (vI (nI s)), some (vI 0)] [] N
        rw [n14, ep]
        exact z
      show X 4 [some (vR 8 0), some (vR 6 v), some (vI w), some (vI (nI ((nm + 1) ^ s))), some (vI (nI s)), L5] [] M
      refine h (fun i => Nat.beq i 13) 3000 4 _ _ _ ?_
      refine br_f (show ¬ (M.1 6 v 13 ≤ nI s) from by rw [h13 M hM]; exact nI_ge (by omega) (by omega)) ?_
      refine And.intro (show inb (nI s) (alen 42) = true from (inb_o 4 rfl rfl rfl (by omega))) ?_
      show X 13 [some (vR 8 0), some (vR 6 v), some (vI w), some (vI (nI ((nm + 1) ^ s))), some (vI (nI s)), L5] [] (mRow M 42 0 (upd (M.1 42 0) (nI s).toNatClampNeg (-1)))
      rw [es, ← eN]
      exact s13
  have l0 := loop ns 0 mm (by omega) (SM8_r mm) eR none
  rw [Nat.pow_zero] at l0
  show X 0 [some (vR 8 0), some (vR 6 v), some (vI w), none, none, none] [] mm
  refine h (fun i => Nat.beq i 4) 3000 0 _ _ _ ?_
  show X 4 [some (vR 8 0), some (vR 6 v), some (vI w), some (vI 1), some (vI 0), none] [] mm
  exact l0
theorem con_X8_settle (l : Launch) : CON l y_X8_settle prog_10_method_2_code 6 none rm_X8_settle Pre_X8_settle Fn_X8_settle := CON_of (by decide) rfl rfl (sa_X8_settle l) vc_X8_settle
end
