/-! PART 49: the model: a step of the YEARS' text; the whole text -/

/-- what reading leaves as it was: the fields from 19 on, the open ones, the row ahead of the STEPS -/
def KY (m m' : MM) : Prop := (∀ j, 19 ≤ j → m'.1 12 0 j = m.1 12 0 j) ∧ m'.1 61 0 = m.1 61 0 ∧ ∀ j, j < 2186 → m'.1 54 0 j = m.1 54 0 j
theorem KY_r (m : MM) : KY m m := ⟨fun _ _ => rfl, rfl, fun _ _ => rfl⟩
theorem tkR_hi {f : Nat → Int32} {k s e v : Int32} {j : Nat} (h : 16 ≤ j) : tkR f k s e v j = f j := by
  unfold tkR
  rw [if_neg (by omega), if_neg (by omega), if_neg (by omega), if_neg (by omega)]
theorem KY_ah {m m' : MM} (h : KY m m') : KY m (ahM m') := ⟨fun j hj => by rw [← h.1 j hj]; exact tkR_hi (by omega), h.2.1, h.2.2⟩
theorem fa12 {m : MM} {k : Int32} {j : Nat} (hj : 19 ≤ j) : (faM m k).1 12 0 j = m.1 12 0 j := by
  unfold faM mite
  split
  · show upd (upd (m.1 12 0) 18 _) 17 _ j = _
    rw [upd_ne (by omega), upd_ne (by omega)]
  · rfl
theorem fa61 (m : MM) (k : Int32) : (faM m k).1 61 0 = m.1 61 0 := by
  unfold faM mite
  split <;> rfl
theorem KY_fa {m m' : MM} {k : Int32} (h : KY m m') : KY m (faM m' k) := ⟨fun j hj => by rw [← h.1 j hj]; exact fa12 hj, (fa61 _ _).trans h.2.1, fun j hj => by rw [fa54]; exact h.2.2 j hj⟩
theorem KY_54 {m m' : MM} {t : Nat} {x : Int32} (h : KY m m') (ht : 2186 ≤ t) : KY m (mI m' 54 0 t x) := ⟨h.1, h.2.1, fun j hj => by
  show upd (m'.1 54 0) t x j = _
  rw [upd_ne (by omega)]
  exact h.2.2 j hj⟩
theorem KY_ww {m m' : MM} {c : Int32} (h : KY m m') : KY m (pWW m' c).2 := by
  unfold pWW; split
  · exact KY_ah h
  · exact KY_fa h
theorem KY_nu {m m' : MM} {t : Nat} {lo hi : Int32} (h : KY m m') (ht : 2186 ≤ t) : KY m (pNu m' t lo hi).2 := by
  unfold pNu; split
  · split
    · exact KY_fa h
    · exact KY_ah (KY_54 h ht)
  · exact KY_fa h
theorem KY_ol {m m' : MM} {b c t : Nat} (h : KY m m') (ht : 2186 ≤ t) : KY m (pOl m' b c t).2 := by
  unfold pOl; split
  · split
    · exact KY_fa (KY_54 h ht)
    · exact KY_ah (KY_54 h ht)
  · exact KY_fa h
theorem KY_bd {m : MM} {p : PR} {q : MM → PR} (h : KY m p.2) (hq : ∀ m', KY m m' → KY m (q m').2) : KY m (pBd p q).2 := by
  unfold pBd; split
  · exact hq _ h
  · exact h
theorem KY_te {m m' : MM} {r : Nat} (h : KY m m') (hr : 2186 ≤ r) : KY m (pTe m' r).2 := by
  unfold pTe; split
  · exact KY_fa h
  · refine KY_bd (KY_ol (KY_ah (KY_54 h hr)) (by omega)) (fun m1 h1 => ?_)
    unfold teB; split
    · exact h1
    · refine KY_bd (KY_ww h1) (fun m2 h2 => KY_bd (KY_ol h2 (by omega)) (fun m3 h3 => ?_))
      unfold teC; split
      · exact h3
      · unfold teD; split
        · exact KY_nu (KY_ah (KY_54 h3 (by omega))) (by omega)
        · exact KY_fa h3
theorem KY_yo {m m' : MM} {k : Int32} {r : Nat} (h : KY m m') (hr : 2186 ≤ r) : KY m (pYo m' k r).2 := by
  unfold pYo
  split
  · exact KY_ol h (by omega)
  split
  · exact KY_ol h (by omega)
  split
  · exact KY_ol h (by omega)
  split
  · exact KY_ol h (by omega)
  split
  · exact KY_bd (KY_ol h (by omega)) (fun _ h => KY_bd (KY_ww h) (fun _ h => KY_ol h (by omega)))
  split
  · exact KY_te h hr
  split
  · exact KY_nu h (by omega)
  · exact h
theorem GT_te {m m' : MM} {r : Nat} (h : GT m m') : GT m (pTe m' r).2 := by
  unfold pTe; split
  · exact GT_fa h
  · refine GT_bd (GT_ol (GT_ah (GT_54 h))) (fun m1 h1 => ?_)
    unfold teB; split
    · exact h1
    · refine GT_bd (GT_ww h1) (fun m2 h2 => GT_bd (GT_ol h2) (fun m3 h3 => ?_))
      unfold teC; split
      · exact h3
      · unfold teD; split
        · exact GT_nu (GT_ah (GT_54 h3))
        · exact GT_fa h3
theorem GT_yo {m m' : MM} {k : Int32} {r : Nat} (h : GT m m') : GT m (pYo m' k r).2 := by
  unfold pYo
  split
  · exact GT_ol h
  split
  · exact GT_ol h
  split
  · exact GT_ol h
  split
  · exact GT_ol h
  split
  · exact GT_bd (GT_ol h) (fun _ h => GT_bd (GT_ww h) (fun _ h => GT_ol h))
  split
  · exact GT_te h
  split
  · exact GT_nu h
  · exact h
/-- a line is begun -/
def lnF (a : Nat → Int32) (k : Int32) (r : Nat) : Nat → Int32 := zrR (upd a r k) (r + 1) 5
def lnM (m : MM) (k : Int32) (r : Nat) : MM := mRow (mI m 12 0 23 (m.1 12 0 23 + (if k = 25 then 0 else 1))) 54 0 (upd (lnF (m.1 54 0) k r) 2050 (lnF (m.1 54 0) k r 2050 + 1))
abbrev opP (k : Int32) : Prop := k = 23 ∨ k = 24
def opM (m : MM) (n : Int32) : MM := mI (mRow m 61 0 (upd (m.1 61 0) (m.1 12 0 22).toNatClampNeg n)) 12 0 22 (m.1 12 0 22 + 1)
def clO (m : MM) : Int32 := m.1 61 0 (m.1 12 0 22 - 1).toNatClampNeg
def clM (m : MM) (n : Int32) (r : Nat) : MM := mI (mI (mI m 12 0 22 (m.1 12 0 22 - 1)) 54 0 (r + 4) (clO m)) 54 0 (2190 + 6 * (clO m).toNatClampNeg) n
def ysD (k n : Int32) (r : Nat) (m : MM) : PR := pSg (mite (k = 25) (clM m n r) m) 59
def ysC (k n : Int32) (r : Nat) (m : MM) : PR := ysD k n r (mite (opP k) (opM m n) m)
def ysB (k n : Int32) (r : Nat) (m : MM) : PR := pBd (pYo m k r) (ysC k n r)
abbrev ysF (m : MM) (k : Int32) : Prop := k < 16 ∨ 26 < k ∨ k = 22 ∨ (k = 25 ∧ m.1 12 0 22 = 0)
def pYq (m : MM) (k n : Int32) (r : Nat) : PR := if ysF m k then (false, faM m 2) else if ¬ k = 25 ∧ m.1 12 0 23 = 30 then (false, faM m 6) else if opP k ∧ m.1 12 0 22 = 3 then (false, faM m 7) else ysB k n r (ahM (lnM m k r))
def pYs (m : MM) : PR := pYq m (kyA m) (m.1 54 0 2050) (2186 + 6 * (m.1 54 0 2050).toNatClampNeg)
/-- while the YEARS' text is read -/
def YJ (m : MM) (ns nm nt L d c : Nat) : Prop := YT m ns nm nt ∧ m.1 54 0 2050 = nI L ∧ (m.1 12 0 22 = nI d ∧ d ≤ 3) ∧ (m.1 12 0 23 = nI c ∧ c ≤ 30) ∧ L + d ≤ 2 * c ∧ ∀ i, i < d → ∃ o, o < L ∧ m.1 61 0 i = nI o
theorem lnF_lo {a : Nat → Int32} {k : Int32} {r j : Nat} (h : j < r) : lnF a k r j = a j := by
  unfold lnF zrR
  rw [if_neg (by omega), upd_ne (by omega)]
theorem YT_ln {m : MM} {k : Int32} {r ns nm nt : Nat} (h : YT m ns nm nt) (hr : 2186 ≤ r) : YT (lnM m k r) ns nm nt := YT_mk h h.1 (fun j hj => by
  show upd (lnF (m.1 54 0) k r) 2050 _ j = _
  rw [upd_ne (by omega), lnF_lo (by omega)])
theorem YT_te {m : MM} {ns nm nt r : Nat} (h : YT m ns nm nt) (hr : 2186 ≤ r) : YT (pTe m r).2 ns nm nt := YT_mk h (GT_te (GT_r h.1)).1 (fun j hj => (KY_te (KY_r m) hr).2.2 j (by omega))
theorem YT_yo {m : MM} {k : Int32} {ns nm nt r : Nat} (h : YT m ns nm nt) (hr : 2186 ≤ r) : YT (pYo m k r).2 ns nm nt := YT_mk h (GT_yo (GT_r h.1)).1 (fun j hj => (KY_yo (KY_r m) hr).2.2 j (by omega))

--tpl ⟨_, _, _, _, _, _, (by assumption), rfl⟩ || bI ((pYs {m}).1 = true) || (pYs {m}).2
def Pre_X12_yearStep : PreT := fun m as => ∃ ns nm nt L d c, YJ m ns nm nt L d c ∧ as = [vR 12 0]
def Fn_X12_yearStep : FnT := fun m _ => (some (vI (bI ((pYs m).1 = true))), (pYs m).2)
abbrev y_X12_yearStep : MethodName := ⟨"GivenUpModel", "yearStep", "()Z"⟩
def P_X12_yearStep : List StpT := [s_aload 0, s_ldS 1, s_callV 12 1 Pre_X12_inWords Fn_X12_inWords, s_istore 1, s_aload 0, s_getR 12 0 54, s_ic (2050), s_iald, s_istore 2, s_ic (2186), s_ic (6), s_iload 2, s_imul, s_iadd, s_istore 3, s_iload 1, s_ic (23), s_iceq 21, s_iload 1, s_ic (24), s_icne 23, s_ic (1), s_goto 24, s_ic (0), s_istore 4, s_iload 1, s_ic (16), s_iclt 40, s_iload 1, s_ic (26), s_icgt 40, s_iload 1, s_ic (22), s_iceq 40, s_iload 1, s_ic (25), s_icne 44, s_aload 0, s_getI 12 22, s_ifne 44, s_aload 0, s_ic (2), s_callV 12 1 Pre_X12_fails Fn_X12_fails, s_zret, s_iload 1, s_ic (25), s_iceq 55, s_aload 0, s_getI 12 23, s_ic (30), s_icne 55, s_aload 0, s_ic (6), s_callV 12 1 Pre_X12_fails Fn_X12_fails, s_zret, s_iload 4, s_ifeq 65, s_aload 0, s_getI 12 22, s_ic (3), s_icne 65, s_aload 0, s_ic (7), s_callV 12 1 Pre_X12_fails Fn_X12_fails, s_zret, s_aload 0, s_dup, s_getI 12 23, s_iload 1, s_ic (25), s_icne 73, s_ic (0), s_goto 74, s_ic (1), s_iadd, s_putI 12 23, s_aload 0, s_getR 12 0 54, s_iload 3, s_iload 1, s_iast, s_ic (1), s_istore 5, s_iload 5, s_ic (6), s_icge 95, s_aload 0, s_getR 12 0 54, s_iload 3, s_iload 5, s_iadd, s_ic (0), s_iast, s_iinc 5 (1), s_goto 83, s_aload 0, s_getR 12 0 54, s_ic (2050), s_dup2, s_iald, s_ic (1), s_iadd, s_iast, s_aload 0, s_callV 12 0 Pre_X12_ahead Fn_X12_ahead, s_aload 0, s_iload 1, s_iload 3, s_callV 12 2 Pre_X12_yearOrder Fn_X12_yearOrder, s_ifne 112, s_ic (0), s_zret, s_iload 4, s_ifeq 126, s_aload 0, s_getR 12 21 61, s_aload 0, s_getI 12 22, s_iload 2, s_iast, s_aload 0, s_dup, s_getI 12 22, s_ic (1), s_iadd, s_putI 12 22, s_iload 1, s_ic (25), s_icne 161, s_aload 0, s_dup, s_getI 12 22, s_ic (1), s_isub, s_putI 12 22, s_aload 0, s_getR 12 0 54, s_iload 3, s_ic (4), s_iadd, s_aload 0, s_getR 12 21 61, s_aload 0, s_getI 12 22, s_iald, s_iast, s_aload 0, s_getR 12 0 54, s_ic (2186), s_ic (6), s_aload 0, s_getR 12 21 61, s_aload 0, s_getI 12 22, s_iald, s_imul, s_iadd, s_ic (4), s_iadd, s_iload 2, s_iast, s_aload 0, s_ic (59), s_callV 12 1 Pre_X12_wantSign Fn_X12_wantSign, s_zret]
def pc_X12_yearStep : Nat → Nat := fun i => [0, 1, 3, 6, 7, 8, 11, 14, 15, 16, 19, 21, 22, 23, 24, 25, 26, 28, 31, 32, 34, 37, 38, 41, 42, 44, 45, 47, 50, 51, 53, 56, 57, 59, 62, 63, 65, 68, 69, 72, 75, 76, 77, 80, 81, 82, 84, 87, 88, 91, 93, 96, 97, 99, 102, 103, 105, 108, 109, 112, 113, 116, 117, 119, 122, 123, 124, 125, 128, 129, 131, 134, 135, 138, 139, 140, 143, 144, 147, 148, 149, 150, 151, 153, 155, 157, 160, 161, 164, 165, 167, 168, 169, 170, 173, 176, 177, 180, 183, 184, 185, 186, 187, 188, 189, 192, 193, 194, 195, 198, 201, 202, 203, 205, 208, 209, 212, 213, 216, 217, 218, 219, 220, 223, 224, 225, 228, 229, 231, 234, 235, 236, 239, 240, 241, 244, 245, 248, 249, 250, 251, 252, 255, 256, 259, 260, 261, 262, 265, 268, 270, 271, 274, 275, 278, 279, 280, 281, 282, 283, 284, 285, 286, 288, 291].getD i 0
def dl_X12_yearStep : List (Nat × Instr × Nat) := [(0, .aload_n 0, 1), (1, .ldc 180, 2), (3, .invokevirtual 172, 3), (6, .istore_n 1, 1), (7, .aload_n 0, 1), (8, .getfield 7, 3), (11, .sipush 2050, 3), (14, .iaload, 1), (15, .istore_n 2, 1), (16, .sipush 2186, 3), (19, .bipush 6, 2), (21, .iload_n 2, 1), (22, .imul, 1), (23, .iadd, 1), (24, .istore_n 3, 1), (25, .iload_n 1, 1), (26, .bipush 23, 2), (28, .if_icmp .eq 9, 3), (31, .iload_n 1, 1), (32, .bipush 24, 2), (34, .if_icmp .ne 7, 3), (37, .iconst 1, 1), (38, .goto 4, 3), (41, .iconst 0, 1), (42, .istore 4, 2), (44, .iload_n 1, 1), (45, .bipush 16, 2), (47, .if_icmp .lt 28, 3), (50, .iload_n 1, 1), (51, .bipush 26, 2), (53, .if_icmp .gt 22, 3), (56, .iload_n 1, 1), (57, .bipush 22, 2), (59, .if_icmp .eq 16, 3), (62, .iload_n 1, 1), (63, .bipush 25, 2), (65, .if_icmp .ne 16, 3), (68, .aload_n 0, 1), (69, .getfield 253, 3), (72, .ifCond .ne 9, 3), (75, .aload_n 0, 1), (76, .iconst 2, 1), (77, .invokevirtual 169, 3), (80, .ireturn, 1), (81, .iload_n 1, 1), (82, .bipush 25, 2), (84, .if_icmp .eq 19, 3), (87, .aload_n 0, 1), (88, .getfield 256, 3), (91, .bipush 30, 2), (93, .if_icmp .ne 10, 3), (96, .aload_n 0, 1), (97, .bipush 6, 2), (99, .invokevirtual 169, 3), (102, .ireturn, 1), (103, .iload 4, 2), (105, .ifCond .eq 18, 3), (108, .aload_n 0, 1), (109, .getfield 253, 3), (112, .iconst 3, 1), (113, .if_icmp .ne 10, 3), (116, .aload_n 0, 1), (117, .bipush 7, 2), (119, .invokevirtual 169, 3), (122, .ireturn, 1), (123, .aload_n 0, 1), (124, .dup, 1), (125, .getfield 256, 3), (128, .iload_n 1, 1), (129, .bipush 25, 2), (131, .if_icmp .ne 7, 3), (134, .iconst 0, 1), (135, .goto 4, 3), (138, .iconst 1, 1), (139, .iadd, 1), (140, .putfield 256, 3), (143, .aload_n 0, 1), (144, .getfield 7, 3), (147, .iload_n 3, 1), (148, .iload_n 1, 1), (149, .iastore, 1), (150, .iconst 1, 1), (151, .istore 5, 2), (153, .iload 5, 2), (155, .bipush 6, 2), (157, .if_icmp .ge 19, 3), (160, .aload_n 0, 1), (161, .getfield 7, 3), (164, .iload_n 3, 1), (165, .iload 5, 2), (167, .iadd, 1), (168, .iconst 0, 1), (169, .iastore, 1), (170, .iinc 5 1, 3), (173, .goto (-20), 3), (176, .aload_n 0, 1), (177, .getfield 7, 3), (180, .sipush 2050, 3), (183, .dup2, 1), (184, .iaload, 1), (185, .iconst 1, 1), (186, .iadd, 1), (187, .iastore, 1), (188, .aload_n 0, 1), (189, .invokevirtual 163, 3), (192, .aload_n 0, 1), (193, .iload_n 1, 1), (194, .iload_n 3, 1), (195, .invokevirtual 259, 3), (198, .ifCond .ne 5, 3), (201, .iconst 0, 1), (202, .ireturn, 1), (203, .iload 4, 2), (205, .ifCond .eq 23, 3), (208, .aload_n 0, 1), (209, .getfield 44, 3), (212, .aload_n 0, 1), (213, .getfield 253, 3), (216, .iload_n 2, 1), (217, .iastore, 1), (218, .aload_n 0, 1), (219, .dup, 1), (220, .getfield 253, 3), (223, .iconst 1, 1), (224, .iadd, 1), (225, .putfield 253, 3), (228, .iload_n 1, 1), (229, .bipush 25, 2), (231, .if_icmp .ne 54, 3), (234, .aload_n 0, 1), (235, .dup, 1), (236, .getfield 253, 3), (239, .iconst 1, 1), (240, .isub, 1), (241, .putfield 253, 3), (244, .aload_n 0, 1), (245, .getfield 7, 3), (248, .iload_n 3, 1), (249, .iconst 4, 1), (250, .iadd, 1), (251, .aload_n 0, 1), (252, .getfield 44, 3), (255, .aload_n 0, 1), (256, .getfield 253, 3), (259, .iaload, 1), (260, .iastore, 1), (261, .aload_n 0, 1), (262, .getfield 7, 3), (265, .sipush 2186, 3), (268, .bipush 6, 2), (270, .aload_n 0, 1), (271, .getfield 44, 3), (274, .aload_n 0, 1), (275, .getfield 253, 3), (278, .iaload, 1), (279, .imul, 1), (280, .iadd, 1), (281, .iconst 4, 1), (282, .iadd, 1), (283, .iload_n 2, 1), (284, .iastore, 1), (285, .aload_n 0, 1), (286, .bipush 59, 2), (288, .invokevirtual 231, 3), (291, .ireturn, 1)]
theorem dc_X12_yearStep : DEC prog_14_method_54_code pc_X12_yearStep dl_X12_yearStep := DEC_of (by decide +kernel)
abbrev rm_X12_yearStep : Room := { frames := 11, cells := 0, slots := 0, locals := 241 }
set_option maxRecDepth 20000 in
theorem sa_X12_yearStep (l : Launch) : SNDALL l prog_14_method_54_code "GivenUpModel" 6 (some .boolean) rm_X12_yearStep P_X12_yearStep pc_X12_yearStep := fun p e s m args below meth c cells slots Q D dA ad A RR hC hR => by
  have hM := RTX_room (R := rm_X12_yearStep) hR
  exact ⟨st_aload_n hC (n := 0) (k := 0) (dc_X12_yearStep 0 (0, .aload_n 0, 1) rfl rfl) rfl rfl,
    st_ldS1 hC (n := 1) (dc_X12_yearStep 1 (1, .ldc 180, 2) rfl rfl) rfl rfl,
    st_callV hC (n := 2) (k := 12) (na := 1) (con_X12_inWords l) (dc_X12_yearStep 2 (3, .invokevirtual 172, 3) rfl rfl) rfl wd_1767 wd_160 (by decide) ⟨rfl, rfl, by decide, by decide⟩ hM wd_1764 wd_1766 wd_59 clf_12,
    st_istore_n hC (n := 3) (k := 1) (dc_X12_yearStep 3 (6, .istore_n 1, 1) rfl rfl) rfl rfl (by decide),
    st_aload_n hC (n := 4) (k := 0) (dc_X12_yearStep 4 (7, .aload_n 0, 1) rfl rfl) rfl rfl,
    st_getR hC (n := 5) (k := 12) (j := 0) (dc_X12_yearStep 5 (8, .getfield 7, 3) rfl rfl) rfl clf_12 (by decide) rfl (by decide) wd_1552,
    st_sipush hC (n := 6) (x := 2050) (dc_X12_yearStep 6 (11, .sipush 2050, 3) rfl rfl) rfl (by decide),
    st_iald hC (n := 7) (dc_X12_yearStep 7 (14, .iaload, 1) rfl rfl) rfl,
    st_istore_n hC (n := 8) (k := 2) (dc_X12_yearStep 8 (15, .istore_n 2, 1) rfl rfl) rfl rfl (by decide),
    st_sipush hC (n := 9) (x := 2186) (dc_X12_yearStep 9 (16, .sipush 2186, 3) rfl rfl) rfl (by decide),
    st_bipush hC (n := 10) (x := 6) (dc_X12_yearStep 10 (19, .bipush 6, 2) rfl rfl) rfl (by decide),
    st_iload_n hC (n := 11) (k := 2) (dc_X12_yearStep 11 (21, .iload_n 2, 1) rfl rfl) rfl rfl,
    st_imul hC (n := 12) (dc_X12_yearStep 12 (22, .imul, 1) rfl rfl) rfl,
    st_iadd hC (n := 13) (dc_X12_yearStep 13 (23, .iadd, 1) rfl rfl) rfl,
    st_istore_n hC (n := 14) (k := 3) (dc_X12_yearStep 14 (24, .istore_n 3, 1) rfl rfl) rfl rfl (by decide),
    st_iload_n hC (n := 15) (k := 1) (dc_X12_yearStep 15 (25, .iload_n 1, 1) rfl rfl) rfl rfl,
    st_bipush hC (n := 16) (x := 23) (dc_X12_yearStep 16 (26, .bipush 23, 2) rfl rfl) rfl (by decide),
    st_iceq hC (n := 17) (dc_X12_yearStep 17 (28, .if_icmp .eq 9, 3) rfl rfl) rfl (by decide),
    st_iload_n hC (n := 18) (k := 1) (dc_X12_yearStep 18 (31, .iload_n 1, 1) rfl rfl) rfl rfl,
    st_bipush hC (n := 19) (x := 24) (dc_X12_yearStep 19 (32, .bipush 24, 2) rfl rfl) rfl (by decide),
    st_icne hC (n := 20) (dc_X12_yearStep 20 (34, .if_icmp .ne 7, 3) rfl rfl) rfl (by decide),
    st_iconst hC (n := 21) (x := 1) (dc_X12_yearStep 21 (37, .iconst 1, 1) rfl rfl) rfl (by decide),
    st_goto hC (n := 22) (dc_X12_yearStep 22 (38, .goto 4, 3) rfl rfl) (by decide),
    st_iconst hC (n := 23) (x := 0) (dc_X12_yearStep 23 (41, .iconst 0, 1) rfl rfl) rfl (by decide),
    st_istore hC (n := 24) (dc_X12_yearStep 24 (42, .istore 4, 2) rfl rfl) rfl (by decide),
    st_iload_n hC (n := 25) (k := 1) (dc_X12_yearStep 25 (44, .iload_n 1, 1) rfl rfl) rfl rfl,
    st_bipush hC (n := 26) (x := 16) (dc_X12_yearStep 26 (45, .bipush 16, 2) rfl rfl) rfl (by decide),
    st_iclt hC (n := 27) (dc_X12_yearStep 27 (47, .if_icmp .lt 28, 3) rfl rfl) rfl (by decide),
    st_iload_n hC (n := 28) (k := 1) (dc_X12_yearStep 28 (50, .iload_n 1, 1) rfl rfl) rfl rfl,
    st_bipush hC (n := 29) (x := 26) (dc_X12_yearStep 29 (51, .bipush 26, 2) rfl rfl) rfl (by decide),
    st_icgt hC (n := 30) (dc_X12_yearStep 30 (53, .if_icmp .gt 22, 3) rfl rfl) rfl (by decide),
    st_iload_n hC (n := 31) (k := 1) (dc_X12_yearStep 31 (56, .iload_n 1, 1) rfl rfl) rfl rfl,
    st_bipush hC (n := 32) (x := 22) (dc_X12_yearStep 32 (57, .bipush 22, 2) rfl rfl) rfl (by decide),
    st_iceq hC (n := 33) (dc_X12_yearStep 33 (59, .if_icmp .eq 16, 3) rfl rfl) rfl (by decide),
    st_iload_n hC (n := 34) (k := 1) (dc_X12_yearStep 34 (62, .iload_n 1, 1) rfl rfl) rfl rfl,
    st_bipush hC (n := 35) (x := 25) (dc_X12_yearStep 35 (63, .bipush 25, 2) rfl rfl) rfl (by decide),
    st_icne hC (n := 36) (dc_X12_yearStep 36 (65, .if_icmp .ne 16, 3) rfl rfl) rfl (by decide),
    st_aload_n hC (n := 37) (k := 0) (dc_X12_yearStep 37 (68, .aload_n 0, 1) rfl rfl) rfl rfl,
    st_getI hC (n := 38) (k := 12) (j := 22) (dc_X12_yearStep 38 (69, .getfield 253, 3) rfl rfl) rfl clf_12 (by decide) rfl wd_1574,
    st_ifne hC (n := 39) (dc_X12_yearStep 39 (72, .ifCond .ne 9, 3) rfl rfl) rfl (by decide),
    st_aload_n hC (n := 40) (k := 0) (dc_X12_yearStep 40 (75, .aload_n 0, 1) rfl rfl) rfl rfl,
    st_iconst hC (n := 41) (x := 2) (dc_X12_yearStep 41 (76, .iconst 2, 1) rfl rfl) rfl (by decide),
    st_callV hC (n := 42) (k := 12) (na := 1) (con_X12_fails l) (dc_X12_yearStep 42 (77, .invokevirtual 169, 3) rfl rfl) rfl wd_1781 wd_160 (by decide) ⟨rfl, rfl, by decide, by decide⟩ hM wd_1778 wd_1780 wd_62 clf_12,
    st_zret hC (n := 43) hR (dc_X12_yearStep 43 (80, .ireturn, 1) rfl rfl),
    st_iload_n hC (n := 44) (k := 1) (dc_X12_yearStep 44 (81, .iload_n 1, 1) rfl rfl) rfl rfl,
    st_bipush hC (n := 45) (x := 25) (dc_X12_yearStep 45 (82, .bipush 25, 2) rfl rfl) rfl (by decide),
    st_iceq hC (n := 46) (dc_X12_yearStep 46 (84, .if_icmp .eq 19, 3) rfl rfl) rfl (by decide),
    st_aload_n hC (n := 47) (k := 0) (dc_X12_yearStep 47 (87, .aload_n 0, 1) rfl rfl) rfl rfl,
    st_getI hC (n := 48) (k := 12) (j := 23) (dc_X12_yearStep 48 (88, .getfield 256, 3) rfl rfl) rfl clf_12 (by decide) rfl wd_1575,
    st_bipush hC (n := 49) (x := 30) (dc_X12_yearStep 49 (91, .bipush 30, 2) rfl rfl) rfl (by decide),
    st_icne hC (n := 50) (dc_X12_yearStep 50 (93, .if_icmp .ne 10, 3) rfl rfl) rfl (by decide),
    st_aload_n hC (n := 51) (k := 0) (dc_X12_yearStep 51 (96, .aload_n 0, 1) rfl rfl) rfl rfl,
    st_bipush hC (n := 52) (x := 6) (dc_X12_yearStep 52 (97, .bipush 6, 2) rfl rfl) rfl (by decide),
    st_callV hC (n := 53) (k := 12) (na := 1) (con_X12_fails l) (dc_X12_yearStep 53 (99, .invokevirtual 169, 3) rfl rfl) rfl wd_1781 wd_160 (by decide) ⟨rfl, rfl, by decide, by decide⟩ hM wd_1778 wd_1780 wd_62 clf_12,
    st_zret hC (n := 54) hR (dc_X12_yearStep 54 (102, .ireturn, 1) rfl rfl),
    st_iload hC (n := 55) (dc_X12_yearStep 55 (103, .iload 4, 2) rfl rfl) rfl,
    st_ifeq hC (n := 56) (dc_X12_yearStep 56 (105, .ifCond .eq 18, 3) rfl rfl) rfl (by decide),
    st_aload_n hC (n := 57) (k := 0) (dc_X12_yearStep 57 (108, .aload_n 0, 1) rfl rfl) rfl rfl,
    st_getI hC (n := 58) (k := 12) (j := 22) (dc_X12_yearStep 58 (109, .getfield 253, 3) rfl rfl) rfl clf_12 (by decide) rfl wd_1574,
    st_iconst hC (n := 59) (x := 3) (dc_X12_yearStep 59 (112, .iconst 3, 1) rfl rfl) rfl (by decide),
    st_icne hC (n := 60) (dc_X12_yearStep 60 (113, .if_icmp .ne 10, 3) rfl rfl) rfl (by decide),
    st_aload_n hC (n := 61) (k := 0) (dc_X12_yearStep 61 (116, .aload_n 0, 1) rfl rfl) rfl rfl,
    st_bipush hC (n := 62) (x := 7) (dc_X12_yearStep 62 (117, .bipush 7, 2) rfl rfl) rfl (by decide),
    st_callV hC (n := 63) (k := 12) (na := 1) (con_X12_fails l) (dc_X12_yearStep 63 (119, .invokevirtual 169, 3) rfl rfl) rfl wd_1781 wd_160 (by decide) ⟨rfl, rfl, by decide, by decide⟩ hM wd_1778 wd_1780 wd_62 clf_12,
    st_zret hC (n := 64) hR (dc_X12_yearStep 64 (122, .ireturn, 1) rfl rfl),
    st_aload_n hC (n := 65) (k := 0) (dc_X12_yearStep 65 (123, .aload_n 0, 1) rfl rfl) rfl rfl,
    st_dup hC (n := 66) (dc_X12_yearStep 66 (124, .dup, 1) rfl rfl) rfl,
    st_getI hC (n := 67) (k := 12) (j := 23) (dc_X12_yearStep 67 (125, .getfield 256, 3) rfl rfl) rfl clf_12 (by decide) rfl wd_1575,
    st_iload_n hC (n := 68) (k := 1) (dc_X12_yearStep 68 (128, .iload_n 1, 1) rfl rfl) rfl rfl,
    st_bipush hC (n := 69) (x := 25) (dc_X12_yearStep 69 (129, .bipush 25, 2) rfl rfl) rfl (by decide),
    st_icne hC (n := 70) (dc_X12_yearStep 70 (131, .if_icmp .ne 7, 3) rfl rfl) rfl (by decide),
    st_iconst hC (n := 71) (x := 0) (dc_X12_yearStep 71 (134, .iconst 0, 1) rfl rfl) rfl (by decide),
    st_goto hC (n := 72) (dc_X12_yearStep 72 (135, .goto 4, 3) rfl rfl) (by decide),
    st_iconst hC (n := 73) (x := 1) (dc_X12_yearStep 73 (138, .iconst 1, 1) rfl rfl) rfl (by decide),
    st_iadd hC (n := 74) (dc_X12_yearStep 74 (139, .iadd, 1) rfl rfl) rfl,
    st_putI hC (n := 75) (k := 12) (j := 23) (dc_X12_yearStep 75 (140, .putfield 256, 3) rfl rfl) rfl clf_12 (by decide) rfl rfl rfl wd_1575,
    st_aload_n hC (n := 76) (k := 0) (dc_X12_yearStep 76 (143, .aload_n 0, 1) rfl rfl) rfl rfl,
    st_getR hC (n := 77) (k := 12) (j := 0) (dc_X12_yearStep 77 (144, .getfield 7, 3) rfl rfl) rfl clf_12 (by decide) rfl (by decide) wd_1552,
    st_iload_n hC (n := 78) (k := 3) (dc_X12_yearStep 78 (147, .iload_n 3, 1) rfl rfl) rfl rfl,
    st_iload_n hC (n := 79) (k := 1) (dc_X12_yearStep 79 (148, .iload_n 1, 1) rfl rfl) rfl rfl,
    st_iast hC (n := 80) (dc_X12_yearStep 80 (149, .iastore, 1) rfl rfl) rfl,
    st_iconst hC (n := 81) (x := 1) (dc_X12_yearStep 81 (150, .iconst 1, 1) rfl rfl) rfl (by decide),
    st_istore hC (n := 82) (dc_X12_yearStep 82 (151, .istore 5, 2) rfl rfl) rfl (by decide),
    st_iload hC (n := 83) (dc_X12_yearStep 83 (153, .iload 5, 2) rfl rfl) rfl,
    st_bipush hC (n := 84) (x := 6) (dc_X12_yearStep 84 (155, .bipush 6, 2) rfl rfl) rfl (by decide),
    st_icge hC (n := 85) (dc_X12_yearStep 85 (157, .if_icmp .ge 19, 3) rfl rfl) rfl (by decide),
    st_aload_n hC (n := 86) (k := 0) (dc_X12_yearStep 86 (160, .aload_n 0, 1) rfl rfl) rfl rfl,
    st_getR hC (n := 87) (k := 12) (j := 0) (dc_X12_yearStep 87 (161, .getfield 7, 3) rfl rfl) rfl clf_12 (by decide) rfl (by decide) wd_1552,
    st_iload_n hC (n := 88) (k := 3) (dc_X12_yearStep 88 (164, .iload_n 3, 1) rfl rfl) rfl rfl,
    st_iload hC (n := 89) (dc_X12_yearStep 89 (165, .iload 5, 2) rfl rfl) rfl,
    st_iadd hC (n := 90) (dc_X12_yearStep 90 (167, .iadd, 1) rfl rfl) rfl,
    st_iconst hC (n := 91) (x := 0) (dc_X12_yearStep 91 (168, .iconst 0, 1) rfl rfl) rfl (by decide),
    st_iast hC (n := 92) (dc_X12_yearStep 92 (169, .iastore, 1) rfl rfl) rfl,
    st_iinc hC (n := 93) (x := 1) (dc_X12_yearStep 93 (170, .iinc 5 1, 3) rfl rfl) rfl (by decide) (by decide),
    st_goto hC (n := 94) (dc_X12_yearStep 94 (173, .goto (-20), 3) rfl rfl) (by decide),
    st_aload_n hC (n := 95) (k := 0) (dc_X12_yearStep 95 (176, .aload_n 0, 1) rfl rfl) rfl rfl,
    st_getR hC (n := 96) (k := 12) (j := 0) (dc_X12_yearStep 96 (177, .getfield 7, 3) rfl rfl) rfl clf_12 (by decide) rfl (by decide) wd_1552,
    st_sipush hC (n := 97) (x := 2050) (dc_X12_yearStep 97 (180, .sipush 2050, 3) rfl rfl) rfl (by decide),
    st_dup2 hC (n := 98) (dc_X12_yearStep 98 (183, .dup2, 1) rfl rfl) rfl,
    st_iald hC (n := 99) (dc_X12_yearStep 99 (184, .iaload, 1) rfl rfl) rfl,
    st_iconst hC (n := 100) (x := 1) (dc_X12_yearStep 100 (185, .iconst 1, 1) rfl rfl) rfl (by decide),
    st_iadd hC (n := 101) (dc_X12_yearStep 101 (186, .iadd, 1) rfl rfl) rfl,
    st_iast hC (n := 102) (dc_X12_yearStep 102 (187, .iastore, 1) rfl rfl) rfl,
    st_aload_n hC (n := 103) (k := 0) (dc_X12_yearStep 103 (188, .aload_n 0, 1) rfl rfl) rfl rfl,
    st_callV hC (n := 104) (k := 12) (na := 0) (con_X12_ahead l) (dc_X12_yearStep 104 (189, .invokevirtual 163, 3) rfl rfl) rfl wd_1742 wd_160 (by decide) ⟨rfl, rfl, by decide, by decide⟩ hM wd_1739 wd_1741 wd_55 clf_12,
    st_aload_n hC (n := 105) (k := 0) (dc_X12_yearStep 105 (192, .aload_n 0, 1) rfl rfl) rfl rfl,
    st_iload_n hC (n := 106) (k := 1) (dc_X12_yearStep 106 (193, .iload_n 1, 1) rfl rfl) rfl rfl,
    st_iload_n hC (n := 107) (k := 3) (dc_X12_yearStep 107 (194, .iload_n 3, 1) rfl rfl) rfl rfl,
    st_callV hC (n := 108) (k := 12) (na := 2) (con_X12_yearOrder l) (dc_X12_yearStep 108 (195, .invokevirtual 259, 3) rfl rfl) rfl wd_1861 wd_160 (by decide) ⟨rfl, rfl, by decide, by decide⟩ hM wd_1858 wd_1860 wd_81 clf_12,
    st_ifne hC (n := 109) (dc_X12_yearStep 109 (198, .ifCond .ne 5, 3) rfl rfl) rfl (by decide),
    st_iconst hC (n := 110) (x := 0) (dc_X12_yearStep 110 (201, .iconst 0, 1) rfl rfl) rfl (by decide),
    st_zret hC (n := 111) hR (dc_X12_yearStep 111 (202, .ireturn, 1) rfl rfl),
    st_iload hC (n := 112) (dc_X12_yearStep 112 (203, .iload 4, 2) rfl rfl) rfl,
    st_ifeq hC (n := 113) (dc_X12_yearStep 113 (205, .ifCond .eq 23, 3) rfl rfl) rfl (by decide),
    st_aload_n hC (n := 114) (k := 0) (dc_X12_yearStep 114 (208, .aload_n 0, 1) rfl rfl) rfl rfl,
    st_getR hC (n := 115) (k := 12) (j := 21) (dc_X12_yearStep 115 (209, .getfield 44, 3) rfl rfl) rfl clf_12 (by decide) rfl (by decide) wd_1573,
    st_aload_n hC (n := 116) (k := 0) (dc_X12_yearStep 116 (212, .aload_n 0, 1) rfl rfl) rfl rfl,
    st_getI hC (n := 117) (k := 12) (j := 22) (dc_X12_yearStep 117 (213, .getfield 253, 3) rfl rfl) rfl clf_12 (by decide) rfl wd_1574,
    st_iload_n hC (n := 118) (k := 2) (dc_X12_yearStep 118 (216, .iload_n 2, 1) rfl rfl) rfl rfl,
    st_iast hC (n := 119) (dc_X12_yearStep 119 (217, .iastore, 1) rfl rfl) rfl,
    st_aload_n hC (n := 120) (k := 0) (dc_X12_yearStep 120 (218, .aload_n 0, 1) rfl rfl) rfl rfl,
    st_dup hC (n := 121) (dc_X12_yearStep 121 (219, .dup, 1) rfl rfl) rfl,
    st_getI hC (n := 122) (k := 12) (j := 22) (dc_X12_yearStep 122 (220, .getfield 253, 3) rfl rfl) rfl clf_12 (by decide) rfl wd_1574,
    st_iconst hC (n := 123) (x := 1) (dc_X12_yearStep 123 (223, .iconst 1, 1) rfl rfl) rfl (by decide),
    st_iadd hC (n := 124) (dc_X12_yearStep 124 (224, .iadd, 1) rfl rfl) rfl,
    st_putI hC (n := 125) (k := 12) (j := 22) (dc_X12_yearStep 125 (225, .putfield 253, 3) rfl rfl) rfl clf_12 (by decide) rfl rfl rfl wd_1574,
    st_iload_n hC (n := 126) (k := 1) (dc_X12_yearStep 126 (228, .iload_n 1, 1) rfl rfl) rfl rfl,
    st_bipush hC (n := 127) (x := 25) (dc_X12_yearStep 127 (229, .bipush 25, 2) rfl rfl) rfl (by decide),
    st_icne hC (n := 128) (dc_X12_yearStep 128 (231, .if_icmp .ne 54, 3) rfl rfl) rfl (by decide),
    st_aload_n hC (n := 129) (k := 0) (dc_X12_yearStep 129 (234, .aload_n 0, 1) rfl rfl) rfl rfl,
    st_dup hC (n := 130) (dc_X12_yearStep 130 (235, .dup, 1) rfl rfl) rfl,
    st_getI hC (n := 131) (k := 12) (j := 22) (dc_X12_yearStep 131 (236, .getfield 253, 3) rfl rfl) rfl clf_12 (by decide) rfl wd_1574,
    st_iconst hC (n := 132) (x := 1) (dc_X12_yearStep 132 (239, .iconst 1, 1) rfl rfl) rfl (by decide),
    st_isub hC (n := 133) (dc_X12_yearStep 133 (240, .isub, 1) rfl rfl) rfl,
    st_putI hC (n := 134) (k := 12) (j := 22) (dc_X12_yearStep 134 (241, .putfield 253, 3) rfl rfl) rfl clf_12 (by decide) rfl rfl rfl wd_1574,
    st_aload_n hC (n := 135) (k := 0) (dc_X12_yearStep 135 (244, .aload_n 0, 1) rfl rfl) rfl rfl,
    st_getR hC (n := 136) (k := 12) (j := 0) (dc_X12_yearStep 136 (245, .getfield 7, 3) rfl rfl) rfl clf_12 (by decide) rfl (by decide) wd_1552,
    st_iload_n hC (n := 137) (k := 3) (dc_X12_yearStep 137 (248, .iload_n 3, 1) rfl rfl) rfl rfl,
    st_iconst hC (n := 138) (x := 4) (dc_X12_yearStep 138 (249, .iconst 4, 1) rfl rfl) rfl (by decide),
    st_iadd hC (n := 139) (dc_X12_yearStep 139 (250, .iadd, 1) rfl rfl) rfl,
    st_aload_n hC (n := 140) (k := 0) (dc_X12_yearStep 140 (251, .aload_n 0, 1) rfl rfl) rfl rfl,
    st_getR hC (n := 141) (k := 12) (j := 21) (dc_X12_yearStep 141 (252, .getfield 44, 3) rfl rfl) rfl clf_12 (by decide) rfl (by decide) wd_1573,
    st_aload_n hC (n := 142) (k := 0) (dc_X12_yearStep 142 (255, .aload_n 0, 1) rfl rfl) rfl rfl,
    st_getI hC (n := 143) (k := 12) (j := 22) (dc_X12_yearStep 143 (256, .getfield 253, 3) rfl rfl) rfl clf_12 (by decide) rfl wd_1574,
    st_iald hC (n := 144) (dc_X12_yearStep 144 (259, .iaload, 1) rfl rfl) rfl,
    st_iast hC (n := 145) (dc_X12_yearStep 145 (260, .iastore, 1) rfl rfl) rfl,
    st_aload_n hC (n := 146) (k := 0) (dc_X12_yearStep 146 (261, .aload_n 0, 1) rfl rfl) rfl rfl,
    st_getR hC (n := 147) (k := 12) (j := 0) (dc_X12_yearStep 147 (262, .getfield 7, 3) rfl rfl) rfl clf_12 (by decide) rfl (by decide) wd_1552,
    st_sipush hC (n := 148) (x := 2186) (dc_X12_yearStep 148 (265, .sipush 2186, 3) rfl rfl) rfl (by decide),
    st_bipush hC (n := 149) (x := 6) (dc_X12_yearStep 149 (268, .bipush 6, 2) rfl rfl) rfl (by decide),
    st_aload_n hC (n := 150) (k := 0) (dc_X12_yearStep 150 (270, .aload_n 0, 1) rfl rfl) rfl rfl,
    st_getR hC (n := 151) (k := 12) (j := 21) (dc_X12_yearStep 151 (271, .getfield 44, 3) rfl rfl) rfl clf_12 (by decide) rfl (by decide) wd_1573,
    st_aload_n hC (n := 152) (k := 0) (dc_X12_yearStep 152 (274, .aload_n 0, 1) rfl rfl) rfl rfl,
    st_getI hC (n := 153) (k := 12) (j := 22) (dc_X12_yearStep 153 (275, .getfield 253, 3) rfl rfl) rfl clf_12 (by decide) rfl wd_1574,
    st_iald hC (n := 154) (dc_X12_yearStep 154 (278, .iaload, 1) rfl rfl) rfl,
    st_imul hC (n := 155) (dc_X12_yearStep 155 (279, .imul, 1) rfl rfl) rfl,
    st_iadd hC (n := 156) (dc_X12_yearStep 156 (280, .iadd, 1) rfl rfl) rfl,
    st_iconst hC (n := 157) (x := 4) (dc_X12_yearStep 157 (281, .iconst 4, 1) rfl rfl) rfl (by decide),
    st_iadd hC (n := 158) (dc_X12_yearStep 158 (282, .iadd, 1) rfl rfl) rfl,
    st_iload_n hC (n := 159) (k := 2) (dc_X12_yearStep 159 (283, .iload_n 2, 1) rfl rfl) rfl rfl,
    st_iast hC (n := 160) (dc_X12_yearStep 160 (284, .iastore, 1) rfl rfl) rfl,
    st_aload_n hC (n := 161) (k := 0) (dc_X12_yearStep 161 (285, .aload_n 0, 1) rfl rfl) rfl rfl,
    st_bipush hC (n := 162) (x := 59) (dc_X12_yearStep 162 (286, .bipush 59, 2) rfl rfl) rfl (by decide),
    st_callV hC (n := 163) (k := 12) (na := 1) (con_X12_wantSign l) (dc_X12_yearStep 163 (288, .invokevirtual 231, 3) rfl rfl) rfl wd_1837 wd_160 (by decide) ⟨rfl, rfl, by decide, by decide⟩ hM wd_1834 wd_1836 wd_76 clf_12,
    st_zret hC (n := 164) hR (dc_X12_yearStep 164 (291, .ireturn, 1) rfl rfl), trivial⟩
set_option maxRecDepth 8000 in
theorem vc_X12_yearStep : VC P_X12_yearStep 6 Pre_X12_yearStep Fn_X12_yearStep := by
  rintro mm as hom hoa ⟨ns, nm, nt, L, d, c, ⟨hY, hL, ⟨hd, hd3⟩, ⟨hc, hc30⟩, hLd, hop⟩, rfl⟩
  refine ⟨Nat.le_of_ble_eq_true rfl, fun X h => ?_⟩
  have hL60 : L ≤ 60 := by omega
  obtain ⟨r, hr⟩ : ∃ r, r = 2186 + 6 * L := ⟨_, rfl⟩
  have er : (nI r).toNatClampNeg = r := nI_clamp (by omega)
  have eR : 2186 + 6 * nI L = nI r := by rw [hr]; simp (disch := omega) only [li, pk_mul, nI_add, nI_clamp]
  obtain ⟨k, hk⟩ : ∃ k, k = kyA mm := ⟨_, rfl⟩
  replace h : RUN P_X12_yearStep (RT (pYs mm)) X := h
  have hp : pYs mm = pYq mm k (nI L) r := by unfold pYs; rw [hL, nI_clamp (by omega), ← hr, hk]
  rw [hp] at h
  clear hp
  -- behind the order
  have s126 : ∀ M v L5 p (e : Nat), YT M ns nm nt → (k = 25 → 1 ≤ e) → M.1 12 0 22 = nI e → e ≤ 3 → (∀ i, i < e → ∃ o, o < 60 ∧ M.1 61 0 i = nI o) → L ≤ 59 → p = ysD k (nI L) r M → RUN P_X12_yearStep (RT p) X → X 126 [some (vR 12 0), some (vI (k)), some (vI (nI L)), some (vI (nI r)), some (vI (v)), L5] [] (M) := by
    intro M v L5 p e hM he hde he3 hops hL59 hp h
    unfold ysD at hp
    have s161 : ∀ N, TXo N → p = pSg N 59 → X 161 [some (vR 12 0), some (vI (k)), some (vI (nI L)), some (vI (nI r)), some (vI (v)), L5] [] (N) := by
      intro N hN hq
      show X 161 [some (vR 12 0), some (vI k), some (vI (nI L)), some (vI (nI r)), some (vI v), L5] [] N
      refine h (fun _ => false) 3000 161 _ _ _ ?_
      refine And.intro (show Pre_X12_wantSign N [vR 12 0, vI 59] from ⟨hN, _, rfl⟩) ?_
      refine And.intro bI_in ?_
      show ((some (vI (bI ((pSg N 59).1 = true))) : Option MV), (pSg N 59).2) = _
      exact PR_q hq
    have close : k = 25 → X 129 [some (vR 12 0), some (vI (k)), some (vI (nI L)), some (vI (nI r)), some (vI (v)), L5] [] (M) := by
      intro hk25
      rw [mite_t hk25] at hp
      have he1 := he hk25
      obtain ⟨o, ho, eo⟩ := hops (e - 1) (by omega)
      have ed : M.1 12 0 22 - 1 = nI (e - 1) := by rw [hde, show (1 : Int32) = nI 1 from rfl, nI_sb he1]
      have en : (nI (e - 1)).toNatClampNeg = e - 1 := nI_clamp (by omega)
      have eO : clO M = nI o := by unfold clO; rw [ed, en]; exact eo
      have x4 : nI r + 4 = nI (r + 4) := by simp (disch := omega) only [li, pk_mul, nI_add, nI_clamp]
      have e4 : (nI (r + 4)).toNatClampNeg = r + 4 := nI_clamp (by omega)
      have xo : 2186 + 6 * nI o + 4 = nI (2190 + 6 * o) := by simp (disch := omega) only [li, pk_mul, nI_add, nI_clamp]; congr 1; omega
      have eo2 : (nI (2190 + 6 * o)).toNatClampNeg = 2190 + 6 * o := nI_clamp (by omega)
      have ecl : clM M (nI L) r = mI (mI (mI M 12 0 22 (M.1 12 0 22 - 1)) 54 0 (r + 4) (nI o)) 54 0 (2190 + 6 * o) (nI L) := by unfold clM; rw [eO, nI_clamp (by omega)]
      rw [ecl] at hp
      show X 129 [some (vR 12 0), some (vI k), some (vI (nI L)), some (vI (nI r)), some (vI v), L5] [] M
      refine h (fun i => Nat.beq i 161) 3000 129 _ _ _ ?_
      refine And.intro (show inb ((M.1 12 0 22) - 1) (alen 61) = true from (inb_o 3 (j := e - 1) rfl rfl ed (by omega))) ?_
      refine And.intro (show inb ((nI r) + 4) (alen 54) = true from (inb_o 3060 rfl rfl x4 (by omega))) ?_
      refine And.intro (show inb ((M.1 12 0 22) - 1) (alen 61) = true from (inb_o 3 (j := e - 1) rfl rfl ed (by omega))) ?_
      refine And.intro (show inb ((2186 + (6 * (M.1 61 0 (((M.1 12 0 22) - 1).toNatClampNeg)))) + 4) (alen 54) = true from (by rw [ed, en, eo]; exact inb_o 3060 rfl rfl xo (by omega))) ?_
      show X 161 [some (vR 12 0), some (vI k), some (vI (nI L)), some (vI (nI r)), some (vI v), L5] [] (mRow (mRow (mI M 12 0 22 ((M.1 12 0 22) - 1)) 54 0 (upd (M.1 54 0) ((nI r) + 4).toNatClampNeg (M.1 61 0 (((M.1 12 0 22) - 1).toNatClampNeg)))) 54 0 (upd (upd (M.1 54 0) ((nI r) + 4).toNatClampNeg (M.1 61 0 (((M.1 12 0 22) - 1).toNatClampNeg))) ((2186 + (6 * (M.1 61 0 (((M.1 12 0 22) - 1).toNatClampNeg)))) + 4).toNatClampNeg (nI L)))
      (try simp only [ed, en, eo, x4, e4, xo, eo2])
      rw [ed] at hp
      exact s161 _ hM.1 hp
    show X 126 [some (vR 12 0), some (vI k), some (vI (nI L)), some (vI (nI r)), some (vI v), L5] [] M
    refine h (fun i => Nat.beq i 129 || Nat.beq i 161) 3000 126 _ _ _ ?_
    refine brn_c (fun b128 => ?_) (fun b128 => ?_)
    · -- 128: k = 25 taken
      replace b128 : ¬ (k = 25) := b128
      show X 161 [some (vR 12 0), some (vI k), some (vI (nI L)), some (vI (nI r)), some (vI v), L5] [] M
      rw [mite_f b128] at hp
      exact s161 _ hM.1 hp
    · -- 128: k = 25 on
      replace b128 : k = 25 := b128
      show X 129 [some (vR 12 0), some (vI k), some (vI (nI L)), some (vI (nI r)), some (vI v), L5] [] M
      exact close b128
  have s112 : ∀ M v L5 p, YT M ns nm nt → v = bI (opP k) → M.1 12 0 22 = nI d → (k = 25 → 1 ≤ d) → (opP k → d < 3) → (∀ i, i < d → ∃ o, o < 60 ∧ M.1 61 0 i = nI o) → L ≤ 59 → p = ysC k (nI L) r M → RUN P_X12_yearStep (RT p) X → X 112 [some (vR 12 0), some (vI (k)), some (vI (nI L)), some (vI (nI r)), some (vI (v)), L5] [] (M) := by
    intro M v L5 p hM hv hde h25 hlt hops hL59 hp h
    unfold ysC at hp
    have ed : (nI d).toNatClampNeg = d := nI_clamp (by omega)
    have open_ : opP k → X 114 [some (vR 12 0), some (vI (k)), some (vI (nI L)), some (vI (nI r)), some (vI (v)), L5] [] (M) := by
      intro ho
      rw [mite_t ho] at hp
      have hd2 := hlt ho
      have n25 : ¬ k = 25 := fun z => by rcases ho with y | y <;> rw [y] at z <;> exact absurd z (by decide)
      have eop : opM M (nI L) = mI (mRow M 61 0 (upd (M.1 61 0) d (nI L))) 12 0 22 (M.1 12 0 22 + 1) := by unfold opM; rw [hde, ed]
      rw [eop] at hp
      show X 114 [some (vR 12 0), some (vI k), some (vI (nI L)), some (vI (nI r)), some (vI v), L5] [] M
      refine h (fun i => Nat.beq i 126) 3000 114 _ _ _ ?_
      refine And.intro (show inb (M.1 12 0 22) (alen 61) = true from (inb_o 3 rfl rfl hde (by omega))) ?_
      show X 126 [some (vR 12 0), some (vI k), some (vI (nI L)), some (vI (nI r)), some (vI v), L5] [] (mI (mRow M 61 0 (upd (M.1 61 0) (M.1 12 0 22).toNatClampNeg (nI L))) 12 0 22 ((M.1 12 0 22) + 1))
      (try simp only [hde, ed])
      rw [hde] at hp
      refine s126 _ v _ _ (d + 1) hM (fun z => absurd z n25) (nI_1 d) (by omega) (fun i hi => ?_) hL59 hp h 
      show ∃ o, o < 60 ∧ upd (M.1 61 0) d (nI L) i = nI o 
      by_cases hid : i = d 
      · exact ⟨L, by omega, by rw [hid, upd_eq]⟩ 
      · rw [upd_ne hid]; exact hops i (by omega)
    show X 112 [some (vR 12 0), some (vI k), some (vI (nI L)), some (vI (nI r)), some (vI v), L5] [] M
    refine h (fun i => Nat.beq i 114 || Nat.beq i 126) 3000 112 _ _ _ ?_
    refine br_c (fun b113 => ?_) (fun b113 => ?_)
    · -- 113: v = 0 taken
      replace b113 : v = 0 := b113
      replace b113 : ¬ opP k := by rw [hv] at b113; exact bI_0.mp b113
      show X 126 [some (vR 12 0), some (vI k), some (vI (nI L)), some (vI (nI r)), some (vI v), L5] [] M
      rw [mite_f b113] at hp
      exact s126 _ v _ _ d hM h25 hde hd3 hops hL59 hp h
    · -- 113: v = 0 on
      replace b113 : ¬ (v = 0) := b113
      replace b113 : opP k := by rw [hv] at b113; exact bI_n0.mp b113
      show X 114 [some (vR 12 0), some (vI k), some (vI (nI L)), some (vI (nI r)), some (vI v), L5] [] M
      exact open_ b113
  have s65 : ∀ v, v = bI (opP k) → ¬ ysF mm k → ¬ (¬ k = 25 ∧ mm.1 12 0 23 = 30) → ¬ (opP k ∧ mm.1 12 0 22 = 3) → X 65 [some (vR 12 0), some (vI (k)), some (vI (nI L)), some (vI (nI r)), some (vI (v)), none] [] mm := by
    intro v hv h1 h2 h3
    have hp : pYq mm k (nI L) r = ysB k (nI L) r (ahM (lnM mm k r)) := by unfold pYq; rw [if_neg h1, if_neg h2, if_neg h3]
    rw [hp] at h
    have h25 : k = 25 → 1 ≤ d := fun z => by
      rcases Nat.eq_zero_or_pos d with y | y
      · exact absurd (Or.inr (Or.inr (Or.inr ⟨z, by rw [hd, y]; rfl⟩))) h1
      · exact y
    have hL59 : L ≤ 59 := by
      by_cases z : k = 25
      · have := h25 z; omega
      · have : ¬ c = 30 := fun y => h2 ⟨z, by rw [hc, y]; rfl⟩
        omega
    have hlt : opP k → d < 3 := fun z => by
      have : ¬ d = 3 := fun y => h3 ⟨z, by rw [hd, y]; rfl⟩
      omega
    have hLN : YT (lnM mm k r) ns nm nt := YT_ln hY (by omega)
    have s103 : ∀ L5, X 103 [some (vR 12 0), some (vI (k)), some (vI (nI L)), some (vI (nI r)), some (vI (v)), L5] [] (lnM mm k r) := by
      intro L5
      have hK := KY_yo (k := k) (r := r) (KY_r (ahM (lnM mm k r))) (by omega)
      have hYo := YT_yo (k := k) (r := r) (YT_ah hLN) (by omega)
      have k22 : (lnM mm k r).1 12 0 22 = mm.1 12 0 22 := rfl
      unfold ysB at h
      show X 103 [some (vR 12 0), some (vI k), some (vI (nI L)), some (vI (nI r)), some (vI v), L5] [] (lnM mm k r)
      refine h (fun i => Nat.beq i 112) 3000 103 _ _ _ ?_
      refine And.intro (show Pre_X12_ahead (lnM mm k r) [vR 12 0] from (TXo_pre hLN.1)) ?_
      refine And.intro (show Pre_X12_yearOrder (ahM (lnM mm k r)) [vR 12 0, vI k, vI (nI r)] from ⟨ns, nm, nt, k, r, YT_ah hLN, by omega, by omega, rfl⟩) ?_
      refine brn_c (fun b109 => ?_) (fun b109 => ?_)
      · -- 109: bI ((pYo (ahM (lnM mm k r)) k (nI r).toNatClampNeg).1 = true) = 0 taken
        replace b109 : (pYo (ahM (lnM mm k r)) k (nI r).toNatClampNeg).1 = true := bI_n0.mp b109
        (try simp only [er] at b109)
        show X 112 [some (vR 12 0), some (vI k), some (vI (nI L)), some (vI (nI r)), some (vI v), L5] [] ((pYo (ahM (lnM mm k r)) k (nI r).toNatClampNeg).2)
        (try simp only [er])
        refine s112 _ v _ _ hYo hv ((hK.1 22 (by decide)).trans hd) h25 hlt (fun i hi => ?_) hL59 (pBd_t b109) h
        obtain ⟨o, ho, eo⟩ := hop i hi 
        exact ⟨o, by omega, by rw [hK.2.1]; exact eo⟩
      · -- 109: bI ((pYo (ahM (lnM mm k r)) k (nI r).toNatClampNeg).1 = true) = 0 on
        replace b109 : ¬ ((pYo (ahM (lnM mm k r)) k (nI r).toNatClampNeg).1 = true) := bI_0.mp b109
        (try simp only [er] at b109)
        refine And.intro (Or.inl rfl) ?_
        show ((some (vI 0) : Option MV), (pYo (ahM (lnM mm k r)) k (nI r).toNatClampNeg).2) = _
        (try simp only [er])
        exact PR_f (pBd_f b109)
    have s76 : ∀ N, N = mI mm 12 0 23 (mm.1 12 0 23 + (if k = 25 then 0 else 1)) → X 76 [some (vR 12 0), some (vI (k)), some (vI (nI L)), some (vI (nI r)), some (vI (v)), none] [] (N) := by
      intro N hN
      have e54 : N.1 54 0 = mm.1 54 0 := by rw [hN]; rfl
      have eln : lnM mm k r = mRow N 54 0 (upd (lnF (mm.1 54 0) k r) 2050 (lnF (mm.1 54 0) k r 2050 + 1)) := by rw [hN]; rfl
      rw [eln] at s103
      have loop : ∀ i, i ≤ 5 → X 83 [some (vR 12 0), some (vI (k)), some (vI (nI L)), some (vI (nI r)), some (vI (v)), some (vI (nI (i + 1)))] [] (mRow N 54 0 (zrR (upd (mm.1 54 0) r k) (r + 1) i)) := by
        refine up_ind 5 ?_ (fun i hi ih => ?_)
        ·
          show X 83 [some (vR 12 0), some (vI k), some (vI (nI L)), some (vI (nI r)), some (vI v), some (vI (nI 6))] [] (mRow N 54 0 (zrR (upd (mm.1 54 0) r k) (r + 1) 5))
          refine h (fun i => Nat.beq i 103) 3000 83 _ _ _ ?_
          refine br_t (Int32.le_refl _) ?_
          refine And.intro (show inb 2050 (alen 54) = true from rfl) ?_
          refine And.intro (show inb 2050 (alen 54) = true from rfl) ?_
          show X 103 [some (vR 12 0), some (vI k), some (vI (nI L)), some (vI (nI r)), some (vI v), some (vI (nI 6))] [] (mRow (mRow N 54 0 (zrR (upd (mm.1 54 0) r k) (r + 1) 5)) 54 0 (upd (zrR (upd (mm.1 54 0) r k) (r + 1) 5) 2050 (((zrR (upd (mm.1 54 0) r k) (r + 1) 5) 2050) + 1)))
          rw [mRow2]
          exact s103 _
        · have ei : (nI r + nI (i + 1)).toNatClampNeg = r + 1 + i := by rw [nI_add, nI_clamp (by omega)]; omega
          show X 83 [some (vR 12 0), some (vI k), some (vI (nI L)), some (vI (nI r)), some (vI v), some (vI (nI (i + 1)))] [] (mRow N 54 0 (zrR (upd (mm.1 54 0) r k) (r + 1) i))
          refine h (fun i => Nat.beq i 83) 3000 83 _ _ _ ?_
          refine br_f (show ¬ nI 6 ≤ nI (i + 1) from nI_ge (by omega) (by omega)) ?_
          refine And.intro (show inb ((nI r) + (nI (i + 1))) (alen 54) = true from (inb_o 3060 rfl rfl (nI_add r (i + 1)) (by omega))) ?_
          show X 83 [some (vR 12 0), some (vI k), some (vI (nI L)), some (vI (nI r)), some (vI v), some (vI ((nI (i + 1)) + 1))] [] (mRow (mRow N 54 0 (zrR (upd (mm.1 54 0) r k) (r + 1) i)) 54 0 (upd (zrR (upd (mm.1 54 0) r k) (r + 1) i) ((nI r) + (nI (i + 1))).toNatClampNeg 0))
          rw [ei, mRow2, zrR_s, nI_1]
          exact ih
      have l0 := loop 0 (by omega)
      rw [zrR_0] at l0
      show X 76 [some (vR 12 0), some (vI k), some (vI (nI L)), some (vI (nI r)), some (vI v), none] [] N
      refine h (fun i => Nat.beq i 83) 3000 76 _ _ _ ?_
      refine And.intro (show inb (nI r) (alen 54) = true from (inb_o 3060 rfl rfl rfl (by omega))) ?_
      show X 83 [some (vR 12 0), some (vI k), some (vI (nI L)), some (vI (nI r)), some (vI v), some (vI 1)] [] (mRow N 54 0 (upd (N.1 54 0) (nI r).toNatClampNeg k))
      rw [er, e54]
      exact l0
    show X 65 [some (vR 12 0), some (vI k), some (vI (nI L)), some (vI (nI r)), some (vI v), none] [] mm
    refine h (fun i => Nat.beq i 76) 3000 65 _ _ _ ?_
    refine brn_c (fun b70 => ?_) (fun b70 => ?_)
    · -- 70: k = 25 taken
      replace b70 : ¬ (k = 25) := b70
      show X 76 [some (vR 12 0), some (vI k), some (vI (nI L)), some (vI (nI r)), some (vI v), none] [] (mI mm 12 0 23 ((mm.1 12 0 23) + 1))
      exact s76 _ (by rw [if_neg b70])
    · -- 70: k = 25 on
      replace b70 : k = 25 := b70
      show X 76 [some (vR 12 0), some (vI k), some (vI (nI L)), some (vI (nI r)), some (vI v), none] [] (mI mm 12 0 23 ((mm.1 12 0 23) + 0))
      exact s76 _ (by rw [if_pos b70])
  have s25 : ∀ v, v = bI (opP k) → X 25 [some (vR 12 0), some (vI (k)), some (vI (nI L)), some (vI (nI r)), some (vI (v)), none] [] mm := by
    intro v hv
    have f40 : ysF mm k → X 40 [some (vR 12 0), some (vI (k)), some (vI (nI L)), some (vI (nI r)), some (vI (v)), none] [] mm := by
      intro hf
      show X 40 [some (vR 12 0), some (vI k), some (vI (nI L)), some (vI (nI r)), some (vI v), none] [] mm
      refine h (fun _ => false) 3000 40 _ _ _ ?_
      refine And.intro (show Pre_X12_fails mm [vR 12 0, vI 2] from ⟨_, rfl⟩) ?_
      refine And.intro (Or.inl rfl) ?_
      show ((some (vI 0) : Option MV), faM mm 2) = _
      exact PR_f (if_pos hf)
    have s55 : ¬ ysF mm k → ¬ (¬ k = 25 ∧ mm.1 12 0 23 = 30) → X 55 [some (vR 12 0), some (vI (k)), some (vI (nI L)), some (vI (nI r)), some (vI (v)), none] [] mm := by
      intro h1 h2
      show X 55 [some (vR 12 0), some (vI k), some (vI (nI L)), some (vI (nI r)), some (vI v), none] [] mm
      refine h (fun i => Nat.beq i 65) 3000 55 _ _ _ ?_
      refine br_c (fun b56 => ?_) (fun b56 => ?_)
      · -- 56: v = 0 taken
        replace b56 : v = 0 := b56
        replace b56 : ¬ opP k := by rw [hv] at b56; exact bI_0.mp b56
        show X 65 [some (vR 12 0), some (vI k), some (vI (nI L)), some (vI (nI r)), some (vI v), none] [] mm
        exact s65 v hv h1 h2 (fun z => b56 z.1)
      · -- 56: v = 0 on
        replace b56 : ¬ (v = 0) := b56
        replace b56 : opP k := by rw [hv] at b56; exact bI_n0.mp b56
        refine brn_c (fun b60 => ?_) (fun b60 => ?_)
        · -- 60: mm.1 12 0 22 = 3 taken
          replace b60 : ¬ (mm.1 12 0 22 = 3) := b60
          show X 65 [some (vR 12 0), some (vI k), some (vI (nI L)), some (vI (nI r)), some (vI v), none] [] mm
          exact s65 v hv h1 h2 (fun z => b60 z.2)
        · -- 60: mm.1 12 0 22 = 3 on
          replace b60 : mm.1 12 0 22 = 3 := b60
          refine And.intro (show Pre_X12_fails mm [vR 12 0, vI 7] from ⟨_, rfl⟩) ?_
          refine And.intro (Or.inl rfl) ?_
          show ((some (vI 0) : Option MV), faM mm 7) = _
          exact PR_f (by unfold pYq; rw [if_neg h1, if_neg h2, if_pos ⟨b56, b60⟩])
    have s44 : ¬ ysF mm k → X 44 [some (vR 12 0), some (vI (k)), some (vI (nI L)), some (vI (nI r)), some (vI (v)), none] [] mm := by
      intro h1
      show X 44 [some (vR 12 0), some (vI k), some (vI (nI L)), some (vI (nI r)), some (vI v), none] [] mm
      refine h (fun i => Nat.beq i 55) 3000 44 _ _ _ ?_
      refine br_c (fun b46 => ?_) (fun b46 => ?_)
      · -- 46: k = 25 taken
        replace b46 : k = 25 := b46
        show X 55 [some (vR 12 0), some (vI k), some (vI (nI L)), some (vI (nI r)), some (vI v), none] [] mm
        exact s55 h1 (fun z => z.1 b46)
      · -- 46: k = 25 on
        replace b46 : ¬ (k = 25) := b46
        refine brn_c (fun b50 => ?_) (fun b50 => ?_)
        · -- 50: mm.1 12 0 23 = 30 taken
          replace b50 : ¬ (mm.1 12 0 23 = 30) := b50
          show X 55 [some (vR 12 0), some (vI k), some (vI (nI L)), some (vI (nI r)), some (vI v), none] [] mm
          exact s55 h1 (fun z => b50 z.2)
        · -- 50: mm.1 12 0 23 = 30 on
          replace b50 : mm.1 12 0 23 = 30 := b50
          refine And.intro (show Pre_X12_fails mm [vR 12 0, vI 6] from ⟨_, rfl⟩) ?_
          refine And.intro (Or.inl rfl) ?_
          show ((some (vI 0) : Option MV), faM mm 6) = _
          exact PR_f (by unfold pYq; rw [if_neg h1, if_pos ⟨b46, b50⟩])
    show X 25 [some (vR 12 0), some (vI k), some (vI (nI L)), some (vI (nI r)), some (vI v), none] [] mm
    refine h (fun i => Nat.beq i 40 || Nat.beq i 44) 3000 25 _ _ _ ?_
    refine br_c (fun b27 => ?_) (fun b27 => ?_)
    · -- 27: k < 16 taken
      replace b27 : k < 16 := b27
      show X 40 [some (vR 12 0), some (vI k), some (vI (nI L)), some (vI (nI r)), some (vI v), none] [] mm
      exact f40 (Or.inl b27)
    · -- 27: k < 16 on
      replace b27 : ¬ (k < 16) := b27
      refine br_c (fun b30 => ?_) (fun b30 => ?_)
      · -- 30: 26 < k taken
        replace b30 : 26 < k := b30
        show X 40 [some (vR 12 0), some (vI k), some (vI (nI L)), some (vI (nI r)), some (vI v), none] [] mm
        exact f40 (Or.inr (Or.inl b30))
      · -- 30: 26 < k on
        replace b30 : ¬ (26 < k) := b30
        refine br_c (fun b33 => ?_) (fun b33 => ?_)
        · -- 33: k = 22 taken
          replace b33 : k = 22 := b33
          show X 40 [some (vR 12 0), some (vI k), some (vI (nI L)), some (vI (nI r)), some (vI v), none] [] mm
          exact f40 (Or.inr (Or.inr (Or.inl b33)))
        · -- 33: k = 22 on
          replace b33 : ¬ (k = 22) := b33
          refine brn_c (fun b36 => ?_) (fun b36 => ?_)
          · -- 36: k = 25 taken
            replace b36 : ¬ (k = 25) := b36
            show X 44 [some (vR 12 0), some (vI k), some (vI (nI L)), some (vI (nI r)), some (vI v), none] [] mm
            exact s44 (fun z => z.elim b27 (fun z => z.elim b30 (fun z => z.elim b33 (fun z => b36 z.1))))
          · -- 36: k = 25 on
            replace b36 : k = 25 := b36
            refine brn_c (fun b39 => ?_) (fun b39 => ?_)
            · -- 39: mm.1 12 0 22 = 0 taken
              replace b39 : ¬ (mm.1 12 0 22 = 0) := b39
              show X 44 [some (vR 12 0), some (vI k), some (vI (nI L)), some (vI (nI r)), some (vI v), none] [] mm
              exact s44 (fun z => z.elim b27 (fun z => z.elim b30 (fun z => z.elim b33 (fun z => b39 z.2))))
            · -- 39: mm.1 12 0 22 = 0 on
              replace b39 : mm.1 12 0 22 = 0 := b39
              show X 40 [some (vR 12 0), some (vI k), some (vI (nI L)), some (vI (nI r)), some (vI v), none] [] mm
              exact f40 (Or.inr (Or.inr (Or.inr ⟨b36, b39⟩)))
  suffices z : X 15 [some (vR 12 0), some (vI (k)), some (vI (nI L)), some (vI (nI r)), none, none] [] mm by
    show X 0 [some (vR 12 0), none, none, none, none, none] [] mm
    refine h (fun i => Nat.beq i 15) 3000 0 _ _ _ ?_
    refine And.intro (show Pre_X12_inWords mm [vR 12 0, vR 72 1] from ⟨hY.1, rfl⟩) ?_
    refine And.intro (show inb 2050 (alen 54) = true from rfl) ?_
    show X 15 [some (vR 12 0), some (vI (kyA mm)), some (vI (mm.1 54 0 2050)), some (vI (2186 + (6 * (mm.1 54 0 2050)))), none, none] [] mm
    rw [← hk, hL, eR]
    exact z
  show X 15 [some (vR 12 0), some (vI k), some (vI (nI L)), some (vI (nI r)), none, none] [] mm
  refine h (fun i => Nat.beq i 25) 3000 15 _ _ _ ?_
  refine br_c (fun b17 => ?_) (fun b17 => ?_)
  · -- 17: k = 23 taken
    replace b17 : k = 23 := b17
    show X 25 [some (vR 12 0), some (vI k), some (vI (nI L)), some (vI (nI r)), some (vI 1), none] [] mm
    exact s25 _ (bI_t (Or.inl b17)).symm
  · -- 17: k = 23 on
    replace b17 : ¬ (k = 23) := b17
    refine brn_c (fun b20 => ?_) (fun b20 => ?_)
    · -- 20: k = 24 taken
      replace b20 : ¬ (k = 24) := b20
      show X 25 [some (vR 12 0), some (vI k), some (vI (nI L)), some (vI (nI r)), some (vI 0), none] [] mm
      exact s25 _ (bI_f (fun z => z.elim b17 b20)).symm
    · -- 20: k = 24 on
      replace b20 : k = 24 := b20
      show X 25 [some (vR 12 0), some (vI k), some (vI (nI L)), some (vI (nI r)), some (vI 1), none] [] mm
      exact s25 _ (bI_t (Or.inr b20)).symm
theorem con_X12_yearStep (l : Launch) : CON l y_X12_yearStep prog_14_method_54_code 6 (some .boolean) rm_X12_yearStep Pre_X12_yearStep Fn_X12_yearStep := CON_of (by decide) rfl rfl (sa_X12_yearStep l) vc_X12_yearStep
theorem GT_12 {m m' : MM} {k g j : Nat} {x : Int32} (h : GT m m') (hj : k = 61 ∨ (k = 12 ∧ 16 ≤ j)) : GT m (mI m' k g j x) := by
  rcases hj with rfl | ⟨rfl, hj⟩
  · exact h
  · have e : ∀ i, i < 16 → (mI m' 12 g j x).1 12 0 i = m'.1 12 0 i := fun i hi => by
      show (if 12 = 12 ∧ 0 = g then upd (m'.1 12 g) j x else m'.1 12 0) i = _
      split
      · rename_i z
        rw [upd_ne (by omega), ← z.2]
      · rfl
    obtain ⟨⟨S, s, e2, a1, a2, a3, a4, a5, a6⟩, h2, h3⟩ := h
    refine ⟨⟨S, s, e2, (e 11 (by omega)).trans a1, a2, (e 13 (by omega)).trans a3, (e 14 (by omega)).trans a4, a5, a6⟩, (e 11 (by omega)).trans h2, ?_⟩
    show txs m ≤ ((mI m' 12 g j x).1 12 0 13).toNatClampNeg
    rw [e 13 (by omega)]
    exact h3
theorem GT_op2 {m m' : MM} {k n : Int32} (h : GT m m') : GT m (mite (opP k) (opM m' n) m') := by
  unfold mite; split
  · exact GT_12 (show GT m (mRow m' 61 0 _) from h) (Or.inr ⟨rfl, by omega⟩)
  · exact h
theorem GT_cl {m m' : MM} {k n : Int32} {r : Nat} (h : GT m m') : GT m (mite (k = 25) (clM m' n r) m') := by
  unfold mite; split
  · exact GT_54 (GT_54 (GT_12 h (Or.inr ⟨rfl, by omega⟩)))
  · exact h
theorem ah_ln {m : MM} {k : Int32} {r : Nat} : GT (ahM m) (ahM (lnM m k r)) ∨ ¬ TXo m := by
  by_cases h : TXo m
  · exact Or.inl ⟨TXo_ah (show TXo (lnM m k r) from h), rfl, Nat.le_refl _⟩
  · exact Or.inr h
theorem pYs_GT {m : MM} (h : TXo m) (hp : (pYs m).1 = true) : GT (ahM m) (pYs m).2 := by
  unfold pYs at hp ⊢
  generalize kyA m = k at *
  generalize m.1 54 0 2050 = n at *
  generalize 2186 + 6 * n.toNatClampNeg = r at *
  suffices z : ∀ p, p = pYq m k n r → p.1 = true → GT (ahM m) p.2 from z _ rfl hp
  clear hp
  intro p e hp
  unfold pYq at e
  split at e
  · subst e; exact no_ft hp
  split at e
  · subst e; exact no_ft hp
  split at e
  · subst e; exact no_ft hp
  · subst e
    exact GT_bd (GT_yo (ah_ln.resolve_right (fun z => z h))) (fun _ h => GT_sg (GT_cl (GT_op2 h)))
theorem pYs_tk {m : MM} (h : TXo m) (hp : (pYs m).1 = true) : TKo (pYs m).2 := by
  unfold pYs at hp ⊢
  generalize kyA m = k at *
  generalize m.1 54 0 2050 = n at *
  generalize 2186 + 6 * n.toNatClampNeg = r at *
  suffices z : ∀ p, p = pYq m k n r → p.1 = true → TKo p.2 from z _ rfl hp
  clear hp
  intro p e hp
  unfold pYq at e
  split at e
  · subst e; exact no_ft hp
  split at e
  · subst e; exact no_ft hp
  split at e
  · subst e; exact no_ft hp
  · subst e
    have hG := GT_yo (k := k) (r := r) (ah_ln (m := m) (k := k) (r := r) |>.resolve_right (fun z => z h))
    unfold ysB at hp ⊢
    have h1 := pBd_1 hp
    have h2 := pBd_2 hp
    rw [pBd_t h1]
    generalize (pYo (ahM (lnM m k r)) k r).2 = M at *
    unfold ysC ysD at h2 ⊢
    rw [pSg_ah h2]
    exact TKo_ah (GT_cl (GT_op2 hG)).1
theorem sg54 (m : MM) (c : Int32) : (pSg m c).2.1 54 0 = m.1 54 0 := by
  unfold pSg; split
  · rfl
  · exact fa54 _ _
theorem sg61 (m : MM) (c : Int32) : (pSg m c).2.1 61 0 = m.1 61 0 := by
  unfold pSg; split
  · rfl
  · exact fa61 _ _
theorem sg12 (m : MM) (c : Int32) {j : Nat} (hj : 19 ≤ j) : (pSg m c).2.1 12 0 j = m.1 12 0 j := by
  unfold pSg; split
  · exact tkR_hi (by omega)
  · exact fa12 hj
def YI (m : MM) (ns nm nt : Nat) : Prop := ∃ L d c, YJ m ns nm nt L d c
theorem pYs_ok {m : MM} {ns nm nt : Nat} (h : YI m ns nm nt) (hp : (pYs m).1 = true) : YI (pYs m).2 ns nm nt := by
  obtain ⟨L, d, c, hY, hL, ⟨hd, hd3⟩, ⟨hc, hc30⟩, hLd, hop⟩ := h
  have hG := pYs_GT hY.1 hp
  suffices z : ∀ p, p = pYs m → p.1 = true → TXo p.2 → YI p.2 ns nm nt from z _ rfl hp hG.1
  clear hp hG
  intro p e hp hT
  unfold pYs at e
  rw [hL, nI_clamp (by omega)] at e
  obtain ⟨r, hr⟩ : ∃ r, r = 2186 + 6 * L := ⟨_, rfl⟩
  rw [← hr] at e
  generalize kyA m = k at *
  unfold pYq at e
  split at e
  · subst e; exact no_ft hp
  rename_i h1
  split at e
  · subst e; exact no_ft hp
  rename_i h2
  split at e
  · subst e; exact no_ft hp
  rename_i h3
  have hp0 := hp
  rw [e] at hp0
  unfold ysB at e hp0
  have g1 := pBd_1 hp0
  rw [pBd_t g1] at e
  have hK := KY_yo (k := k) (r := r) (KY_r (ahM (lnM m k r))) (by omega)
  generalize (pYo (ahM (lnM m k r)) k r).2 = M at *
  have k22 : M.1 12 0 22 = nI d := (hK.1 22 (by decide)).trans hd
  have k23 : M.1 12 0 23 = nI c + (if k = 25 then 0 else 1) := (hK.1 23 (by decide)).trans (by show m.1 12 0 23 + _ = _; rw [hc])
  have k54 : ∀ j, j < 2050 → M.1 54 0 j = m.1 54 0 j := fun j hj => (hK.2.2 j (by omega)).trans (by
    show upd (lnF (m.1 54 0) k r) 2050 _ j = _
    rw [upd_ne (by omega), lnF_lo (by omega)])
  have kL : M.1 54 0 2050 = nI (L + 1) := (hK.2.2 2050 (by omega)).trans (by
    show upd (lnF (m.1 54 0) k r) 2050 (lnF (m.1 54 0) k r 2050 + 1) 2050 = _
    rw [upd_eq, lnF_lo (by omega), hL, nI_1])
  have k61 : M.1 61 0 = m.1 61 0 := hK.2.1
  unfold ysC ysD at e
  have mkT : ∀ N : MM, p = pSg N 59 → (∀ j, j < 3 → N.1 54 0 j = m.1 54 0 j) → YT p.2 ns nm nt := fun N hN h54 => YT_mk hY hT (fun j hj => by rw [hN, sg54]; exact h54 j hj)
  by_cases ho : opP k
  · have n25 : ¬ k = 25 := fun z => by rcases ho with y | y <;> rw [y] at z <;> exact absurd z (by decide)
    rw [mite_t ho, mite_f n25] at e
    rw [if_neg n25] at k23
    have hd2 : d < 3 := by
      have : ¬ d = 3 := fun y => h3 ⟨ho, by rw [hd, y]; rfl⟩
      omega
    have hc2 : c < 30 := by
      have : ¬ c = 30 := fun y => h2 ⟨n25, by rw [hc, y]; rfl⟩
      omega
    refine ⟨L + 1, d + 1, c + 1, mkT _ e (fun j hj => k54 j (by omega)), ?_, ⟨?_, by omega⟩, ⟨?_, by omega⟩, by omega, fun i hi => ?_⟩
    · rw [e, sg54]; exact kL
    · rw [e, sg12 _ _ (by decide)]
      show M.1 12 0 22 + 1 = _
      rw [k22, nI_1]
    · rw [e, sg12 _ _ (by decide)]
      show M.1 12 0 23 = _
      rw [k23, nI_1]
    · rw [e, sg61]
      show ∃ o, o < L + 1 ∧ upd (M.1 61 0) (M.1 12 0 22).toNatClampNeg (nI L) i = nI o
      rw [k22, nI_clamp (by omega)]
      by_cases hid : i = d
      · exact ⟨L, by omega, by rw [hid, upd_eq]⟩
      · obtain ⟨o, ho1, ho2⟩ := hop i (by omega)
        exact ⟨o, by omega, by rw [upd_ne hid, k61]; exact ho2⟩
  · rw [mite_f ho] at e
    by_cases h25 : k = 25
    · rw [mite_t h25] at e
      rw [if_pos h25] at k23
      have hd1 : 1 ≤ d := by
        rcases Nat.eq_zero_or_pos d with y | y
        · exact absurd (Or.inr (Or.inr (Or.inr ⟨h25, by rw [hd, y]; rfl⟩))) h1
        · exact y
      have x22 : M.1 12 0 22 - 1 = nI (d - 1) := by rw [k22, show (1 : Int32) = nI 1 from rfl, nI_sb hd1]
      have c54 : ∀ j, j < 2186 → (clM M (nI L) r).1 54 0 j = M.1 54 0 j := fun j hj => by
        show upd (upd (M.1 54 0) (r + 4) (clO M)) (2190 + 6 * (clO M).toNatClampNeg) (nI L) j = _
        rw [upd_ne (by omega), upd_ne (by omega)]
      refine ⟨L + 1, d - 1, c, mkT _ e (fun j hj => (c54 j (by omega)).trans (k54 j (by omega))), ?_, ⟨?_, by omega⟩, ⟨?_, hc30⟩, by omega, fun i hi => ?_⟩
      · rw [e, sg54, c54 _ (by decide)]; exact kL
      · rw [e, sg12 _ _ (by decide)]
        show M.1 12 0 22 - 1 = _
        exact x22
      · rw [e, sg12 _ _ (by decide)]
        show M.1 12 0 23 = _
        rw [k23]
        exact Int32.add_zero _
      · rw [e, sg61]
        obtain ⟨o, ho1, ho2⟩ := hop i (by omega)
        exact ⟨o, by omega, by rw [show (clM M (nI L) r).1 61 0 = M.1 61 0 from rfl, k61]; exact ho2⟩
    · rw [mite_f h25] at e
      rw [if_neg h25] at k23
      have hc2 : c < 30 := by
        have : ¬ c = 30 := fun y => h2 ⟨h25, by rw [hc, y]; rfl⟩
        omega
      refine ⟨L + 1, d, c + 1, mkT _ e (fun j hj => k54 j (by omega)), ?_, ⟨?_, hd3⟩, ⟨?_, by omega⟩, by omega, fun i hi => ?_⟩
      · rw [e, sg54]; exact kL
      · rw [e, sg12 _ _ (by decide)]; exact k22
      · rw [e, sg12 _ _ (by decide)]
        rw [k23, nI_1]
      · rw [e, sg61]
        obtain ⟨o, ho1, ho2⟩ := hop i (by omega)
        exact ⟨o, by omega, by rw [k61]; exact ho2⟩

