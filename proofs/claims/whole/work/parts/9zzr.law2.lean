/-! PART 9ZZR: the law's cases -/

noncomputable section
def P_L_c0 (L : Nat) (xs : Nat → Int32) : List StpT := [s_aload 1, s_callV 11 0 Pre_X11_status Fn_X11_status, s_aload 2, s_callV 12 0 Pre_X12_status Fn_X12_status, s_iceq 6]
def pc_L_c0 : Nat → Nat := fun i => [296, 297, 300, 301, 304, 307, 2157].getD i 0
def dl_L_c0 : List (Nat × Instr × Nat) := [(296, .aload_n 1, 1), (297, .invokevirtual 13, 3), (300, .aload_n 2, 1), (301, .invokevirtual 17, 3), (304, .if_icmp .eq 1853, 3)]
theorem dc_L_c0 : DEC code pc_L_c0 dl_L_c0 := DEC_of (by decide +kernel)
set_option maxRecDepth 8000 in
theorem cs_L_c0 {L : Nat} {xs : Nat → Int32} {X : KonT} {mm : MM} {i : Nat} (h : RUN (P_L_c0 L xs) RRl X) (hI : INV mm) (hi : i + 6 ≤ L) (hL : L ≤ 3072) (hk : ∀ M, INV M → X 6 (LSl i) [] M) : X 0 (LSl i) [] mm := by
  obtain ⟨p1, v, M, M', e1, p2, e2, hI2⟩ := LW_status hI 
  have e2 : Fn_X12_status M [vR 12 0] = (some (vI v), M') := e2
  refine h (fun k => Nat.beq k 2) 3000 0 _ _ _ ?_
  refine And.intro p1 ?_
  show X 2 (LSl i) ((Fn_X11_status mm [vR 11 0]).1.toList ++ []) (Fn_X11_status mm [vR 11 0]).2
  rw [e1]
  show X 2 (LSl i) [vI v] M
  refine h (fun k => Nat.beq k 4) 3000 2 _ _ _ ?_
  refine And.intro p2 ?_
  show X 4 (LSl i) ((Fn_X12_status M [vR 12 0]).1.toList ++ [vI v]) (Fn_X12_status M [vR 12 0]).2
  rw [e2]
  show X 4 (LSl i) [vI v, vI v] M'
  refine h (fun k => Nat.beq k 6) 3000 4 _ _ _ ?_
  refine br_t rfl ?_
  exact hk M' hI2
def P_L_c1 (L : Nat) (xs : Nat → Int32) : List StpT := [s_aload 1, s_callV 11 0 Pre_X11_top Fn_X11_top, s_aload 2, s_callV 12 0 Pre_X12_top Fn_X12_top, s_lcmp, s_ifeq 7]
def pc_L_c1 : Nat → Nat := fun i => [309, 310, 313, 314, 317, 318, 321, 2157].getD i 0
def dl_L_c1 : List (Nat × Instr × Nat) := [(309, .aload_n 1, 1), (310, .invokevirtual 18, 3), (313, .aload_n 2, 1), (314, .invokevirtual 22, 3), (317, .lcmp, 1), (318, .ifCond .eq 1839, 3)]
theorem dc_L_c1 : DEC code pc_L_c1 dl_L_c1 := DEC_of (by decide +kernel)
set_option maxRecDepth 8000 in
theorem cs_L_c1 {L : Nat} {xs : Nat → Int32} {X : KonT} {mm : MM} {i : Nat} (h : RUN (P_L_c1 L xs) RRl X) (hI : INV mm) (hi : i + 6 ≤ L) (hL : L ≤ 3072) (hk : ∀ M, INV M → X 7 (LSl i) [] M) : X 0 (LSl i) [] mm := by
  obtain ⟨p1, v, M, M', e1, p2, e2, hI2⟩ := LW_top hI 
  have e2 : Fn_X12_top M [vR 12 0] = (some (vL v), M') := e2
  refine h (fun k => Nat.beq k 2) 3000 0 _ _ _ ?_
  refine And.intro p1 ?_
  show X 2 (LSl i) ((Fn_X11_top mm [vR 11 0]).1.toList ++ []) (Fn_X11_top mm [vR 11 0]).2
  rw [e1]
  show X 2 (LSl i) [vL v] M
  refine h (fun k => Nat.beq k 4) 3000 2 _ _ _ ?_
  refine And.intro p2 ?_
  show X 4 (LSl i) ((Fn_X12_top M [vR 12 0]).1.toList ++ [vL v]) (Fn_X12_top M [vR 12 0]).2
  rw [e2]
  show X 4 (LSl i) [vL v, vL v] M'
  refine h (fun k => Nat.beq k 7) 3000 4 _ _ _ ?_
  refine br_t ((lg_cmp_eq _ _).mpr rfl) ?_
  exact hk M' hI2
def P_L_c2 (L : Nat) (xs : Nat → Int32) : List StpT := [s_aload 1, s_callV 11 0 Pre_X11_bottom Fn_X11_bottom, s_aload 2, s_callV 12 0 Pre_X12_bottom Fn_X12_bottom, s_lcmp, s_ifeq 7]
def pc_L_c2 : Nat → Nat := fun i => [323, 324, 327, 328, 331, 332, 335, 2157].getD i 0
def dl_L_c2 : List (Nat × Instr × Nat) := [(323, .aload_n 1, 1), (324, .invokevirtual 23, 3), (327, .aload_n 2, 1), (328, .invokevirtual 26, 3), (331, .lcmp, 1), (332, .ifCond .eq 1825, 3)]
theorem dc_L_c2 : DEC code pc_L_c2 dl_L_c2 := DEC_of (by decide +kernel)
set_option maxRecDepth 8000 in
theorem cs_L_c2 {L : Nat} {xs : Nat → Int32} {X : KonT} {mm : MM} {i : Nat} (h : RUN (P_L_c2 L xs) RRl X) (hI : INV mm) (hi : i + 6 ≤ L) (hL : L ≤ 3072) (hk : ∀ M, INV M → X 7 (LSl i) [] M) : X 0 (LSl i) [] mm := by
  obtain ⟨p1, v, M, M', e1, p2, e2, hI2⟩ := LW_bottom hI 
  have e2 : Fn_X12_bottom M [vR 12 0] = (some (vL v), M') := e2
  refine h (fun k => Nat.beq k 2) 3000 0 _ _ _ ?_
  refine And.intro p1 ?_
  show X 2 (LSl i) ((Fn_X11_bottom mm [vR 11 0]).1.toList ++ []) (Fn_X11_bottom mm [vR 11 0]).2
  rw [e1]
  show X 2 (LSl i) [vL v] M
  refine h (fun k => Nat.beq k 4) 3000 2 _ _ _ ?_
  refine And.intro p2 ?_
  show X 4 (LSl i) ((Fn_X12_bottom M [vR 12 0]).1.toList ++ [vL v]) (Fn_X12_bottom M [vR 12 0]).2
  rw [e2]
  show X 4 (LSl i) [vL v, vL v] M'
  refine h (fun k => Nat.beq k 7) 3000 4 _ _ _ ?_
  refine br_t ((lg_cmp_eq _ _).mpr rfl) ?_
  exact hk M' hI2
def P_L_c3 (L : Nat) (xs : Nat → Int32) : List StpT := [s_aload 1, s_aload 0, s_iload 3, s_ic (1), s_iadd, s_sca L xs, s_aload 0, s_iload 3, s_ic (2), s_iadd, s_sca L xs, s_aload 0, s_iload 3, s_ic (3), s_iadd, s_sca L xs, s_callV 11 3 Pre_X11_tray Fn_X11_tray, s_aload 2, s_aload 0, s_iload 3, s_ic (1), s_iadd, s_sca L xs, s_aload 0, s_iload 3, s_ic (2), s_iadd, s_sca L xs, s_aload 0, s_iload 3, s_ic (3), s_iadd, s_sca L xs, s_callV 12 3 Pre_X12_tray Fn_X12_tray, s_iceq 36]
def pc_L_c3 : Nat → Nat := fun i => [337, 338, 339, 340, 341, 342, 343, 344, 345, 346, 347, 348, 349, 350, 351, 352, 353, 356, 357, 358, 359, 360, 361, 362, 363, 364, 365, 366, 367, 368, 369, 370, 371, 372, 375, 378, 2157].getD i 0
def dl_L_c3 : List (Nat × Instr × Nat) := [(337, .aload_n 1, 1), (338, .aload_n 0, 1), (339, .iload_n 3, 1), (340, .iconst 1, 1), (341, .iadd, 1), (342, .iaload, 1), (343, .aload_n 0, 1), (344, .iload_n 3, 1), (345, .iconst 2, 1), (346, .iadd, 1), (347, .iaload, 1), (348, .aload_n 0, 1), (349, .iload_n 3, 1), (350, .iconst 3, 1), (351, .iadd, 1), (352, .iaload, 1), (353, .invokevirtual 27, 3), (356, .aload_n 2, 1), (357, .aload_n 0, 1), (358, .iload_n 3, 1), (359, .iconst 1, 1), (360, .iadd, 1), (361, .iaload, 1), (362, .aload_n 0, 1), (363, .iload_n 3, 1), (364, .iconst 2, 1), (365, .iadd, 1), (366, .iaload, 1), (367, .aload_n 0, 1), (368, .iload_n 3, 1), (369, .iconst 3, 1), (370, .iadd, 1), (371, .iaload, 1), (372, .invokevirtual 31, 3), (375, .if_icmp .eq 1782, 3)]
theorem dc_L_c3 : DEC code pc_L_c3 dl_L_c3 := DEC_of (by decide +kernel)
set_option maxRecDepth 8000 in
theorem cs_L_c3 {L : Nat} {xs : Nat → Int32} {X : KonT} {mm : MM} {i : Nat} (h : RUN (P_L_c3 L xs) RRl X) (hI : INV mm) (hi : i + 6 ≤ L) (hL : L ≤ 3072) (hk : ∀ M, INV M → X 36 (LSl i) [] M) : X 0 (LSl i) [] mm := by
  have b_1 : inb (nI i + 1) L = true := inb_law 1 hi hL (by decide)
  have b_2 : inb (nI i + 2) L = true := inb_law 2 hi hL (by decide)
  have b_3 : inb (nI i + 3) L = true := inb_law 3 hi hL (by decide)
  obtain ⟨p1, v, M, M', e1, p2, e2, hI2⟩ := LW_tray hI (xs (nI i + 1).toNatClampNeg) (xs (nI i + 2).toNatClampNeg) (xs (nI i + 3).toNatClampNeg)
  have e2 : Fn_X12_tray M [vR 12 0, vI (xs (nI i + 1).toNatClampNeg), vI (xs (nI i + 2).toNatClampNeg), vI (xs (nI i + 3).toNatClampNeg)] = (some (vI v), M') := e2
  refine h (fun k => Nat.beq k 17) 3000 0 _ _ _ ?_
  refine And.intro b_1 ?_
  refine And.intro b_2 ?_
  refine And.intro b_3 ?_
  refine And.intro p1 ?_
  show X 17 (LSl i) ((Fn_X11_tray mm [vR 11 0, vI (xs (nI i + 1).toNatClampNeg), vI (xs (nI i + 2).toNatClampNeg), vI (xs (nI i + 3).toNatClampNeg)]).1.toList ++ []) (Fn_X11_tray mm [vR 11 0, vI (xs (nI i + 1).toNatClampNeg), vI (xs (nI i + 2).toNatClampNeg), vI (xs (nI i + 3).toNatClampNeg)]).2
  rw [e1]
  show X 17 (LSl i) [vI v] M
  refine h (fun k => Nat.beq k 34) 3000 17 _ _ _ ?_
  refine And.intro b_1 ?_
  refine And.intro b_2 ?_
  refine And.intro b_3 ?_
  refine And.intro p2 ?_
  show X 34 (LSl i) ((Fn_X12_tray M [vR 12 0, vI (xs (nI i + 1).toNatClampNeg), vI (xs (nI i + 2).toNatClampNeg), vI (xs (nI i + 3).toNatClampNeg)]).1.toList ++ [vI v]) (Fn_X12_tray M [vR 12 0, vI (xs (nI i + 1).toNatClampNeg), vI (xs (nI i + 2).toNatClampNeg), vI (xs (nI i + 3).toNatClampNeg)]).2
  rw [e2]
  show X 34 (LSl i) [vI v, vI v] M'
  refine h (fun k => Nat.beq k 36) 3000 34 _ _ _ ?_
  refine br_t rfl ?_
  exact hk M' hI2
def P_L_c4 (L : Nat) (xs : Nat → Int32) : List StpT := [s_aload 1, s_aload 0, s_iload 3, s_ic (1), s_iadd, s_sca L xs, s_aload 0, s_iload 3, s_ic (2), s_iadd, s_sca L xs, s_aload 0, s_iload 3, s_ic (3), s_iadd, s_sca L xs, s_i2l, s_ic (32), s_lshl, s_aload 0, s_iload 3, s_ic (4), s_iadd, s_sca L xs, s_i2l, s_lc (4294967295), s_land, s_lor, s_callV 11 3 Pre_X11_write Fn_X11_write, s_aload 2, s_aload 0, s_iload 3, s_ic (1), s_iadd, s_sca L xs, s_aload 0, s_iload 3, s_ic (2), s_iadd, s_sca L xs, s_aload 0, s_iload 3, s_ic (3), s_iadd, s_sca L xs, s_i2l, s_ic (32), s_lshl, s_aload 0, s_iload 3, s_ic (4), s_iadd, s_sca L xs, s_i2l, s_lc (4294967295), s_land, s_lor, s_callV 12 3 Pre_X12_write Fn_X12_write, s_iceq 60]
def pc_L_c4 : Nat → Nat := fun i => [380, 381, 382, 383, 384, 385, 386, 387, 388, 389, 390, 391, 392, 393, 394, 395, 396, 397, 399, 400, 401, 402, 403, 404, 405, 406, 409, 410, 411, 414, 415, 416, 417, 418, 419, 420, 421, 422, 423, 424, 425, 426, 427, 428, 429, 430, 431, 433, 434, 435, 436, 437, 438, 439, 440, 443, 444, 445, 448, 451, 2157].getD i 0
def dl_L_c4 : List (Nat × Instr × Nat) := [(380, .aload_n 1, 1), (381, .aload_n 0, 1), (382, .iload_n 3, 1), (383, .iconst 1, 1), (384, .iadd, 1), (385, .iaload, 1), (386, .aload_n 0, 1), (387, .iload_n 3, 1), (388, .iconst 2, 1), (389, .iadd, 1), (390, .iaload, 1), (391, .aload_n 0, 1), (392, .iload_n 3, 1), (393, .iconst 3, 1), (394, .iadd, 1), (395, .iaload, 1), (396, .i2l, 1), (397, .bipush 32, 2), (399, .lshl, 1), (400, .aload_n 0, 1), (401, .iload_n 3, 1), (402, .iconst 4, 1), (403, .iadd, 1), (404, .iaload, 1), (405, .i2l, 1), (406, .ldc2_w 32, 3), (409, .land, 1), (410, .lor, 1), (411, .invokevirtual 34, 3), (414, .aload_n 2, 1), (415, .aload_n 0, 1), (416, .iload_n 3, 1), (417, .iconst 1, 1), (418, .iadd, 1), (419, .iaload, 1), (420, .aload_n 0, 1), (421, .iload_n 3, 1), (422, .iconst 2, 1), (423, .iadd, 1), (424, .iaload, 1), (425, .aload_n 0, 1), (426, .iload_n 3, 1), (427, .iconst 3, 1), (428, .iadd, 1), (429, .iaload, 1), (430, .i2l, 1), (431, .bipush 32, 2), (433, .lshl, 1), (434, .aload_n 0, 1), (435, .iload_n 3, 1), (436, .iconst 4, 1), (437, .iadd, 1), (438, .iaload, 1), (439, .i2l, 1), (440, .ldc2_w 32, 3), (443, .land, 1), (444, .lor, 1), (445, .invokevirtual 38, 3), (448, .if_icmp .eq 1709, 3)]
theorem dc_L_c4 : DEC code pc_L_c4 dl_L_c4 := DEC_of (by decide +kernel)
set_option maxRecDepth 8000 in
theorem cs_L_c4 {L : Nat} {xs : Nat → Int32} {X : KonT} {mm : MM} {i : Nat} (h : RUN (P_L_c4 L xs) RRl X) (hI : INV mm) (hi : i + 6 ≤ L) (hL : L ≤ 3072) (hk : ∀ M, INV M → X 60 (LSl i) [] M) : X 0 (LSl i) [] mm := by
  have b_1 : inb (nI i + 1) L = true := inb_law 1 hi hL (by decide)
  have b_2 : inb (nI i + 2) L = true := inb_law 2 hi hL (by decide)
  have b_3 : inb (nI i + 3) L = true := inb_law 3 hi hL (by decide)
  have b_4 : inb (nI i + 4) L = true := inb_law 4 hi hL (by decide)
  obtain ⟨p1, v, M, M', e1, p2, e2, hI2⟩ := LW_write hI (xs (nI i + 1).toNatClampNeg) (xs (nI i + 2).toNatClampNeg) (((xs (nI i + 3).toNatClampNeg).toInt64 <<< ((32 : Int32).toInt64 &&& 63)) ||| ((xs (nI i + 4).toNatClampNeg).toInt64 &&& 4294967295))
  have e2 : Fn_X12_write M [vR 12 0, vI (xs (nI i + 1).toNatClampNeg), vI (xs (nI i + 2).toNatClampNeg), vL (((xs (nI i + 3).toNatClampNeg).toInt64 <<< ((32 : Int32).toInt64 &&& 63)) ||| ((xs (nI i + 4).toNatClampNeg).toInt64 &&& 4294967295))] = (some (vI v), M') := e2
  refine h (fun k => Nat.beq k 29) 3000 0 _ _ _ ?_
  refine And.intro b_1 ?_
  refine And.intro b_2 ?_
  refine And.intro b_3 ?_
  refine And.intro b_4 ?_
  refine And.intro p1 ?_
  show X 29 (LSl i) ((Fn_X11_write mm [vR 11 0, vI (xs (nI i + 1).toNatClampNeg), vI (xs (nI i + 2).toNatClampNeg), vL (((xs (nI i + 3).toNatClampNeg).toInt64 <<< ((32 : Int32).toInt64 &&& 63)) ||| ((xs (nI i + 4).toNatClampNeg).toInt64 &&& 4294967295))]).1.toList ++ []) (Fn_X11_write mm [vR 11 0, vI (xs (nI i + 1).toNatClampNeg), vI (xs (nI i + 2).toNatClampNeg), vL (((xs (nI i + 3).toNatClampNeg).toInt64 <<< ((32 : Int32).toInt64 &&& 63)) ||| ((xs (nI i + 4).toNatClampNeg).toInt64 &&& 4294967295))]).2
  rw [e1]
  show X 29 (LSl i) [vI v] M
  refine h (fun k => Nat.beq k 58) 3000 29 _ _ _ ?_
  refine And.intro b_1 ?_
  refine And.intro b_2 ?_
  refine And.intro b_3 ?_
  refine And.intro b_4 ?_
  refine And.intro p2 ?_
  show X 58 (LSl i) ((Fn_X12_write M [vR 12 0, vI (xs (nI i + 1).toNatClampNeg), vI (xs (nI i + 2).toNatClampNeg), vL (((xs (nI i + 3).toNatClampNeg).toInt64 <<< ((32 : Int32).toInt64 &&& 63)) ||| ((xs (nI i + 4).toNatClampNeg).toInt64 &&& 4294967295))]).1.toList ++ [vI v]) (Fn_X12_write M [vR 12 0, vI (xs (nI i + 1).toNatClampNeg), vI (xs (nI i + 2).toNatClampNeg), vL (((xs (nI i + 3).toNatClampNeg).toInt64 <<< ((32 : Int32).toInt64 &&& 63)) ||| ((xs (nI i + 4).toNatClampNeg).toInt64 &&& 4294967295))]).2
  rw [e2]
  show X 58 (LSl i) [vI v, vI v] M'
  refine h (fun k => Nat.beq k 60) 3000 58 _ _ _ ?_
  refine br_t rfl ?_
  exact hk M' hI2
def P_L_c5 (L : Nat) (xs : Nat → Int32) : List StpT := [s_aload 1, s_aload 0, s_iload 3, s_ic (1), s_iadd, s_sca L xs, s_aload 0, s_iload 3, s_ic (2), s_iadd, s_sca L xs, s_callV 11 2 Pre_X11_read Fn_X11_read, s_aload 2, s_aload 0, s_iload 3, s_ic (1), s_iadd, s_sca L xs, s_aload 0, s_iload 3, s_ic (2), s_iadd, s_sca L xs, s_callV 12 2 Pre_X12_read Fn_X12_read, s_lcmp, s_ifeq 27]
def pc_L_c5 : Nat → Nat := fun i => [453, 454, 455, 456, 457, 458, 459, 460, 461, 462, 463, 464, 467, 468, 469, 470, 471, 472, 473, 474, 475, 476, 477, 478, 481, 482, 485, 2157].getD i 0
def dl_L_c5 : List (Nat × Instr × Nat) := [(453, .aload_n 1, 1), (454, .aload_n 0, 1), (455, .iload_n 3, 1), (456, .iconst 1, 1), (457, .iadd, 1), (458, .iaload, 1), (459, .aload_n 0, 1), (460, .iload_n 3, 1), (461, .iconst 2, 1), (462, .iadd, 1), (463, .iaload, 1), (464, .invokevirtual 39, 3), (467, .aload_n 2, 1), (468, .aload_n 0, 1), (469, .iload_n 3, 1), (470, .iconst 1, 1), (471, .iadd, 1), (472, .iaload, 1), (473, .aload_n 0, 1), (474, .iload_n 3, 1), (475, .iconst 2, 1), (476, .iadd, 1), (477, .iaload, 1), (478, .invokevirtual 43, 3), (481, .lcmp, 1), (482, .ifCond .eq 1675, 3)]
theorem dc_L_c5 : DEC code pc_L_c5 dl_L_c5 := DEC_of (by decide +kernel)
set_option maxRecDepth 8000 in
theorem cs_L_c5 {L : Nat} {xs : Nat → Int32} {X : KonT} {mm : MM} {i : Nat} (h : RUN (P_L_c5 L xs) RRl X) (hI : INV mm) (hi : i + 6 ≤ L) (hL : L ≤ 3072) (hk : ∀ M, INV M → X 27 (LSl i) [] M) : X 0 (LSl i) [] mm := by
  have b_1 : inb (nI i + 1) L = true := inb_law 1 hi hL (by decide)
  have b_2 : inb (nI i + 2) L = true := inb_law 2 hi hL (by decide)
  obtain ⟨p1, v, M, M', e1, p2, e2, hI2⟩ := LW_read hI (xs (nI i + 1).toNatClampNeg) (xs (nI i + 2).toNatClampNeg)
  have e2 : Fn_X12_read M [vR 12 0, vI (xs (nI i + 1).toNatClampNeg), vI (xs (nI i + 2).toNatClampNeg)] = (some (vL v), M') := e2
  refine h (fun k => Nat.beq k 12) 3000 0 _ _ _ ?_
  refine And.intro b_1 ?_
  refine And.intro b_2 ?_
  refine And.intro p1 ?_
  show X 12 (LSl i) ((Fn_X11_read mm [vR 11 0, vI (xs (nI i + 1).toNatClampNeg), vI (xs (nI i + 2).toNatClampNeg)]).1.toList ++ []) (Fn_X11_read mm [vR 11 0, vI (xs (nI i + 1).toNatClampNeg), vI (xs (nI i + 2).toNatClampNeg)]).2
  rw [e1]
  show X 12 (LSl i) [vL v] M
  refine h (fun k => Nat.beq k 24) 3000 12 _ _ _ ?_
  refine And.intro b_1 ?_
  refine And.intro b_2 ?_
  refine And.intro p2 ?_
  show X 24 (LSl i) ((Fn_X12_read M [vR 12 0, vI (xs (nI i + 1).toNatClampNeg), vI (xs (nI i + 2).toNatClampNeg)]).1.toList ++ [vL v]) (Fn_X12_read M [vR 12 0, vI (xs (nI i + 1).toNatClampNeg), vI (xs (nI i + 2).toNatClampNeg)]).2
  rw [e2]
  show X 24 (LSl i) [vL v, vL v] M'
  refine h (fun k => Nat.beq k 27) 3000 24 _ _ _ ?_
  refine br_t ((lg_cmp_eq _ _).mpr rfl) ?_
  exact hk M' hI2
def P_L_c6 (L : Nat) (xs : Nat → Int32) : List StpT := [s_aload 1, s_aload 0, s_iload 3, s_ic (1), s_iadd, s_sca L xs, s_aload 0, s_iload 3, s_ic (2), s_iadd, s_sca L xs, s_aload 0, s_iload 3, s_ic (3), s_iadd, s_sca L xs, s_aload 0, s_iload 3, s_ic (4), s_iadd, s_sca L xs, s_aload 0, s_iload 3, s_ic (5), s_iadd, s_sca L xs, s_callV 11 5 Pre_X11_pour Fn_X11_pour, s_aload 2, s_aload 0, s_iload 3, s_ic (1), s_iadd, s_sca L xs, s_aload 0, s_iload 3, s_ic (2), s_iadd, s_sca L xs, s_aload 0, s_iload 3, s_ic (3), s_iadd, s_sca L xs, s_aload 0, s_iload 3, s_ic (4), s_iadd, s_sca L xs, s_aload 0, s_iload 3, s_ic (5), s_iadd, s_sca L xs, s_callV 12 5 Pre_X12_pour Fn_X12_pour, s_iceq 56]
def pc_L_c6 : Nat → Nat := fun i => [487, 488, 489, 490, 491, 492, 493, 494, 495, 496, 497, 498, 499, 500, 501, 502, 503, 504, 505, 506, 507, 508, 509, 510, 511, 512, 513, 516, 517, 518, 519, 520, 521, 522, 523, 524, 525, 526, 527, 528, 529, 530, 531, 532, 533, 534, 535, 536, 537, 538, 539, 540, 541, 542, 545, 548, 2157].getD i 0
def dl_L_c6 : List (Nat × Instr × Nat) := [(487, .aload_n 1, 1), (488, .aload_n 0, 1), (489, .iload_n 3, 1), (490, .iconst 1, 1), (491, .iadd, 1), (492, .iaload, 1), (493, .aload_n 0, 1), (494, .iload_n 3, 1), (495, .iconst 2, 1), (496, .iadd, 1), (497, .iaload, 1), (498, .aload_n 0, 1), (499, .iload_n 3, 1), (500, .iconst 3, 1), (501, .iadd, 1), (502, .iaload, 1), (503, .aload_n 0, 1), (504, .iload_n 3, 1), (505, .iconst 4, 1), (506, .iadd, 1), (507, .iaload, 1), (508, .aload_n 0, 1), (509, .iload_n 3, 1), (510, .iconst 5, 1), (511, .iadd, 1), (512, .iaload, 1), (513, .invokevirtual 44, 3), (516, .aload_n 2, 1), (517, .aload_n 0, 1), (518, .iload_n 3, 1), (519, .iconst 1, 1), (520, .iadd, 1), (521, .iaload, 1), (522, .aload_n 0, 1), (523, .iload_n 3, 1), (524, .iconst 2, 1), (525, .iadd, 1), (526, .iaload, 1), (527, .aload_n 0, 1), (528, .iload_n 3, 1), (529, .iconst 3, 1), (530, .iadd, 1), (531, .iaload, 1), (532, .aload_n 0, 1), (533, .iload_n 3, 1), (534, .iconst 4, 1), (535, .iadd, 1), (536, .iaload, 1), (537, .aload_n 0, 1), (538, .iload_n 3, 1), (539, .iconst 5, 1), (540, .iadd, 1), (541, .iaload, 1), (542, .invokevirtual 48, 3), (545, .if_icmp .eq 1612, 3)]
theorem dc_L_c6 : DEC code pc_L_c6 dl_L_c6 := DEC_of (by decide +kernel)
set_option maxRecDepth 8000 in
theorem cs_L_c6 {L : Nat} {xs : Nat → Int32} {X : KonT} {mm : MM} {i : Nat} (h : RUN (P_L_c6 L xs) RRl X) (hI : INV mm) (hi : i + 6 ≤ L) (hL : L ≤ 3072) (hk : ∀ M, INV M → X 56 (LSl i) [] M) : X 0 (LSl i) [] mm := by
  have b_1 : inb (nI i + 1) L = true := inb_law 1 hi hL (by decide)
  have b_2 : inb (nI i + 2) L = true := inb_law 2 hi hL (by decide)
  have b_3 : inb (nI i + 3) L = true := inb_law 3 hi hL (by decide)
  have b_4 : inb (nI i + 4) L = true := inb_law 4 hi hL (by decide)
  have b_5 : inb (nI i + 5) L = true := inb_law 5 hi hL (by decide)
  obtain ⟨p1, v, M, M', e1, p2, e2, hI2⟩ := LW_pour hI (xs (nI i + 1).toNatClampNeg) (xs (nI i + 2).toNatClampNeg) (xs (nI i + 3).toNatClampNeg) (xs (nI i + 4).toNatClampNeg) (xs (nI i + 5).toNatClampNeg)
  have e2 : Fn_X12_pour M [vR 12 0, vI (xs (nI i + 1).toNatClampNeg), vI (xs (nI i + 2).toNatClampNeg), vI (xs (nI i + 3).toNatClampNeg), vI (xs (nI i + 4).toNatClampNeg), vI (xs (nI i + 5).toNatClampNeg)] = (some (vI v), M') := e2
  refine h (fun k => Nat.beq k 27) 3000 0 _ _ _ ?_
  refine And.intro b_1 ?_
  refine And.intro b_2 ?_
  refine And.intro b_3 ?_
  refine And.intro b_4 ?_
  refine And.intro b_5 ?_
  refine And.intro p1 ?_
  show X 27 (LSl i) ((Fn_X11_pour mm [vR 11 0, vI (xs (nI i + 1).toNatClampNeg), vI (xs (nI i + 2).toNatClampNeg), vI (xs (nI i + 3).toNatClampNeg), vI (xs (nI i + 4).toNatClampNeg), vI (xs (nI i + 5).toNatClampNeg)]).1.toList ++ []) (Fn_X11_pour mm [vR 11 0, vI (xs (nI i + 1).toNatClampNeg), vI (xs (nI i + 2).toNatClampNeg), vI (xs (nI i + 3).toNatClampNeg), vI (xs (nI i + 4).toNatClampNeg), vI (xs (nI i + 5).toNatClampNeg)]).2
  rw [e1]
  show X 27 (LSl i) [vI v] M
  refine h (fun k => Nat.beq k 54) 3000 27 _ _ _ ?_
  refine And.intro b_1 ?_
  refine And.intro b_2 ?_
  refine And.intro b_3 ?_
  refine And.intro b_4 ?_
  refine And.intro b_5 ?_
  refine And.intro p2 ?_
  show X 54 (LSl i) ((Fn_X12_pour M [vR 12 0, vI (xs (nI i + 1).toNatClampNeg), vI (xs (nI i + 2).toNatClampNeg), vI (xs (nI i + 3).toNatClampNeg), vI (xs (nI i + 4).toNatClampNeg), vI (xs (nI i + 5).toNatClampNeg)]).1.toList ++ [vI v]) (Fn_X12_pour M [vR 12 0, vI (xs (nI i + 1).toNatClampNeg), vI (xs (nI i + 2).toNatClampNeg), vI (xs (nI i + 3).toNatClampNeg), vI (xs (nI i + 4).toNatClampNeg), vI (xs (nI i + 5).toNatClampNeg)]).2
  rw [e2]
  show X 54 (LSl i) [vI v, vI v] M'
  refine h (fun k => Nat.beq k 56) 3000 54 _ _ _ ?_
  refine br_t rfl ?_
  exact hk M' hI2
def P_L_c7 (L : Nat) (xs : Nat → Int32) : List StpT := [s_aload 1, s_aload 0, s_iload 3, s_ic (1), s_iadd, s_sca L xs, s_aload 0, s_iload 3, s_ic (2), s_iadd, s_sca L xs, s_aload 0, s_iload 3, s_ic (3), s_iadd, s_sca L xs, s_aload 0, s_iload 3, s_ic (4), s_iadd, s_sca L xs, s_aload 0, s_iload 3, s_ic (5), s_iadd, s_sca L xs, s_callV 11 5 Pre_X11_feed Fn_X11_feed, s_aload 2, s_aload 0, s_iload 3, s_ic (1), s_iadd, s_sca L xs, s_aload 0, s_iload 3, s_ic (2), s_iadd, s_sca L xs, s_aload 0, s_iload 3, s_ic (3), s_iadd, s_sca L xs, s_aload 0, s_iload 3, s_ic (4), s_iadd, s_sca L xs, s_aload 0, s_iload 3, s_ic (5), s_iadd, s_sca L xs, s_callV 12 5 Pre_X12_feed Fn_X12_feed, s_iceq 56]
def pc_L_c7 : Nat → Nat := fun i => [550, 551, 552, 553, 554, 555, 556, 557, 558, 559, 560, 561, 562, 563, 564, 565, 566, 567, 568, 569, 570, 571, 572, 573, 574, 575, 576, 579, 580, 581, 582, 583, 584, 585, 586, 587, 588, 589, 590, 591, 592, 593, 594, 595, 596, 597, 598, 599, 600, 601, 602, 603, 604, 605, 608, 611, 2157].getD i 0
def dl_L_c7 : List (Nat × Instr × Nat) := [(550, .aload_n 1, 1), (551, .aload_n 0, 1), (552, .iload_n 3, 1), (553, .iconst 1, 1), (554, .iadd, 1), (555, .iaload, 1), (556, .aload_n 0, 1), (557, .iload_n 3, 1), (558, .iconst 2, 1), (559, .iadd, 1), (560, .iaload, 1), (561, .aload_n 0, 1), (562, .iload_n 3, 1), (563, .iconst 3, 1), (564, .iadd, 1), (565, .iaload, 1), (566, .aload_n 0, 1), (567, .iload_n 3, 1), (568, .iconst 4, 1), (569, .iadd, 1), (570, .iaload, 1), (571, .aload_n 0, 1), (572, .iload_n 3, 1), (573, .iconst 5, 1), (574, .iadd, 1), (575, .iaload, 1), (576, .invokevirtual 49, 3), (579, .aload_n 2, 1), (580, .aload_n 0, 1), (581, .iload_n 3, 1), (582, .iconst 1, 1), (583, .iadd, 1), (584, .iaload, 1), (585, .aload_n 0, 1), (586, .iload_n 3, 1), (587, .iconst 2, 1), (588, .iadd, 1), (589, .iaload, 1), (590, .aload_n 0, 1), (591, .iload_n 3, 1), (592, .iconst 3, 1), (593, .iadd, 1), (594, .iaload, 1), (595, .aload_n 0, 1), (596, .iload_n 3, 1), (597, .iconst 4, 1), (598, .iadd, 1), (599, .iaload, 1), (600, .aload_n 0, 1), (601, .iload_n 3, 1), (602, .iconst 5, 1), (603, .iadd, 1), (604, .iaload, 1), (605, .invokevirtual 53, 3), (608, .if_icmp .eq 1549, 3)]
theorem dc_L_c7 : DEC code pc_L_c7 dl_L_c7 := DEC_of (by decide +kernel)
set_option maxRecDepth 8000 in
theorem cs_L_c7 {L : Nat} {xs : Nat → Int32} {X : KonT} {mm : MM} {i : Nat} (h : RUN (P_L_c7 L xs) RRl X) (hI : INV mm) (hi : i + 6 ≤ L) (hL : L ≤ 3072) (hk : ∀ M, INV M → X 56 (LSl i) [] M) : X 0 (LSl i) [] mm := by
  have b_1 : inb (nI i + 1) L = true := inb_law 1 hi hL (by decide)
  have b_2 : inb (nI i + 2) L = true := inb_law 2 hi hL (by decide)
  have b_3 : inb (nI i + 3) L = true := inb_law 3 hi hL (by decide)
  have b_4 : inb (nI i + 4) L = true := inb_law 4 hi hL (by decide)
  have b_5 : inb (nI i + 5) L = true := inb_law 5 hi hL (by decide)
  obtain ⟨p1, v, M, M', e1, p2, e2, hI2⟩ := LW_feed hI (xs (nI i + 1).toNatClampNeg) (xs (nI i + 2).toNatClampNeg) (xs (nI i + 3).toNatClampNeg) (xs (nI i + 4).toNatClampNeg) (xs (nI i + 5).toNatClampNeg)
  have e2 : Fn_X12_feed M [vR 12 0, vI (xs (nI i + 1).toNatClampNeg), vI (xs (nI i + 2).toNatClampNeg), vI (xs (nI i + 3).toNatClampNeg), vI (xs (nI i + 4).toNatClampNeg), vI (xs (nI i + 5).toNatClampNeg)] = (some (vI v), M') := e2
  refine h (fun k => Nat.beq k 27) 3000 0 _ _ _ ?_
  refine And.intro b_1 ?_
  refine And.intro b_2 ?_
  refine And.intro b_3 ?_
  refine And.intro b_4 ?_
  refine And.intro b_5 ?_
  refine And.intro p1 ?_
  show X 27 (LSl i) ((Fn_X11_feed mm [vR 11 0, vI (xs (nI i + 1).toNatClampNeg), vI (xs (nI i + 2).toNatClampNeg), vI (xs (nI i + 3).toNatClampNeg), vI (xs (nI i + 4).toNatClampNeg), vI (xs (nI i + 5).toNatClampNeg)]).1.toList ++ []) (Fn_X11_feed mm [vR 11 0, vI (xs (nI i + 1).toNatClampNeg), vI (xs (nI i + 2).toNatClampNeg), vI (xs (nI i + 3).toNatClampNeg), vI (xs (nI i + 4).toNatClampNeg), vI (xs (nI i + 5).toNatClampNeg)]).2
  rw [e1]
  show X 27 (LSl i) [vI v] M
  refine h (fun k => Nat.beq k 54) 3000 27 _ _ _ ?_
  refine And.intro b_1 ?_
  refine And.intro b_2 ?_
  refine And.intro b_3 ?_
  refine And.intro b_4 ?_
  refine And.intro b_5 ?_
  refine And.intro p2 ?_
  show X 54 (LSl i) ((Fn_X12_feed M [vR 12 0, vI (xs (nI i + 1).toNatClampNeg), vI (xs (nI i + 2).toNatClampNeg), vI (xs (nI i + 3).toNatClampNeg), vI (xs (nI i + 4).toNatClampNeg), vI (xs (nI i + 5).toNatClampNeg)]).1.toList ++ [vI v]) (Fn_X12_feed M [vR 12 0, vI (xs (nI i + 1).toNatClampNeg), vI (xs (nI i + 2).toNatClampNeg), vI (xs (nI i + 3).toNatClampNeg), vI (xs (nI i + 4).toNatClampNeg), vI (xs (nI i + 5).toNatClampNeg)]).2
  rw [e2]
  show X 54 (LSl i) [vI v, vI v] M'
  refine h (fun k => Nat.beq k 56) 3000 54 _ _ _ ?_
  refine br_t rfl ?_
  exact hk M' hI2
def P_L_c8 (L : Nat) (xs : Nat → Int32) : List StpT := [s_aload 1, s_aload 0, s_iload 3, s_ic (1), s_iadd, s_sca L xs, s_callV 11 1 Pre_X11_valley Fn_X11_valley, s_aload 2, s_aload 0, s_iload 3, s_ic (1), s_iadd, s_sca L xs, s_callV 12 1 Pre_X12_valley Fn_X12_valley, s_iceq 16]
def pc_L_c8 : Nat → Nat := fun i => [613, 614, 615, 616, 617, 618, 619, 622, 623, 624, 625, 626, 627, 628, 631, 634, 2157].getD i 0
def dl_L_c8 : List (Nat × Instr × Nat) := [(613, .aload_n 1, 1), (614, .aload_n 0, 1), (615, .iload_n 3, 1), (616, .iconst 1, 1), (617, .iadd, 1), (618, .iaload, 1), (619, .invokevirtual 54, 3), (622, .aload_n 2, 1), (623, .aload_n 0, 1), (624, .iload_n 3, 1), (625, .iconst 1, 1), (626, .iadd, 1), (627, .iaload, 1), (628, .invokevirtual 58, 3), (631, .if_icmp .eq 1526, 3)]
theorem dc_L_c8 : DEC code pc_L_c8 dl_L_c8 := DEC_of (by decide +kernel)
set_option maxRecDepth 8000 in
theorem cs_L_c8 {L : Nat} {xs : Nat → Int32} {X : KonT} {mm : MM} {i : Nat} (h : RUN (P_L_c8 L xs) RRl X) (hI : INV mm) (hi : i + 6 ≤ L) (hL : L ≤ 3072) (hk : ∀ M, INV M → X 16 (LSl i) [] M) : X 0 (LSl i) [] mm := by
  have b_1 : inb (nI i + 1) L = true := inb_law 1 hi hL (by decide)
  obtain ⟨p1, v, M, M', e1, p2, e2, hI2⟩ := LW_valley hI (xs (nI i + 1).toNatClampNeg)
  have e2 : Fn_X12_valley M [vR 12 0, vI (xs (nI i + 1).toNatClampNeg)] = (some (vI v), M') := e2
  refine h (fun k => Nat.beq k 7) 3000 0 _ _ _ ?_
  refine And.intro b_1 ?_
  refine And.intro p1 ?_
  show X 7 (LSl i) ((Fn_X11_valley mm [vR 11 0, vI (xs (nI i + 1).toNatClampNeg)]).1.toList ++ []) (Fn_X11_valley mm [vR 11 0, vI (xs (nI i + 1).toNatClampNeg)]).2
  rw [e1]
  show X 7 (LSl i) [vI v] M
  refine h (fun k => Nat.beq k 14) 3000 7 _ _ _ ?_
  refine And.intro b_1 ?_
  refine And.intro p2 ?_
  show X 14 (LSl i) ((Fn_X12_valley M [vR 12 0, vI (xs (nI i + 1).toNatClampNeg)]).1.toList ++ [vI v]) (Fn_X12_valley M [vR 12 0, vI (xs (nI i + 1).toNatClampNeg)]).2
  rw [e2]
  show X 14 (LSl i) [vI v, vI v] M'
  refine h (fun k => Nat.beq k 16) 3000 14 _ _ _ ?_
  refine br_t rfl ?_
  exact hk M' hI2
def P_L_c9 (L : Nat) (xs : Nat → Int32) : List StpT := [s_aload 1, s_aload 0, s_iload 3, s_ic (1), s_iadd, s_sca L xs, s_callV 11 1 Pre_X11_years Fn_X11_years, s_aload 2, s_aload 0, s_iload 3, s_ic (1), s_iadd, s_sca L xs, s_callV 12 1 Pre_X12_years Fn_X12_years, s_iceq 16]
def pc_L_c9 : Nat → Nat := fun i => [636, 637, 638, 639, 640, 641, 642, 645, 646, 647, 648, 649, 650, 651, 654, 657, 2157].getD i 0
def dl_L_c9 : List (Nat × Instr × Nat) := [(636, .aload_n 1, 1), (637, .aload_n 0, 1), (638, .iload_n 3, 1), (639, .iconst 1, 1), (640, .iadd, 1), (641, .iaload, 1), (642, .invokevirtual 59, 3), (645, .aload_n 2, 1), (646, .aload_n 0, 1), (647, .iload_n 3, 1), (648, .iconst 1, 1), (649, .iadd, 1), (650, .iaload, 1), (651, .invokevirtual 62, 3), (654, .if_icmp .eq 1503, 3)]
theorem dc_L_c9 : DEC code pc_L_c9 dl_L_c9 := DEC_of (by decide +kernel)
set_option maxRecDepth 8000 in
theorem cs_L_c9 {L : Nat} {xs : Nat → Int32} {X : KonT} {mm : MM} {i : Nat} (h : RUN (P_L_c9 L xs) RRl X) (hI : INV mm) (hi : i + 6 ≤ L) (hL : L ≤ 3072) (hk : ∀ M, INV M → X 16 (LSl i) [] M) : X 0 (LSl i) [] mm := by
  have b_1 : inb (nI i + 1) L = true := inb_law 1 hi hL (by decide)
  obtain ⟨p1, v, M, M', e1, p2, e2, hI2⟩ := LW_years hI (xs (nI i + 1).toNatClampNeg)
  have e2 : Fn_X12_years M [vR 12 0, vI (xs (nI i + 1).toNatClampNeg)] = (some (vI v), M') := e2
  refine h (fun k => Nat.beq k 7) 3000 0 _ _ _ ?_
  refine And.intro b_1 ?_
  refine And.intro p1 ?_
  show X 7 (LSl i) ((Fn_X11_years mm [vR 11 0, vI (xs (nI i + 1).toNatClampNeg)]).1.toList ++ []) (Fn_X11_years mm [vR 11 0, vI (xs (nI i + 1).toNatClampNeg)]).2
  rw [e1]
  show X 7 (LSl i) [vI v] M
  refine h (fun k => Nat.beq k 14) 3000 7 _ _ _ ?_
  refine And.intro b_1 ?_
  refine And.intro p2 ?_
  show X 14 (LSl i) ((Fn_X12_years M [vR 12 0, vI (xs (nI i + 1).toNatClampNeg)]).1.toList ++ [vI v]) (Fn_X12_years M [vR 12 0, vI (xs (nI i + 1).toNatClampNeg)]).2
  rw [e2]
  show X 14 (LSl i) [vI v, vI v] M'
  refine h (fun k => Nat.beq k 16) 3000 14 _ _ _ ?_
  refine br_t rfl ?_
  exact hk M' hI2
def P_L_c10 (L : Nat) (xs : Nat → Int32) : List StpT := [s_aload 1, s_aload 0, s_iload 3, s_ic (1), s_iadd, s_sca L xs, s_callV 11 1 Pre_X11_fault Fn_X11_fault, s_aload 2, s_aload 0, s_iload 3, s_ic (1), s_iadd, s_sca L xs, s_callV 12 1 Pre_X12_fault Fn_X12_fault, s_iceq 16]
def pc_L_c10 : Nat → Nat := fun i => [659, 660, 661, 662, 663, 664, 665, 668, 669, 670, 671, 672, 673, 674, 677, 680, 2157].getD i 0
def dl_L_c10 : List (Nat × Instr × Nat) := [(659, .aload_n 1, 1), (660, .aload_n 0, 1), (661, .iload_n 3, 1), (662, .iconst 1, 1), (663, .iadd, 1), (664, .iaload, 1), (665, .invokevirtual 63, 3), (668, .aload_n 2, 1), (669, .aload_n 0, 1), (670, .iload_n 3, 1), (671, .iconst 1, 1), (672, .iadd, 1), (673, .iaload, 1), (674, .invokevirtual 66, 3), (677, .if_icmp .eq 1480, 3)]
theorem dc_L_c10 : DEC code pc_L_c10 dl_L_c10 := DEC_of (by decide +kernel)
set_option maxRecDepth 8000 in
theorem cs_L_c10 {L : Nat} {xs : Nat → Int32} {X : KonT} {mm : MM} {i : Nat} (h : RUN (P_L_c10 L xs) RRl X) (hI : INV mm) (hi : i + 6 ≤ L) (hL : L ≤ 3072) (hk : ∀ M, INV M → X 16 (LSl i) [] M) : X 0 (LSl i) [] mm := by
  have b_1 : inb (nI i + 1) L = true := inb_law 1 hi hL (by decide)
  obtain ⟨p1, v, M, M', e1, p2, e2, hI2⟩ := LW_fault hI (xs (nI i + 1).toNatClampNeg)
  have e2 : Fn_X12_fault M [vR 12 0, vI (xs (nI i + 1).toNatClampNeg)] = (some (vI v), M') := e2
  refine h (fun k => Nat.beq k 7) 3000 0 _ _ _ ?_
  refine And.intro b_1 ?_
  refine And.intro p1 ?_
  show X 7 (LSl i) ((Fn_X11_fault mm [vR 11 0, vI (xs (nI i + 1).toNatClampNeg)]).1.toList ++ []) (Fn_X11_fault mm [vR 11 0, vI (xs (nI i + 1).toNatClampNeg)]).2
  rw [e1]
  show X 7 (LSl i) [vI v] M
  refine h (fun k => Nat.beq k 14) 3000 7 _ _ _ ?_
  refine And.intro b_1 ?_
  refine And.intro p2 ?_
  show X 14 (LSl i) ((Fn_X12_fault M [vR 12 0, vI (xs (nI i + 1).toNatClampNeg)]).1.toList ++ [vI v]) (Fn_X12_fault M [vR 12 0, vI (xs (nI i + 1).toNatClampNeg)]).2
  rw [e2]
  show X 14 (LSl i) [vI v, vI v] M'
  refine h (fun k => Nat.beq k 16) 3000 14 _ _ _ ?_
  refine br_t rfl ?_
  exact hk M' hI2
def P_L_c11 (L : Nat) (xs : Nat → Int32) : List StpT := [s_aload 1, s_aload 0, s_iload 3, s_ic (1), s_iadd, s_sca L xs, s_callV 11 1 Pre_X11_told Fn_X11_told, s_aload 2, s_aload 0, s_iload 3, s_ic (1), s_iadd, s_sca L xs, s_callV 12 1 Pre_X12_told Fn_X12_told, s_iceq 16]
def pc_L_c11 : Nat → Nat := fun i => [682, 683, 684, 685, 686, 687, 688, 691, 692, 693, 694, 695, 696, 697, 700, 703, 2157].getD i 0
def dl_L_c11 : List (Nat × Instr × Nat) := [(682, .aload_n 1, 1), (683, .aload_n 0, 1), (684, .iload_n 3, 1), (685, .iconst 1, 1), (686, .iadd, 1), (687, .iaload, 1), (688, .invokevirtual 67, 3), (691, .aload_n 2, 1), (692, .aload_n 0, 1), (693, .iload_n 3, 1), (694, .iconst 1, 1), (695, .iadd, 1), (696, .iaload, 1), (697, .invokevirtual 70, 3), (700, .if_icmp .eq 1457, 3)]
theorem dc_L_c11 : DEC code pc_L_c11 dl_L_c11 := DEC_of (by decide +kernel)
set_option maxRecDepth 8000 in
theorem cs_L_c11 {L : Nat} {xs : Nat → Int32} {X : KonT} {mm : MM} {i : Nat} (h : RUN (P_L_c11 L xs) RRl X) (hI : INV mm) (hi : i + 6 ≤ L) (hL : L ≤ 3072) (hk : ∀ M, INV M → X 16 (LSl i) [] M) : X 0 (LSl i) [] mm := by
  have b_1 : inb (nI i + 1) L = true := inb_law 1 hi hL (by decide)
  obtain ⟨p1, v, M, M', e1, p2, e2, hI2⟩ := LW_told hI (xs (nI i + 1).toNatClampNeg)
  have e2 : Fn_X12_told M [vR 12 0, vI (xs (nI i + 1).toNatClampNeg)] = (some (vI v), M') := e2
  refine h (fun k => Nat.beq k 7) 3000 0 _ _ _ ?_
  refine And.intro b_1 ?_
  refine And.intro p1 ?_
  show X 7 (LSl i) ((Fn_X11_told mm [vR 11 0, vI (xs (nI i + 1).toNatClampNeg)]).1.toList ++ []) (Fn_X11_told mm [vR 11 0, vI (xs (nI i + 1).toNatClampNeg)]).2
  rw [e1]
  show X 7 (LSl i) [vI v] M
  refine h (fun k => Nat.beq k 14) 3000 7 _ _ _ ?_
  refine And.intro b_1 ?_
  refine And.intro p2 ?_
  show X 14 (LSl i) ((Fn_X12_told M [vR 12 0, vI (xs (nI i + 1).toNatClampNeg)]).1.toList ++ [vI v]) (Fn_X12_told M [vR 12 0, vI (xs (nI i + 1).toNatClampNeg)]).2
  rw [e2]
  show X 14 (LSl i) [vI v, vI v] M'
  refine h (fun k => Nat.beq k 16) 3000 14 _ _ _ ?_
  refine br_t rfl ?_
  exact hk M' hI2
def P_L_c12 (L : Nat) (xs : Nat → Int32) : List StpT := [s_aload 1, s_aload 0, s_iload 3, s_ic (1), s_iadd, s_sca L xs, s_aload 0, s_iload 3, s_ic (2), s_iadd, s_sca L xs, s_callV 11 2 Pre_X11_suitor Fn_X11_suitor, s_aload 2, s_aload 0, s_iload 3, s_ic (1), s_iadd, s_sca L xs, s_aload 0, s_iload 3, s_ic (2), s_iadd, s_sca L xs, s_callV 12 2 Pre_X12_suitor Fn_X12_suitor, s_iceq 26]
def pc_L_c12 : Nat → Nat := fun i => [705, 706, 707, 708, 709, 710, 711, 712, 713, 714, 715, 716, 719, 720, 721, 722, 723, 724, 725, 726, 727, 728, 729, 730, 733, 736, 2157].getD i 0
def dl_L_c12 : List (Nat × Instr × Nat) := [(705, .aload_n 1, 1), (706, .aload_n 0, 1), (707, .iload_n 3, 1), (708, .iconst 1, 1), (709, .iadd, 1), (710, .iaload, 1), (711, .aload_n 0, 1), (712, .iload_n 3, 1), (713, .iconst 2, 1), (714, .iadd, 1), (715, .iaload, 1), (716, .invokevirtual 71, 3), (719, .aload_n 2, 1), (720, .aload_n 0, 1), (721, .iload_n 3, 1), (722, .iconst 1, 1), (723, .iadd, 1), (724, .iaload, 1), (725, .aload_n 0, 1), (726, .iload_n 3, 1), (727, .iconst 2, 1), (728, .iadd, 1), (729, .iaload, 1), (730, .invokevirtual 75, 3), (733, .if_icmp .eq 1424, 3)]
theorem dc_L_c12 : DEC code pc_L_c12 dl_L_c12 := DEC_of (by decide +kernel)
set_option maxRecDepth 8000 in
theorem cs_L_c12 {L : Nat} {xs : Nat → Int32} {X : KonT} {mm : MM} {i : Nat} (h : RUN (P_L_c12 L xs) RRl X) (hI : INV mm) (hi : i + 6 ≤ L) (hL : L ≤ 3072) (hk : ∀ M, INV M → X 26 (LSl i) [] M) : X 0 (LSl i) [] mm := by
  have b_1 : inb (nI i + 1) L = true := inb_law 1 hi hL (by decide)
  have b_2 : inb (nI i + 2) L = true := inb_law 2 hi hL (by decide)
  obtain ⟨p1, v, M, M', e1, p2, e2, hI2⟩ := LW_suitor hI (xs (nI i + 1).toNatClampNeg) (xs (nI i + 2).toNatClampNeg)
  have e2 : Fn_X12_suitor M [vR 12 0, vI (xs (nI i + 1).toNatClampNeg), vI (xs (nI i + 2).toNatClampNeg)] = (some (vI v), M') := e2
  refine h (fun k => Nat.beq k 12) 3000 0 _ _ _ ?_
  refine And.intro b_1 ?_
  refine And.intro b_2 ?_
  refine And.intro p1 ?_
  show X 12 (LSl i) ((Fn_X11_suitor mm [vR 11 0, vI (xs (nI i + 1).toNatClampNeg), vI (xs (nI i + 2).toNatClampNeg)]).1.toList ++ []) (Fn_X11_suitor mm [vR 11 0, vI (xs (nI i + 1).toNatClampNeg), vI (xs (nI i + 2).toNatClampNeg)]).2
  rw [e1]
  show X 12 (LSl i) [vI v] M
  refine h (fun k => Nat.beq k 24) 3000 12 _ _ _ ?_
  refine And.intro b_1 ?_
  refine And.intro b_2 ?_
  refine And.intro p2 ?_
  show X 24 (LSl i) ((Fn_X12_suitor M [vR 12 0, vI (xs (nI i + 1).toNatClampNeg), vI (xs (nI i + 2).toNatClampNeg)]).1.toList ++ [vI v]) (Fn_X12_suitor M [vR 12 0, vI (xs (nI i + 1).toNatClampNeg), vI (xs (nI i + 2).toNatClampNeg)]).2
  rw [e2]
  show X 24 (LSl i) [vI v, vI v] M'
  refine h (fun k => Nat.beq k 26) 3000 24 _ _ _ ?_
  refine br_t rfl ?_
  exact hk M' hI2
def P_L_c13 (L : Nat) (xs : Nat → Int32) : List StpT := [s_aload 1, s_aload 0, s_iload 3, s_ic (1), s_iadd, s_sca L xs, s_aload 0, s_iload 3, s_ic (2), s_iadd, s_sca L xs, s_callV 11 2 Pre_X11_maid Fn_X11_maid, s_aload 2, s_aload 0, s_iload 3, s_ic (1), s_iadd, s_sca L xs, s_aload 0, s_iload 3, s_ic (2), s_iadd, s_sca L xs, s_callV 12 2 Pre_X12_maid Fn_X12_maid, s_iceq 26]
def pc_L_c13 : Nat → Nat := fun i => [738, 739, 740, 741, 742, 743, 744, 745, 746, 747, 748, 749, 752, 753, 754, 755, 756, 757, 758, 759, 760, 761, 762, 763, 766, 769, 2157].getD i 0
def dl_L_c13 : List (Nat × Instr × Nat) := [(738, .aload_n 1, 1), (739, .aload_n 0, 1), (740, .iload_n 3, 1), (741, .iconst 1, 1), (742, .iadd, 1), (743, .iaload, 1), (744, .aload_n 0, 1), (745, .iload_n 3, 1), (746, .iconst 2, 1), (747, .iadd, 1), (748, .iaload, 1), (749, .invokevirtual 76, 3), (752, .aload_n 2, 1), (753, .aload_n 0, 1), (754, .iload_n 3, 1), (755, .iconst 1, 1), (756, .iadd, 1), (757, .iaload, 1), (758, .aload_n 0, 1), (759, .iload_n 3, 1), (760, .iconst 2, 1), (761, .iadd, 1), (762, .iaload, 1), (763, .invokevirtual 79, 3), (766, .if_icmp .eq 1391, 3)]
theorem dc_L_c13 : DEC code pc_L_c13 dl_L_c13 := DEC_of (by decide +kernel)
set_option maxRecDepth 8000 in
theorem cs_L_c13 {L : Nat} {xs : Nat → Int32} {X : KonT} {mm : MM} {i : Nat} (h : RUN (P_L_c13 L xs) RRl X) (hI : INV mm) (hi : i + 6 ≤ L) (hL : L ≤ 3072) (hk : ∀ M, INV M → X 26 (LSl i) [] M) : X 0 (LSl i) [] mm := by
  have b_1 : inb (nI i + 1) L = true := inb_law 1 hi hL (by decide)
  have b_2 : inb (nI i + 2) L = true := inb_law 2 hi hL (by decide)
  obtain ⟨p1, v, M, M', e1, p2, e2, hI2⟩ := LW_maid hI (xs (nI i + 1).toNatClampNeg) (xs (nI i + 2).toNatClampNeg)
  have e2 : Fn_X12_maid M [vR 12 0, vI (xs (nI i + 1).toNatClampNeg), vI (xs (nI i + 2).toNatClampNeg)] = (some (vI v), M') := e2
  refine h (fun k => Nat.beq k 12) 3000 0 _ _ _ ?_
  refine And.intro b_1 ?_
  refine And.intro b_2 ?_
  refine And.intro p1 ?_
  show X 12 (LSl i) ((Fn_X11_maid mm [vR 11 0, vI (xs (nI i + 1).toNatClampNeg), vI (xs (nI i + 2).toNatClampNeg)]).1.toList ++ []) (Fn_X11_maid mm [vR 11 0, vI (xs (nI i + 1).toNatClampNeg), vI (xs (nI i + 2).toNatClampNeg)]).2
  rw [e1]
  show X 12 (LSl i) [vI v] M
  refine h (fun k => Nat.beq k 24) 3000 12 _ _ _ ?_
  refine And.intro b_1 ?_
  refine And.intro b_2 ?_
  refine And.intro p2 ?_
  show X 24 (LSl i) ((Fn_X12_maid M [vR 12 0, vI (xs (nI i + 1).toNatClampNeg), vI (xs (nI i + 2).toNatClampNeg)]).1.toList ++ [vI v]) (Fn_X12_maid M [vR 12 0, vI (xs (nI i + 1).toNatClampNeg), vI (xs (nI i + 2).toNatClampNeg)]).2
  rw [e2]
  show X 24 (LSl i) [vI v, vI v] M'
  refine h (fun k => Nat.beq k 26) 3000 24 _ _ _ ?_
  refine br_t rfl ?_
  exact hk M' hI2
def P_L_c14 (L : Nat) (xs : Nat → Int32) : List StpT := [s_aload 1, s_aload 0, s_iload 3, s_ic (1), s_iadd, s_sca L xs, s_aload 0, s_iload 3, s_ic (2), s_iadd, s_sca L xs, s_callV 11 2 Pre_X11_thing Fn_X11_thing, s_aload 2, s_aload 0, s_iload 3, s_ic (1), s_iadd, s_sca L xs, s_aload 0, s_iload 3, s_ic (2), s_iadd, s_sca L xs, s_callV 12 2 Pre_X12_thing Fn_X12_thing, s_iceq 26]
def pc_L_c14 : Nat → Nat := fun i => [771, 772, 773, 774, 775, 776, 777, 778, 779, 780, 781, 782, 785, 786, 787, 788, 789, 790, 791, 792, 793, 794, 795, 796, 799, 802, 2157].getD i 0
def dl_L_c14 : List (Nat × Instr × Nat) := [(771, .aload_n 1, 1), (772, .aload_n 0, 1), (773, .iload_n 3, 1), (774, .iconst 1, 1), (775, .iadd, 1), (776, .iaload, 1), (777, .aload_n 0, 1), (778, .iload_n 3, 1), (779, .iconst 2, 1), (780, .iadd, 1), (781, .iaload, 1), (782, .invokevirtual 80, 3), (785, .aload_n 2, 1), (786, .aload_n 0, 1), (787, .iload_n 3, 1), (788, .iconst 1, 1), (789, .iadd, 1), (790, .iaload, 1), (791, .aload_n 0, 1), (792, .iload_n 3, 1), (793, .iconst 2, 1), (794, .iadd, 1), (795, .iaload, 1), (796, .invokevirtual 83, 3), (799, .if_icmp .eq 1358, 3)]
theorem dc_L_c14 : DEC code pc_L_c14 dl_L_c14 := DEC_of (by decide +kernel)
set_option maxRecDepth 8000 in
theorem cs_L_c14 {L : Nat} {xs : Nat → Int32} {X : KonT} {mm : MM} {i : Nat} (h : RUN (P_L_c14 L xs) RRl X) (hI : INV mm) (hi : i + 6 ≤ L) (hL : L ≤ 3072) (hk : ∀ M, INV M → X 26 (LSl i) [] M) : X 0 (LSl i) [] mm := by
  have b_1 : inb (nI i + 1) L = true := inb_law 1 hi hL (by decide)
  have b_2 : inb (nI i + 2) L = true := inb_law 2 hi hL (by decide)
  obtain ⟨p1, v, M, M', e1, p2, e2, hI2⟩ := LW_thing hI (xs (nI i + 1).toNatClampNeg) (xs (nI i + 2).toNatClampNeg)
  have e2 : Fn_X12_thing M [vR 12 0, vI (xs (nI i + 1).toNatClampNeg), vI (xs (nI i + 2).toNatClampNeg)] = (some (vI v), M') := e2
  refine h (fun k => Nat.beq k 12) 3000 0 _ _ _ ?_
  refine And.intro b_1 ?_
  refine And.intro b_2 ?_
  refine And.intro p1 ?_
  show X 12 (LSl i) ((Fn_X11_thing mm [vR 11 0, vI (xs (nI i + 1).toNatClampNeg), vI (xs (nI i + 2).toNatClampNeg)]).1.toList ++ []) (Fn_X11_thing mm [vR 11 0, vI (xs (nI i + 1).toNatClampNeg), vI (xs (nI i + 2).toNatClampNeg)]).2
  rw [e1]
  show X 12 (LSl i) [vI v] M
  refine h (fun k => Nat.beq k 24) 3000 12 _ _ _ ?_
  refine And.intro b_1 ?_
  refine And.intro b_2 ?_
  refine And.intro p2 ?_
  show X 24 (LSl i) ((Fn_X12_thing M [vR 12 0, vI (xs (nI i + 1).toNatClampNeg), vI (xs (nI i + 2).toNatClampNeg)]).1.toList ++ [vI v]) (Fn_X12_thing M [vR 12 0, vI (xs (nI i + 1).toNatClampNeg), vI (xs (nI i + 2).toNatClampNeg)]).2
  rw [e2]
  show X 24 (LSl i) [vI v, vI v] M'
  refine h (fun k => Nat.beq k 26) 3000 24 _ _ _ ?_
  refine br_t rfl ?_
  exact hk M' hI2
def P_L_c15 (L : Nat) (xs : Nat → Int32) : List StpT := [s_aload 1, s_aload 0, s_iload 3, s_ic (1), s_iadd, s_sca L xs, s_aload 0, s_iload 3, s_ic (2), s_iadd, s_sca L xs, s_callV 11 2 Pre_X11_says Fn_X11_says, s_aload 2, s_aload 0, s_iload 3, s_ic (1), s_iadd, s_sca L xs, s_aload 0, s_iload 3, s_ic (2), s_iadd, s_sca L xs, s_callV 12 2 Pre_X12_says Fn_X12_says, s_iceq 26]
def pc_L_c15 : Nat → Nat := fun i => [804, 805, 806, 807, 808, 809, 810, 811, 812, 813, 814, 815, 818, 819, 820, 821, 822, 823, 824, 825, 826, 827, 828, 829, 832, 835, 2157].getD i 0
def dl_L_c15 : List (Nat × Instr × Nat) := [(804, .aload_n 1, 1), (805, .aload_n 0, 1), (806, .iload_n 3, 1), (807, .iconst 1, 1), (808, .iadd, 1), (809, .iaload, 1), (810, .aload_n 0, 1), (811, .iload_n 3, 1), (812, .iconst 2, 1), (813, .iadd, 1), (814, .iaload, 1), (815, .invokevirtual 84, 3), (818, .aload_n 2, 1), (819, .aload_n 0, 1), (820, .iload_n 3, 1), (821, .iconst 1, 1), (822, .iadd, 1), (823, .iaload, 1), (824, .aload_n 0, 1), (825, .iload_n 3, 1), (826, .iconst 2, 1), (827, .iadd, 1), (828, .iaload, 1), (829, .invokevirtual 87, 3), (832, .if_icmp .eq 1325, 3)]
theorem dc_L_c15 : DEC code pc_L_c15 dl_L_c15 := DEC_of (by decide +kernel)
set_option maxRecDepth 8000 in
theorem cs_L_c15 {L : Nat} {xs : Nat → Int32} {X : KonT} {mm : MM} {i : Nat} (h : RUN (P_L_c15 L xs) RRl X) (hI : INV mm) (hi : i + 6 ≤ L) (hL : L ≤ 3072) (hk : ∀ M, INV M → X 26 (LSl i) [] M) : X 0 (LSl i) [] mm := by
  have b_1 : inb (nI i + 1) L = true := inb_law 1 hi hL (by decide)
  have b_2 : inb (nI i + 2) L = true := inb_law 2 hi hL (by decide)
  obtain ⟨p1, v, M, M', e1, p2, e2, hI2⟩ := LW_says hI (xs (nI i + 1).toNatClampNeg) (xs (nI i + 2).toNatClampNeg)
  have e2 : Fn_X12_says M [vR 12 0, vI (xs (nI i + 1).toNatClampNeg), vI (xs (nI i + 2).toNatClampNeg)] = (some (vI v), M') := e2
  refine h (fun k => Nat.beq k 12) 3000 0 _ _ _ ?_
  refine And.intro b_1 ?_
  refine And.intro b_2 ?_
  refine And.intro p1 ?_
  show X 12 (LSl i) ((Fn_X11_says mm [vR 11 0, vI (xs (nI i + 1).toNatClampNeg), vI (xs (nI i + 2).toNatClampNeg)]).1.toList ++ []) (Fn_X11_says mm [vR 11 0, vI (xs (nI i + 1).toNatClampNeg), vI (xs (nI i + 2).toNatClampNeg)]).2
  rw [e1]
  show X 12 (LSl i) [vI v] M
  refine h (fun k => Nat.beq k 24) 3000 12 _ _ _ ?_
  refine And.intro b_1 ?_
  refine And.intro b_2 ?_
  refine And.intro p2 ?_
  show X 24 (LSl i) ((Fn_X12_says M [vR 12 0, vI (xs (nI i + 1).toNatClampNeg), vI (xs (nI i + 2).toNatClampNeg)]).1.toList ++ [vI v]) (Fn_X12_says M [vR 12 0, vI (xs (nI i + 1).toNatClampNeg), vI (xs (nI i + 2).toNatClampNeg)]).2
  rw [e2]
  show X 24 (LSl i) [vI v, vI v] M'
  refine h (fun k => Nat.beq k 26) 3000 24 _ _ _ ?_
  refine br_t rfl ?_
  exact hk M' hI2
def P_L_c16 (L : Nat) (xs : Nat → Int32) : List StpT := [s_aload 1, s_aload 0, s_iload 3, s_ic (1), s_iadd, s_sca L xs, s_aload 0, s_iload 3, s_ic (2), s_iadd, s_sca L xs, s_callV 11 2 Pre_X11_likes Fn_X11_likes, s_aload 2, s_aload 0, s_iload 3, s_ic (1), s_iadd, s_sca L xs, s_aload 0, s_iload 3, s_ic (2), s_iadd, s_sca L xs, s_callV 12 2 Pre_X12_likes Fn_X12_likes, s_iceq 26]
def pc_L_c16 : Nat → Nat := fun i => [837, 838, 839, 840, 841, 842, 843, 844, 845, 846, 847, 848, 851, 852, 853, 854, 855, 856, 857, 858, 859, 860, 861, 862, 865, 868, 2157].getD i 0
def dl_L_c16 : List (Nat × Instr × Nat) := [(837, .aload_n 1, 1), (838, .aload_n 0, 1), (839, .iload_n 3, 1), (840, .iconst 1, 1), (841, .iadd, 1), (842, .iaload, 1), (843, .aload_n 0, 1), (844, .iload_n 3, 1), (845, .iconst 2, 1), (846, .iadd, 1), (847, .iaload, 1), (848, .invokevirtual 88, 3), (851, .aload_n 2, 1), (852, .aload_n 0, 1), (853, .iload_n 3, 1), (854, .iconst 1, 1), (855, .iadd, 1), (856, .iaload, 1), (857, .aload_n 0, 1), (858, .iload_n 3, 1), (859, .iconst 2, 1), (860, .iadd, 1), (861, .iaload, 1), (862, .invokevirtual 91, 3), (865, .if_icmp .eq 1292, 3)]
theorem dc_L_c16 : DEC code pc_L_c16 dl_L_c16 := DEC_of (by decide +kernel)
set_option maxRecDepth 8000 in
theorem cs_L_c16 {L : Nat} {xs : Nat → Int32} {X : KonT} {mm : MM} {i : Nat} (h : RUN (P_L_c16 L xs) RRl X) (hI : INV mm) (hi : i + 6 ≤ L) (hL : L ≤ 3072) (hk : ∀ M, INV M → X 26 (LSl i) [] M) : X 0 (LSl i) [] mm := by
  have b_1 : inb (nI i + 1) L = true := inb_law 1 hi hL (by decide)
  have b_2 : inb (nI i + 2) L = true := inb_law 2 hi hL (by decide)
  obtain ⟨p1, v, M, M', e1, p2, e2, hI2⟩ := LW_likes hI (xs (nI i + 1).toNatClampNeg) (xs (nI i + 2).toNatClampNeg)
  have e2 : Fn_X12_likes M [vR 12 0, vI (xs (nI i + 1).toNatClampNeg), vI (xs (nI i + 2).toNatClampNeg)] = (some (vI v), M') := e2
  refine h (fun k => Nat.beq k 12) 3000 0 _ _ _ ?_
  refine And.intro b_1 ?_
  refine And.intro b_2 ?_
  refine And.intro p1 ?_
  show X 12 (LSl i) ((Fn_X11_likes mm [vR 11 0, vI (xs (nI i + 1).toNatClampNeg), vI (xs (nI i + 2).toNatClampNeg)]).1.toList ++ []) (Fn_X11_likes mm [vR 11 0, vI (xs (nI i + 1).toNatClampNeg), vI (xs (nI i + 2).toNatClampNeg)]).2
  rw [e1]
  show X 12 (LSl i) [vI v] M
  refine h (fun k => Nat.beq k 24) 3000 12 _ _ _ ?_
  refine And.intro b_1 ?_
  refine And.intro b_2 ?_
  refine And.intro p2 ?_
  show X 24 (LSl i) ((Fn_X12_likes M [vR 12 0, vI (xs (nI i + 1).toNatClampNeg), vI (xs (nI i + 2).toNatClampNeg)]).1.toList ++ [vI v]) (Fn_X12_likes M [vR 12 0, vI (xs (nI i + 1).toNatClampNeg), vI (xs (nI i + 2).toNatClampNeg)]).2
  rw [e2]
  show X 24 (LSl i) [vI v, vI v] M'
  refine h (fun k => Nat.beq k 26) 3000 24 _ _ _ ?_
  refine br_t rfl ?_
  exact hk M' hI2
def P_L_c17 (L : Nat) (xs : Nat → Int32) : List StpT := [s_aload 1, s_aload 0, s_iload 3, s_ic (1), s_iadd, s_sca L xs, s_callV 11 1 Pre_X11_give Fn_X11_give, s_aload 2, s_aload 0, s_iload 3, s_ic (1), s_iadd, s_sca L xs, s_callV 12 1 Pre_X12_give Fn_X12_give, s_iceq 16]
def pc_L_c17 : Nat → Nat := fun i => [870, 871, 872, 873, 874, 875, 876, 879, 880, 881, 882, 883, 884, 885, 888, 891, 2157].getD i 0
def dl_L_c17 : List (Nat × Instr × Nat) := [(870, .aload_n 1, 1), (871, .aload_n 0, 1), (872, .iload_n 3, 1), (873, .iconst 1, 1), (874, .iadd, 1), (875, .iaload, 1), (876, .invokevirtual 92, 3), (879, .aload_n 2, 1), (880, .aload_n 0, 1), (881, .iload_n 3, 1), (882, .iconst 1, 1), (883, .iadd, 1), (884, .iaload, 1), (885, .invokevirtual 95, 3), (888, .if_icmp .eq 1269, 3)]
theorem dc_L_c17 : DEC code pc_L_c17 dl_L_c17 := DEC_of (by decide +kernel)
set_option maxRecDepth 8000 in
theorem cs_L_c17 {L : Nat} {xs : Nat → Int32} {X : KonT} {mm : MM} {i : Nat} (h : RUN (P_L_c17 L xs) RRl X) (hI : INV mm) (hi : i + 6 ≤ L) (hL : L ≤ 3072) (hk : ∀ M, INV M → X 16 (LSl i) [] M) : X 0 (LSl i) [] mm := by
  have b_1 : inb (nI i + 1) L = true := inb_law 1 hi hL (by decide)
  obtain ⟨p1, v, M, M', e1, p2, e2, hI2⟩ := LW_give hI (xs (nI i + 1).toNatClampNeg)
  have e2 : Fn_X12_give M [vR 12 0, vI (xs (nI i + 1).toNatClampNeg)] = (some (vI v), M') := e2
  refine h (fun k => Nat.beq k 7) 3000 0 _ _ _ ?_
  refine And.intro b_1 ?_
  refine And.intro p1 ?_
  show X 7 (LSl i) ((Fn_X11_give mm [vR 11 0, vI (xs (nI i + 1).toNatClampNeg)]).1.toList ++ []) (Fn_X11_give mm [vR 11 0, vI (xs (nI i + 1).toNatClampNeg)]).2
  rw [e1]
  show X 7 (LSl i) [vI v] M
  refine h (fun k => Nat.beq k 14) 3000 7 _ _ _ ?_
  refine And.intro b_1 ?_
  refine And.intro p2 ?_
  show X 14 (LSl i) ((Fn_X12_give M [vR 12 0, vI (xs (nI i + 1).toNatClampNeg)]).1.toList ++ [vI v]) (Fn_X12_give M [vR 12 0, vI (xs (nI i + 1).toNatClampNeg)]).2
  rw [e2]
  show X 14 (LSl i) [vI v, vI v] M'
  refine h (fun k => Nat.beq k 16) 3000 14 _ _ _ ?_
  refine br_t rfl ?_
  exact hk M' hI2
def P_L_c18 (L : Nat) (xs : Nat → Int32) : List StpT := [s_aload 1, s_aload 0, s_iload 3, s_ic (1), s_iadd, s_sca L xs, s_callV 11 1 Pre_X11_feign Fn_X11_feign, s_aload 2, s_aload 0, s_iload 3, s_ic (1), s_iadd, s_sca L xs, s_callV 12 1 Pre_X12_feign Fn_X12_feign, s_iceq 16]
def pc_L_c18 : Nat → Nat := fun i => [893, 894, 895, 896, 897, 898, 899, 902, 903, 904, 905, 906, 907, 908, 911, 914, 2157].getD i 0
def dl_L_c18 : List (Nat × Instr × Nat) := [(893, .aload_n 1, 1), (894, .aload_n 0, 1), (895, .iload_n 3, 1), (896, .iconst 1, 1), (897, .iadd, 1), (898, .iaload, 1), (899, .invokevirtual 96, 3), (902, .aload_n 2, 1), (903, .aload_n 0, 1), (904, .iload_n 3, 1), (905, .iconst 1, 1), (906, .iadd, 1), (907, .iaload, 1), (908, .invokevirtual 99, 3), (911, .if_icmp .eq 1246, 3)]
theorem dc_L_c18 : DEC code pc_L_c18 dl_L_c18 := DEC_of (by decide +kernel)
set_option maxRecDepth 8000 in
theorem cs_L_c18 {L : Nat} {xs : Nat → Int32} {X : KonT} {mm : MM} {i : Nat} (h : RUN (P_L_c18 L xs) RRl X) (hI : INV mm) (hi : i + 6 ≤ L) (hL : L ≤ 3072) (hk : ∀ M, INV M → X 16 (LSl i) [] M) : X 0 (LSl i) [] mm := by
  have b_1 : inb (nI i + 1) L = true := inb_law 1 hi hL (by decide)
  obtain ⟨p1, v, M, M', e1, p2, e2, hI2⟩ := LW_feign hI (xs (nI i + 1).toNatClampNeg)
  have e2 : Fn_X12_feign M [vR 12 0, vI (xs (nI i + 1).toNatClampNeg)] = (some (vI v), M') := e2
  refine h (fun k => Nat.beq k 7) 3000 0 _ _ _ ?_
  refine And.intro b_1 ?_
  refine And.intro p1 ?_
  show X 7 (LSl i) ((Fn_X11_feign mm [vR 11 0, vI (xs (nI i + 1).toNatClampNeg)]).1.toList ++ []) (Fn_X11_feign mm [vR 11 0, vI (xs (nI i + 1).toNatClampNeg)]).2
  rw [e1]
  show X 7 (LSl i) [vI v] M
  refine h (fun k => Nat.beq k 14) 3000 7 _ _ _ ?_
  refine And.intro b_1 ?_
  refine And.intro p2 ?_
  show X 14 (LSl i) ((Fn_X12_feign M [vR 12 0, vI (xs (nI i + 1).toNatClampNeg)]).1.toList ++ [vI v]) (Fn_X12_feign M [vR 12 0, vI (xs (nI i + 1).toNatClampNeg)]).2
  rw [e2]
  show X 14 (LSl i) [vI v, vI v] M'
  refine h (fun k => Nat.beq k 16) 3000 14 _ _ _ ?_
  refine br_t rfl ?_
  exact hk M' hI2
def P_L_c19 (L : Nat) (xs : Nat → Int32) : List StpT := [s_aload 1, s_aload 0, s_iload 3, s_ic (1), s_iadd, s_sca L xs, s_callV 11 1 Pre_X11_found Fn_X11_found, s_aload 2, s_aload 0, s_iload 3, s_ic (1), s_iadd, s_sca L xs, s_callV 12 1 Pre_X12_found Fn_X12_found, s_iceq 16]
def pc_L_c19 : Nat → Nat := fun i => [916, 917, 918, 919, 920, 921, 922, 925, 926, 927, 928, 929, 930, 931, 934, 937, 2157].getD i 0
def dl_L_c19 : List (Nat × Instr × Nat) := [(916, .aload_n 1, 1), (917, .aload_n 0, 1), (918, .iload_n 3, 1), (919, .iconst 1, 1), (920, .iadd, 1), (921, .iaload, 1), (922, .invokevirtual 100, 3), (925, .aload_n 2, 1), (926, .aload_n 0, 1), (927, .iload_n 3, 1), (928, .iconst 1, 1), (929, .iadd, 1), (930, .iaload, 1), (931, .invokevirtual 103, 3), (934, .if_icmp .eq 1223, 3)]
theorem dc_L_c19 : DEC code pc_L_c19 dl_L_c19 := DEC_of (by decide +kernel)
set_option maxRecDepth 8000 in
theorem cs_L_c19 {L : Nat} {xs : Nat → Int32} {X : KonT} {mm : MM} {i : Nat} (h : RUN (P_L_c19 L xs) RRl X) (hI : INV mm) (hi : i + 6 ≤ L) (hL : L ≤ 3072) (hk : ∀ M, INV M → X 16 (LSl i) [] M) : X 0 (LSl i) [] mm := by
  have b_1 : inb (nI i + 1) L = true := inb_law 1 hi hL (by decide)
  obtain ⟨p1, v, M, M', e1, p2, e2, hI2⟩ := LW_found hI (xs (nI i + 1).toNatClampNeg)
  have e2 : Fn_X12_found M [vR 12 0, vI (xs (nI i + 1).toNatClampNeg)] = (some (vI v), M') := e2
  refine h (fun k => Nat.beq k 7) 3000 0 _ _ _ ?_
  refine And.intro b_1 ?_
  refine And.intro p1 ?_
  show X 7 (LSl i) ((Fn_X11_found mm [vR 11 0, vI (xs (nI i + 1).toNatClampNeg)]).1.toList ++ []) (Fn_X11_found mm [vR 11 0, vI (xs (nI i + 1).toNatClampNeg)]).2
  rw [e1]
  show X 7 (LSl i) [vI v] M
  refine h (fun k => Nat.beq k 14) 3000 7 _ _ _ ?_
  refine And.intro b_1 ?_
  refine And.intro p2 ?_
  show X 14 (LSl i) ((Fn_X12_found M [vR 12 0, vI (xs (nI i + 1).toNatClampNeg)]).1.toList ++ [vI v]) (Fn_X12_found M [vR 12 0, vI (xs (nI i + 1).toNatClampNeg)]).2
  rw [e2]
  show X 14 (LSl i) [vI v, vI v] M'
  refine h (fun k => Nat.beq k 16) 3000 14 _ _ _ ?_
  refine br_t rfl ?_
  exact hk M' hI2
def P_L_c20 (L : Nat) (xs : Nat → Int32) : List StpT := [s_aload 1, s_aload 0, s_iload 3, s_ic (1), s_iadd, s_sca L xs, s_callV 11 1 Pre_X11_may Fn_X11_may, s_aload 2, s_aload 0, s_iload 3, s_ic (1), s_iadd, s_sca L xs, s_callV 12 1 Pre_X12_may Fn_X12_may, s_iceq 16]
def pc_L_c20 : Nat → Nat := fun i => [939, 940, 941, 942, 943, 944, 945, 948, 949, 950, 951, 952, 953, 954, 957, 960, 2157].getD i 0
def dl_L_c20 : List (Nat × Instr × Nat) := [(939, .aload_n 1, 1), (940, .aload_n 0, 1), (941, .iload_n 3, 1), (942, .iconst 1, 1), (943, .iadd, 1), (944, .iaload, 1), (945, .invokevirtual 104, 3), (948, .aload_n 2, 1), (949, .aload_n 0, 1), (950, .iload_n 3, 1), (951, .iconst 1, 1), (952, .iadd, 1), (953, .iaload, 1), (954, .invokevirtual 107, 3), (957, .if_icmp .eq 1200, 3)]
theorem dc_L_c20 : DEC code pc_L_c20 dl_L_c20 := DEC_of (by decide +kernel)
set_option maxRecDepth 8000 in
theorem cs_L_c20 {L : Nat} {xs : Nat → Int32} {X : KonT} {mm : MM} {i : Nat} (h : RUN (P_L_c20 L xs) RRl X) (hI : INV mm) (hi : i + 6 ≤ L) (hL : L ≤ 3072) (hk : ∀ M, INV M → X 16 (LSl i) [] M) : X 0 (LSl i) [] mm := by
  have b_1 : inb (nI i + 1) L = true := inb_law 1 hi hL (by decide)
  obtain ⟨p1, v, M, M', e1, p2, e2, hI2⟩ := LW_may hI (xs (nI i + 1).toNatClampNeg)
  have e2 : Fn_X12_may M [vR 12 0, vI (xs (nI i + 1).toNatClampNeg)] = (some (vI v), M') := e2
  refine h (fun k => Nat.beq k 7) 3000 0 _ _ _ ?_
  refine And.intro b_1 ?_
  refine And.intro p1 ?_
  show X 7 (LSl i) ((Fn_X11_may mm [vR 11 0, vI (xs (nI i + 1).toNatClampNeg)]).1.toList ++ []) (Fn_X11_may mm [vR 11 0, vI (xs (nI i + 1).toNatClampNeg)]).2
  rw [e1]
  show X 7 (LSl i) [vI v] M
  refine h (fun k => Nat.beq k 14) 3000 7 _ _ _ ?_
  refine And.intro b_1 ?_
  refine And.intro p2 ?_
  show X 14 (LSl i) ((Fn_X12_may M [vR 12 0, vI (xs (nI i + 1).toNatClampNeg)]).1.toList ++ [vI v]) (Fn_X12_may M [vR 12 0, vI (xs (nI i + 1).toNatClampNeg)]).2
  rw [e2]
  show X 14 (LSl i) [vI v, vI v] M'
  refine h (fun k => Nat.beq k 16) 3000 14 _ _ _ ?_
  refine br_t rfl ?_
  exact hk M' hI2
def P_L_c21 (L : Nat) (xs : Nat → Int32) : List StpT := [s_aload 1, s_callV 11 0 Pre_X11_week Fn_X11_week, s_aload 2, s_callV 12 0 Pre_X12_week Fn_X12_week, s_iceq 6]
def pc_L_c21 : Nat → Nat := fun i => [962, 963, 966, 967, 970, 973, 2157].getD i 0
def dl_L_c21 : List (Nat × Instr × Nat) := [(962, .aload_n 1, 1), (963, .invokevirtual 108, 3), (966, .aload_n 2, 1), (967, .invokevirtual 111, 3), (970, .if_icmp .eq 1187, 3)]
theorem dc_L_c21 : DEC code pc_L_c21 dl_L_c21 := DEC_of (by decide +kernel)
set_option maxRecDepth 8000 in
theorem cs_L_c21 {L : Nat} {xs : Nat → Int32} {X : KonT} {mm : MM} {i : Nat} (h : RUN (P_L_c21 L xs) RRl X) (hI : INV mm) (hi : i + 6 ≤ L) (hL : L ≤ 3072) (hk : ∀ M, INV M → X 6 (LSl i) [] M) : X 0 (LSl i) [] mm := by
  obtain ⟨p1, v, M, M', e1, p2, e2, hI2⟩ := LW_week hI 
  have e2 : Fn_X12_week M [vR 12 0] = (some (vI v), M') := e2
  refine h (fun k => Nat.beq k 2) 3000 0 _ _ _ ?_
  refine And.intro p1 ?_
  show X 2 (LSl i) ((Fn_X11_week mm [vR 11 0]).1.toList ++ []) (Fn_X11_week mm [vR 11 0]).2
  rw [e1]
  show X 2 (LSl i) [vI v] M
  refine h (fun k => Nat.beq k 4) 3000 2 _ _ _ ?_
  refine And.intro p2 ?_
  show X 4 (LSl i) ((Fn_X12_week M [vR 12 0]).1.toList ++ [vI v]) (Fn_X12_week M [vR 12 0]).2
  rw [e2]
  show X 4 (LSl i) [vI v, vI v] M'
  refine h (fun k => Nat.beq k 6) 3000 4 _ _ _ ?_
  refine br_t rfl ?_
  exact hk M' hI2
def P_L_c22 (L : Nat) (xs : Nat → Int32) : List StpT := [s_aload 1, s_aload 0, s_iload 3, s_ic (1), s_iadd, s_sca L xs, s_aload 0, s_iload 3, s_ic (2), s_iadd, s_sca L xs, s_callV 11 2 Pre_X11_heard Fn_X11_heard, s_aload 2, s_aload 0, s_iload 3, s_ic (1), s_iadd, s_sca L xs, s_aload 0, s_iload 3, s_ic (2), s_iadd, s_sca L xs, s_callV 12 2 Pre_X12_heard Fn_X12_heard, s_iceq 26]
def pc_L_c22 : Nat → Nat := fun i => [975, 976, 977, 978, 979, 980, 981, 982, 983, 984, 985, 986, 989, 990, 991, 992, 993, 994, 995, 996, 997, 998, 999, 1000, 1003, 1006, 2157].getD i 0
def dl_L_c22 : List (Nat × Instr × Nat) := [(975, .aload_n 1, 1), (976, .aload_n 0, 1), (977, .iload_n 3, 1), (978, .iconst 1, 1), (979, .iadd, 1), (980, .iaload, 1), (981, .aload_n 0, 1), (982, .iload_n 3, 1), (983, .iconst 2, 1), (984, .iadd, 1), (985, .iaload, 1), (986, .invokevirtual 112, 3), (989, .aload_n 2, 1), (990, .aload_n 0, 1), (991, .iload_n 3, 1), (992, .iconst 1, 1), (993, .iadd, 1), (994, .iaload, 1), (995, .aload_n 0, 1), (996, .iload_n 3, 1), (997, .iconst 2, 1), (998, .iadd, 1), (999, .iaload, 1), (1000, .invokevirtual 115, 3), (1003, .if_icmp .eq 1154, 3)]
theorem dc_L_c22 : DEC code pc_L_c22 dl_L_c22 := DEC_of (by decide +kernel)
set_option maxRecDepth 8000 in
theorem cs_L_c22 {L : Nat} {xs : Nat → Int32} {X : KonT} {mm : MM} {i : Nat} (h : RUN (P_L_c22 L xs) RRl X) (hI : INV mm) (hi : i + 6 ≤ L) (hL : L ≤ 3072) (hk : ∀ M, INV M → X 26 (LSl i) [] M) : X 0 (LSl i) [] mm := by
  have b_1 : inb (nI i + 1) L = true := inb_law 1 hi hL (by decide)
  have b_2 : inb (nI i + 2) L = true := inb_law 2 hi hL (by decide)
  obtain ⟨p1, v, M, M', e1, p2, e2, hI2⟩ := LW_heard hI (xs (nI i + 1).toNatClampNeg) (xs (nI i + 2).toNatClampNeg)
  have e2 : Fn_X12_heard M [vR 12 0, vI (xs (nI i + 1).toNatClampNeg), vI (xs (nI i + 2).toNatClampNeg)] = (some (vI v), M') := e2
  refine h (fun k => Nat.beq k 12) 3000 0 _ _ _ ?_
  refine And.intro b_1 ?_
  refine And.intro b_2 ?_
  refine And.intro p1 ?_
  show X 12 (LSl i) ((Fn_X11_heard mm [vR 11 0, vI (xs (nI i + 1).toNatClampNeg), vI (xs (nI i + 2).toNatClampNeg)]).1.toList ++ []) (Fn_X11_heard mm [vR 11 0, vI (xs (nI i + 1).toNatClampNeg), vI (xs (nI i + 2).toNatClampNeg)]).2
  rw [e1]
  show X 12 (LSl i) [vI v] M
  refine h (fun k => Nat.beq k 24) 3000 12 _ _ _ ?_
  refine And.intro b_1 ?_
  refine And.intro b_2 ?_
  refine And.intro p2 ?_
  show X 24 (LSl i) ((Fn_X12_heard M [vR 12 0, vI (xs (nI i + 1).toNatClampNeg), vI (xs (nI i + 2).toNatClampNeg)]).1.toList ++ [vI v]) (Fn_X12_heard M [vR 12 0, vI (xs (nI i + 1).toNatClampNeg), vI (xs (nI i + 2).toNatClampNeg)]).2
  rw [e2]
  show X 24 (LSl i) [vI v, vI v] M'
  refine h (fun k => Nat.beq k 26) 3000 24 _ _ _ ?_
  refine br_t rfl ?_
  exact hk M' hI2
def P_L_c23 (L : Nat) (xs : Nat → Int32) : List StpT := [s_aload 1, s_aload 0, s_iload 3, s_ic (1), s_iadd, s_sca L xs, s_aload 0, s_iload 3, s_ic (2), s_iadd, s_sca L xs, s_callV 11 2 Pre_X11_yes Fn_X11_yes, s_aload 2, s_aload 0, s_iload 3, s_ic (1), s_iadd, s_sca L xs, s_aload 0, s_iload 3, s_ic (2), s_iadd, s_sca L xs, s_callV 12 2 Pre_X12_yes Fn_X12_yes, s_iceq 26]
def pc_L_c23 : Nat → Nat := fun i => [1008, 1009, 1010, 1011, 1012, 1013, 1014, 1015, 1016, 1017, 1018, 1019, 1022, 1023, 1024, 1025, 1026, 1027, 1028, 1029, 1030, 1031, 1032, 1033, 1036, 1039, 2157].getD i 0
def dl_L_c23 : List (Nat × Instr × Nat) := [(1008, .aload_n 1, 1), (1009, .aload_n 0, 1), (1010, .iload_n 3, 1), (1011, .iconst 1, 1), (1012, .iadd, 1), (1013, .iaload, 1), (1014, .aload_n 0, 1), (1015, .iload_n 3, 1), (1016, .iconst 2, 1), (1017, .iadd, 1), (1018, .iaload, 1), (1019, .invokevirtual 116, 3), (1022, .aload_n 2, 1), (1023, .aload_n 0, 1), (1024, .iload_n 3, 1), (1025, .iconst 1, 1), (1026, .iadd, 1), (1027, .iaload, 1), (1028, .aload_n 0, 1), (1029, .iload_n 3, 1), (1030, .iconst 2, 1), (1031, .iadd, 1), (1032, .iaload, 1), (1033, .invokevirtual 119, 3), (1036, .if_icmp .eq 1121, 3)]
theorem dc_L_c23 : DEC code pc_L_c23 dl_L_c23 := DEC_of (by decide +kernel)
set_option maxRecDepth 8000 in
theorem cs_L_c23 {L : Nat} {xs : Nat → Int32} {X : KonT} {mm : MM} {i : Nat} (h : RUN (P_L_c23 L xs) RRl X) (hI : INV mm) (hi : i + 6 ≤ L) (hL : L ≤ 3072) (hk : ∀ M, INV M → X 26 (LSl i) [] M) : X 0 (LSl i) [] mm := by
  have b_1 : inb (nI i + 1) L = true := inb_law 1 hi hL (by decide)
  have b_2 : inb (nI i + 2) L = true := inb_law 2 hi hL (by decide)
  obtain ⟨p1, v, M, M', e1, p2, e2, hI2⟩ := LW_yes hI (xs (nI i + 1).toNatClampNeg) (xs (nI i + 2).toNatClampNeg)
  have e2 : Fn_X12_yes M [vR 12 0, vI (xs (nI i + 1).toNatClampNeg), vI (xs (nI i + 2).toNatClampNeg)] = (some (vI v), M') := e2
  refine h (fun k => Nat.beq k 12) 3000 0 _ _ _ ?_
  refine And.intro b_1 ?_
  refine And.intro b_2 ?_
  refine And.intro p1 ?_
  show X 12 (LSl i) ((Fn_X11_yes mm [vR 11 0, vI (xs (nI i + 1).toNatClampNeg), vI (xs (nI i + 2).toNatClampNeg)]).1.toList ++ []) (Fn_X11_yes mm [vR 11 0, vI (xs (nI i + 1).toNatClampNeg), vI (xs (nI i + 2).toNatClampNeg)]).2
  rw [e1]
  show X 12 (LSl i) [vI v] M
  refine h (fun k => Nat.beq k 24) 3000 12 _ _ _ ?_
  refine And.intro b_1 ?_
  refine And.intro b_2 ?_
  refine And.intro p2 ?_
  show X 24 (LSl i) ((Fn_X12_yes M [vR 12 0, vI (xs (nI i + 1).toNatClampNeg), vI (xs (nI i + 2).toNatClampNeg)]).1.toList ++ [vI v]) (Fn_X12_yes M [vR 12 0, vI (xs (nI i + 1).toNatClampNeg), vI (xs (nI i + 2).toNatClampNeg)]).2
  rw [e2]
  show X 24 (LSl i) [vI v, vI v] M'
  refine h (fun k => Nat.beq k 26) 3000 24 _ _ _ ?_
  refine br_t rfl ?_
  exact hk M' hI2
def P_L_c24 (L : Nat) (xs : Nat → Int32) : List StpT := [s_aload 1, s_aload 0, s_iload 3, s_ic (1), s_iadd, s_sca L xs, s_aload 0, s_iload 3, s_ic (2), s_iadd, s_sca L xs, s_callV 11 2 Pre_X11_lacks Fn_X11_lacks, s_aload 2, s_aload 0, s_iload 3, s_ic (1), s_iadd, s_sca L xs, s_aload 0, s_iload 3, s_ic (2), s_iadd, s_sca L xs, s_callV 12 2 Pre_X12_lacks Fn_X12_lacks, s_iceq 26]
def pc_L_c24 : Nat → Nat := fun i => [1041, 1042, 1043, 1044, 1045, 1046, 1047, 1048, 1049, 1050, 1051, 1052, 1055, 1056, 1057, 1058, 1059, 1060, 1061, 1062, 1063, 1064, 1065, 1066, 1069, 1072, 2157].getD i 0
def dl_L_c24 : List (Nat × Instr × Nat) := [(1041, .aload_n 1, 1), (1042, .aload_n 0, 1), (1043, .iload_n 3, 1), (1044, .iconst 1, 1), (1045, .iadd, 1), (1046, .iaload, 1), (1047, .aload_n 0, 1), (1048, .iload_n 3, 1), (1049, .iconst 2, 1), (1050, .iadd, 1), (1051, .iaload, 1), (1052, .invokevirtual 120, 3), (1055, .aload_n 2, 1), (1056, .aload_n 0, 1), (1057, .iload_n 3, 1), (1058, .iconst 1, 1), (1059, .iadd, 1), (1060, .iaload, 1), (1061, .aload_n 0, 1), (1062, .iload_n 3, 1), (1063, .iconst 2, 1), (1064, .iadd, 1), (1065, .iaload, 1), (1066, .invokevirtual 123, 3), (1069, .if_icmp .eq 1088, 3)]
theorem dc_L_c24 : DEC code pc_L_c24 dl_L_c24 := DEC_of (by decide +kernel)
set_option maxRecDepth 8000 in
theorem cs_L_c24 {L : Nat} {xs : Nat → Int32} {X : KonT} {mm : MM} {i : Nat} (h : RUN (P_L_c24 L xs) RRl X) (hI : INV mm) (hi : i + 6 ≤ L) (hL : L ≤ 3072) (hk : ∀ M, INV M → X 26 (LSl i) [] M) : X 0 (LSl i) [] mm := by
  have b_1 : inb (nI i + 1) L = true := inb_law 1 hi hL (by decide)
  have b_2 : inb (nI i + 2) L = true := inb_law 2 hi hL (by decide)
  obtain ⟨p1, v, M, M', e1, p2, e2, hI2⟩ := LW_lacks hI (xs (nI i + 1).toNatClampNeg) (xs (nI i + 2).toNatClampNeg)
  have e2 : Fn_X12_lacks M [vR 12 0, vI (xs (nI i + 1).toNatClampNeg), vI (xs (nI i + 2).toNatClampNeg)] = (some (vI v), M') := e2
  refine h (fun k => Nat.beq k 12) 3000 0 _ _ _ ?_
  refine And.intro b_1 ?_
  refine And.intro b_2 ?_
  refine And.intro p1 ?_
  show X 12 (LSl i) ((Fn_X11_lacks mm [vR 11 0, vI (xs (nI i + 1).toNatClampNeg), vI (xs (nI i + 2).toNatClampNeg)]).1.toList ++ []) (Fn_X11_lacks mm [vR 11 0, vI (xs (nI i + 1).toNatClampNeg), vI (xs (nI i + 2).toNatClampNeg)]).2
  rw [e1]
  show X 12 (LSl i) [vI v] M
  refine h (fun k => Nat.beq k 24) 3000 12 _ _ _ ?_
  refine And.intro b_1 ?_
  refine And.intro b_2 ?_
  refine And.intro p2 ?_
  show X 24 (LSl i) ((Fn_X12_lacks M [vR 12 0, vI (xs (nI i + 1).toNatClampNeg), vI (xs (nI i + 2).toNatClampNeg)]).1.toList ++ [vI v]) (Fn_X12_lacks M [vR 12 0, vI (xs (nI i + 1).toNatClampNeg), vI (xs (nI i + 2).toNatClampNeg)]).2
  rw [e2]
  show X 24 (LSl i) [vI v, vI v] M'
  refine h (fun k => Nat.beq k 26) 3000 24 _ _ _ ?_
  refine br_t rfl ?_
  exact hk M' hI2
def P_L_c25 (L : Nat) (xs : Nat → Int32) : List StpT := [s_aload 1, s_aload 0, s_iload 3, s_ic (1), s_iadd, s_sca L xs, s_aload 0, s_iload 3, s_ic (2), s_iadd, s_sca L xs, s_callV 11 2 Pre_X11_wed Fn_X11_wed, s_aload 2, s_aload 0, s_iload 3, s_ic (1), s_iadd, s_sca L xs, s_aload 0, s_iload 3, s_ic (2), s_iadd, s_sca L xs, s_callV 12 2 Pre_X12_wed Fn_X12_wed, s_iceq 26]
def pc_L_c25 : Nat → Nat := fun i => [1074, 1075, 1076, 1077, 1078, 1079, 1080, 1081, 1082, 1083, 1084, 1085, 1088, 1089, 1090, 1091, 1092, 1093, 1094, 1095, 1096, 1097, 1098, 1099, 1102, 1105, 2157].getD i 0
def dl_L_c25 : List (Nat × Instr × Nat) := [(1074, .aload_n 1, 1), (1075, .aload_n 0, 1), (1076, .iload_n 3, 1), (1077, .iconst 1, 1), (1078, .iadd, 1), (1079, .iaload, 1), (1080, .aload_n 0, 1), (1081, .iload_n 3, 1), (1082, .iconst 2, 1), (1083, .iadd, 1), (1084, .iaload, 1), (1085, .invokevirtual 124, 3), (1088, .aload_n 2, 1), (1089, .aload_n 0, 1), (1090, .iload_n 3, 1), (1091, .iconst 1, 1), (1092, .iadd, 1), (1093, .iaload, 1), (1094, .aload_n 0, 1), (1095, .iload_n 3, 1), (1096, .iconst 2, 1), (1097, .iadd, 1), (1098, .iaload, 1), (1099, .invokevirtual 127, 3), (1102, .if_icmp .eq 1055, 3)]
theorem dc_L_c25 : DEC code pc_L_c25 dl_L_c25 := DEC_of (by decide +kernel)
set_option maxRecDepth 8000 in
theorem cs_L_c25 {L : Nat} {xs : Nat → Int32} {X : KonT} {mm : MM} {i : Nat} (h : RUN (P_L_c25 L xs) RRl X) (hI : INV mm) (hi : i + 6 ≤ L) (hL : L ≤ 3072) (hk : ∀ M, INV M → X 26 (LSl i) [] M) : X 0 (LSl i) [] mm := by
  have b_1 : inb (nI i + 1) L = true := inb_law 1 hi hL (by decide)
  have b_2 : inb (nI i + 2) L = true := inb_law 2 hi hL (by decide)
  obtain ⟨p1, v, M, M', e1, p2, e2, hI2⟩ := LW_wed hI (xs (nI i + 1).toNatClampNeg) (xs (nI i + 2).toNatClampNeg)
  have e2 : Fn_X12_wed M [vR 12 0, vI (xs (nI i + 1).toNatClampNeg), vI (xs (nI i + 2).toNatClampNeg)] = (some (vI v), M') := e2
  refine h (fun k => Nat.beq k 12) 3000 0 _ _ _ ?_
  refine And.intro b_1 ?_
  refine And.intro b_2 ?_
  refine And.intro p1 ?_
  show X 12 (LSl i) ((Fn_X11_wed mm [vR 11 0, vI (xs (nI i + 1).toNatClampNeg), vI (xs (nI i + 2).toNatClampNeg)]).1.toList ++ []) (Fn_X11_wed mm [vR 11 0, vI (xs (nI i + 1).toNatClampNeg), vI (xs (nI i + 2).toNatClampNeg)]).2
  rw [e1]
  show X 12 (LSl i) [vI v] M
  refine h (fun k => Nat.beq k 24) 3000 12 _ _ _ ?_
  refine And.intro b_1 ?_
  refine And.intro b_2 ?_
  refine And.intro p2 ?_
  show X 24 (LSl i) ((Fn_X12_wed M [vR 12 0, vI (xs (nI i + 1).toNatClampNeg), vI (xs (nI i + 2).toNatClampNeg)]).1.toList ++ [vI v]) (Fn_X12_wed M [vR 12 0, vI (xs (nI i + 1).toNatClampNeg), vI (xs (nI i + 2).toNatClampNeg)]).2
  rw [e2]
  show X 24 (LSl i) [vI v, vI v] M'
  refine h (fun k => Nat.beq k 26) 3000 24 _ _ _ ?_
  refine br_t rfl ?_
  exact hk M' hI2
def P_L_c26 (L : Nat) (xs : Nat → Int32) : List StpT := [s_aload 1, s_aload 0, s_iload 3, s_ic (1), s_iadd, s_sca L xs, s_callV 11 1 Pre_X11_back Fn_X11_back, s_aload 2, s_aload 0, s_iload 3, s_ic (1), s_iadd, s_sca L xs, s_callV 12 1 Pre_X12_back Fn_X12_back, s_iceq 16]
def pc_L_c26 : Nat → Nat := fun i => [1107, 1108, 1109, 1110, 1111, 1112, 1113, 1116, 1117, 1118, 1119, 1120, 1121, 1122, 1125, 1128, 2157].getD i 0
def dl_L_c26 : List (Nat × Instr × Nat) := [(1107, .aload_n 1, 1), (1108, .aload_n 0, 1), (1109, .iload_n 3, 1), (1110, .iconst 1, 1), (1111, .iadd, 1), (1112, .iaload, 1), (1113, .invokevirtual 128, 3), (1116, .aload_n 2, 1), (1117, .aload_n 0, 1), (1118, .iload_n 3, 1), (1119, .iconst 1, 1), (1120, .iadd, 1), (1121, .iaload, 1), (1122, .invokevirtual 131, 3), (1125, .if_icmp .eq 1032, 3)]
theorem dc_L_c26 : DEC code pc_L_c26 dl_L_c26 := DEC_of (by decide +kernel)
set_option maxRecDepth 8000 in
theorem cs_L_c26 {L : Nat} {xs : Nat → Int32} {X : KonT} {mm : MM} {i : Nat} (h : RUN (P_L_c26 L xs) RRl X) (hI : INV mm) (hi : i + 6 ≤ L) (hL : L ≤ 3072) (hk : ∀ M, INV M → X 16 (LSl i) [] M) : X 0 (LSl i) [] mm := by
  have b_1 : inb (nI i + 1) L = true := inb_law 1 hi hL (by decide)
  obtain ⟨p1, v, M, M', e1, p2, e2, hI2⟩ := LW_back hI (xs (nI i + 1).toNatClampNeg)
  have e2 : Fn_X12_back M [vR 12 0, vI (xs (nI i + 1).toNatClampNeg)] = (some (vI v), M') := e2
  refine h (fun k => Nat.beq k 7) 3000 0 _ _ _ ?_
  refine And.intro b_1 ?_
  refine And.intro p1 ?_
  show X 7 (LSl i) ((Fn_X11_back mm [vR 11 0, vI (xs (nI i + 1).toNatClampNeg)]).1.toList ++ []) (Fn_X11_back mm [vR 11 0, vI (xs (nI i + 1).toNatClampNeg)]).2
  rw [e1]
  show X 7 (LSl i) [vI v] M
  refine h (fun k => Nat.beq k 14) 3000 7 _ _ _ ?_
  refine And.intro b_1 ?_
  refine And.intro p2 ?_
  show X 14 (LSl i) ((Fn_X12_back M [vR 12 0, vI (xs (nI i + 1).toNatClampNeg)]).1.toList ++ [vI v]) (Fn_X12_back M [vR 12 0, vI (xs (nI i + 1).toNatClampNeg)]).2
  rw [e2]
  show X 14 (LSl i) [vI v, vI v] M'
  refine h (fun k => Nat.beq k 16) 3000 14 _ _ _ ?_
  refine br_t rfl ?_
  exact hk M' hI2
def P_L_c27 (L : Nat) (xs : Nat → Int32) : List StpT := [s_aload 1, s_callV 11 0 Pre_X11_toFair Fn_X11_toFair, s_aload 2, s_callV 12 0 Pre_X12_toFair Fn_X12_toFair, s_iceq 6]
def pc_L_c27 : Nat → Nat := fun i => [1130, 1131, 1134, 1135, 1138, 1141, 2157].getD i 0
def dl_L_c27 : List (Nat × Instr × Nat) := [(1130, .aload_n 1, 1), (1131, .invokevirtual 132, 3), (1134, .aload_n 2, 1), (1135, .invokevirtual 135, 3), (1138, .if_icmp .eq 1019, 3)]
theorem dc_L_c27 : DEC code pc_L_c27 dl_L_c27 := DEC_of (by decide +kernel)
set_option maxRecDepth 8000 in
theorem cs_L_c27 {L : Nat} {xs : Nat → Int32} {X : KonT} {mm : MM} {i : Nat} (h : RUN (P_L_c27 L xs) RRl X) (hI : INV mm) (hi : i + 6 ≤ L) (hL : L ≤ 3072) (hk : ∀ M, INV M → X 6 (LSl i) [] M) : X 0 (LSl i) [] mm := by
  obtain ⟨p1, v, M, M', e1, p2, e2, hI2⟩ := LW_toFair hI 
  have e2 : Fn_X12_toFair M [vR 12 0] = (some (vI v), M') := e2
  refine h (fun k => Nat.beq k 2) 3000 0 _ _ _ ?_
  refine And.intro p1 ?_
  show X 2 (LSl i) ((Fn_X11_toFair mm [vR 11 0]).1.toList ++ []) (Fn_X11_toFair mm [vR 11 0]).2
  rw [e1]
  show X 2 (LSl i) [vI v] M
  refine h (fun k => Nat.beq k 4) 3000 2 _ _ _ ?_
  refine And.intro p2 ?_
  show X 4 (LSl i) ((Fn_X12_toFair M [vR 12 0]).1.toList ++ [vI v]) (Fn_X12_toFair M [vR 12 0]).2
  rw [e2]
  show X 4 (LSl i) [vI v, vI v] M'
  refine h (fun k => Nat.beq k 6) 3000 4 _ _ _ ?_
  refine br_t rfl ?_
  exact hk M' hI2
def P_L_c28 (L : Nat) (xs : Nat → Int32) : List StpT := [s_aload 1, s_aload 0, s_iload 3, s_ic (1), s_iadd, s_sca L xs, s_callV 11 1 Pre_X11_bare Fn_X11_bare, s_aload 2, s_aload 0, s_iload 3, s_ic (1), s_iadd, s_sca L xs, s_callV 12 1 Pre_X12_bare Fn_X12_bare, s_iceq 16]
def pc_L_c28 : Nat → Nat := fun i => [1143, 1144, 1145, 1146, 1147, 1148, 1149, 1152, 1153, 1154, 1155, 1156, 1157, 1158, 1161, 1164, 2157].getD i 0
def dl_L_c28 : List (Nat × Instr × Nat) := [(1143, .aload_n 1, 1), (1144, .aload_n 0, 1), (1145, .iload_n 3, 1), (1146, .iconst 1, 1), (1147, .iadd, 1), (1148, .iaload, 1), (1149, .invokevirtual 136, 3), (1152, .aload_n 2, 1), (1153, .aload_n 0, 1), (1154, .iload_n 3, 1), (1155, .iconst 1, 1), (1156, .iadd, 1), (1157, .iaload, 1), (1158, .invokevirtual 139, 3), (1161, .if_icmp .eq 996, 3)]
theorem dc_L_c28 : DEC code pc_L_c28 dl_L_c28 := DEC_of (by decide +kernel)
set_option maxRecDepth 8000 in
theorem cs_L_c28 {L : Nat} {xs : Nat → Int32} {X : KonT} {mm : MM} {i : Nat} (h : RUN (P_L_c28 L xs) RRl X) (hI : INV mm) (hi : i + 6 ≤ L) (hL : L ≤ 3072) (hk : ∀ M, INV M → X 16 (LSl i) [] M) : X 0 (LSl i) [] mm := by
  have b_1 : inb (nI i + 1) L = true := inb_law 1 hi hL (by decide)
  obtain ⟨p1, v, M, M', e1, p2, e2, hI2⟩ := LW_bare hI (xs (nI i + 1).toNatClampNeg)
  have e2 : Fn_X12_bare M [vR 12 0, vI (xs (nI i + 1).toNatClampNeg)] = (some (vI v), M') := e2
  refine h (fun k => Nat.beq k 7) 3000 0 _ _ _ ?_
  refine And.intro b_1 ?_
  refine And.intro p1 ?_
  show X 7 (LSl i) ((Fn_X11_bare mm [vR 11 0, vI (xs (nI i + 1).toNatClampNeg)]).1.toList ++ []) (Fn_X11_bare mm [vR 11 0, vI (xs (nI i + 1).toNatClampNeg)]).2
  rw [e1]
  show X 7 (LSl i) [vI v] M
  refine h (fun k => Nat.beq k 14) 3000 7 _ _ _ ?_
  refine And.intro b_1 ?_
  refine And.intro p2 ?_
  show X 14 (LSl i) ((Fn_X12_bare M [vR 12 0, vI (xs (nI i + 1).toNatClampNeg)]).1.toList ++ [vI v]) (Fn_X12_bare M [vR 12 0, vI (xs (nI i + 1).toNatClampNeg)]).2
  rw [e2]
  show X 14 (LSl i) [vI v, vI v] M'
  refine h (fun k => Nat.beq k 16) 3000 14 _ _ _ ?_
  refine br_t rfl ?_
  exact hk M' hI2
def P_L_c29 (L : Nat) (xs : Nat → Int32) : List StpT := [s_aload 1, s_aload 0, s_iload 3, s_ic (1), s_iadd, s_sca L xs, s_callV 11 1 Pre_X11_wouldHave Fn_X11_wouldHave, s_aload 2, s_aload 0, s_iload 3, s_ic (1), s_iadd, s_sca L xs, s_callV 12 1 Pre_X12_wouldHave Fn_X12_wouldHave, s_iceq 16]
def pc_L_c29 : Nat → Nat := fun i => [1166, 1167, 1168, 1169, 1170, 1171, 1172, 1175, 1176, 1177, 1178, 1179, 1180, 1181, 1184, 1187, 2157].getD i 0
def dl_L_c29 : List (Nat × Instr × Nat) := [(1166, .aload_n 1, 1), (1167, .aload_n 0, 1), (1168, .iload_n 3, 1), (1169, .iconst 1, 1), (1170, .iadd, 1), (1171, .iaload, 1), (1172, .invokevirtual 140, 3), (1175, .aload_n 2, 1), (1176, .aload_n 0, 1), (1177, .iload_n 3, 1), (1178, .iconst 1, 1), (1179, .iadd, 1), (1180, .iaload, 1), (1181, .invokevirtual 143, 3), (1184, .if_icmp .eq 973, 3)]
theorem dc_L_c29 : DEC code pc_L_c29 dl_L_c29 := DEC_of (by decide +kernel)
set_option maxRecDepth 8000 in
theorem cs_L_c29 {L : Nat} {xs : Nat → Int32} {X : KonT} {mm : MM} {i : Nat} (h : RUN (P_L_c29 L xs) RRl X) (hI : INV mm) (hi : i + 6 ≤ L) (hL : L ≤ 3072) (hk : ∀ M, INV M → X 16 (LSl i) [] M) : X 0 (LSl i) [] mm := by
  have b_1 : inb (nI i + 1) L = true := inb_law 1 hi hL (by decide)
  obtain ⟨p1, v, M, M', e1, p2, e2, hI2⟩ := LW_wouldHave hI (xs (nI i + 1).toNatClampNeg)
  have e2 : Fn_X12_wouldHave M [vR 12 0, vI (xs (nI i + 1).toNatClampNeg)] = (some (vI v), M') := e2
  refine h (fun k => Nat.beq k 7) 3000 0 _ _ _ ?_
  refine And.intro b_1 ?_
  refine And.intro p1 ?_
  show X 7 (LSl i) ((Fn_X11_wouldHave mm [vR 11 0, vI (xs (nI i + 1).toNatClampNeg)]).1.toList ++ []) (Fn_X11_wouldHave mm [vR 11 0, vI (xs (nI i + 1).toNatClampNeg)]).2
  rw [e1]
  show X 7 (LSl i) [vI v] M
  refine h (fun k => Nat.beq k 14) 3000 7 _ _ _ ?_
  refine And.intro b_1 ?_
  refine And.intro p2 ?_
  show X 14 (LSl i) ((Fn_X12_wouldHave M [vR 12 0, vI (xs (nI i + 1).toNatClampNeg)]).1.toList ++ [vI v]) (Fn_X12_wouldHave M [vR 12 0, vI (xs (nI i + 1).toNatClampNeg)]).2
  rw [e2]
  show X 14 (LSl i) [vI v, vI v] M'
  refine h (fun k => Nat.beq k 16) 3000 14 _ _ _ ?_
  refine br_t rfl ?_
  exact hk M' hI2
def P_L_c30 (L : Nat) (xs : Nat → Int32) : List StpT := [s_aload 1, s_aload 0, s_iload 3, s_ic (1), s_iadd, s_sca L xs, s_callV 11 1 Pre_X11_proud Fn_X11_proud, s_aload 2, s_aload 0, s_iload 3, s_ic (1), s_iadd, s_sca L xs, s_callV 12 1 Pre_X12_proud Fn_X12_proud, s_iceq 16]
def pc_L_c30 : Nat → Nat := fun i => [1189, 1190, 1191, 1192, 1193, 1194, 1195, 1198, 1199, 1200, 1201, 1202, 1203, 1204, 1207, 1210, 2157].getD i 0
def dl_L_c30 : List (Nat × Instr × Nat) := [(1189, .aload_n 1, 1), (1190, .aload_n 0, 1), (1191, .iload_n 3, 1), (1192, .iconst 1, 1), (1193, .iadd, 1), (1194, .iaload, 1), (1195, .invokevirtual 144, 3), (1198, .aload_n 2, 1), (1199, .aload_n 0, 1), (1200, .iload_n 3, 1), (1201, .iconst 1, 1), (1202, .iadd, 1), (1203, .iaload, 1), (1204, .invokevirtual 147, 3), (1207, .if_icmp .eq 950, 3)]
theorem dc_L_c30 : DEC code pc_L_c30 dl_L_c30 := DEC_of (by decide +kernel)
set_option maxRecDepth 8000 in
theorem cs_L_c30 {L : Nat} {xs : Nat → Int32} {X : KonT} {mm : MM} {i : Nat} (h : RUN (P_L_c30 L xs) RRl X) (hI : INV mm) (hi : i + 6 ≤ L) (hL : L ≤ 3072) (hk : ∀ M, INV M → X 16 (LSl i) [] M) : X 0 (LSl i) [] mm := by
  have b_1 : inb (nI i + 1) L = true := inb_law 1 hi hL (by decide)
  obtain ⟨p1, v, M, M', e1, p2, e2, hI2⟩ := LW_proud hI (xs (nI i + 1).toNatClampNeg)
  have e2 : Fn_X12_proud M [vR 12 0, vI (xs (nI i + 1).toNatClampNeg)] = (some (vI v), M') := e2
  refine h (fun k => Nat.beq k 7) 3000 0 _ _ _ ?_
  refine And.intro b_1 ?_
  refine And.intro p1 ?_
  show X 7 (LSl i) ((Fn_X11_proud mm [vR 11 0, vI (xs (nI i + 1).toNatClampNeg)]).1.toList ++ []) (Fn_X11_proud mm [vR 11 0, vI (xs (nI i + 1).toNatClampNeg)]).2
  rw [e1]
  show X 7 (LSl i) [vI v] M
  refine h (fun k => Nat.beq k 14) 3000 7 _ _ _ ?_
  refine And.intro b_1 ?_
  refine And.intro p2 ?_
  show X 14 (LSl i) ((Fn_X12_proud M [vR 12 0, vI (xs (nI i + 1).toNatClampNeg)]).1.toList ++ [vI v]) (Fn_X12_proud M [vR 12 0, vI (xs (nI i + 1).toNatClampNeg)]).2
  rw [e2]
  show X 14 (LSl i) [vI v, vI v] M'
  refine h (fun k => Nat.beq k 16) 3000 14 _ _ _ ?_
  refine br_t rfl ?_
  exact hk M' hI2
def P_L_c31 (L : Nat) (xs : Nat → Int32) : List StpT := [s_aload 1, s_aload 0, s_iload 3, s_ic (1), s_iadd, s_sca L xs, s_aload 0, s_iload 3, s_ic (2), s_iadd, s_sca L xs, s_callV 11 2 Pre_X11_dearest Fn_X11_dearest, s_aload 2, s_aload 0, s_iload 3, s_ic (1), s_iadd, s_sca L xs, s_aload 0, s_iload 3, s_ic (2), s_iadd, s_sca L xs, s_callV 12 2 Pre_X12_dearest Fn_X12_dearest, s_iceq 26]
def pc_L_c31 : Nat → Nat := fun i => [1212, 1213, 1214, 1215, 1216, 1217, 1218, 1219, 1220, 1221, 1222, 1223, 1226, 1227, 1228, 1229, 1230, 1231, 1232, 1233, 1234, 1235, 1236, 1237, 1240, 1243, 2157].getD i 0
def dl_L_c31 : List (Nat × Instr × Nat) := [(1212, .aload_n 1, 1), (1213, .aload_n 0, 1), (1214, .iload_n 3, 1), (1215, .iconst 1, 1), (1216, .iadd, 1), (1217, .iaload, 1), (1218, .aload_n 0, 1), (1219, .iload_n 3, 1), (1220, .iconst 2, 1), (1221, .iadd, 1), (1222, .iaload, 1), (1223, .invokevirtual 148, 3), (1226, .aload_n 2, 1), (1227, .aload_n 0, 1), (1228, .iload_n 3, 1), (1229, .iconst 1, 1), (1230, .iadd, 1), (1231, .iaload, 1), (1232, .aload_n 0, 1), (1233, .iload_n 3, 1), (1234, .iconst 2, 1), (1235, .iadd, 1), (1236, .iaload, 1), (1237, .invokevirtual 151, 3), (1240, .if_icmp .eq 917, 3)]
theorem dc_L_c31 : DEC code pc_L_c31 dl_L_c31 := DEC_of (by decide +kernel)
set_option maxRecDepth 8000 in
theorem cs_L_c31 {L : Nat} {xs : Nat → Int32} {X : KonT} {mm : MM} {i : Nat} (h : RUN (P_L_c31 L xs) RRl X) (hI : INV mm) (hi : i + 6 ≤ L) (hL : L ≤ 3072) (hk : ∀ M, INV M → X 26 (LSl i) [] M) : X 0 (LSl i) [] mm := by
  have b_1 : inb (nI i + 1) L = true := inb_law 1 hi hL (by decide)
  have b_2 : inb (nI i + 2) L = true := inb_law 2 hi hL (by decide)
  obtain ⟨p1, v, M, M', e1, p2, e2, hI2⟩ := LW_dearest hI (xs (nI i + 1).toNatClampNeg) (xs (nI i + 2).toNatClampNeg)
  have e2 : Fn_X12_dearest M [vR 12 0, vI (xs (nI i + 1).toNatClampNeg), vI (xs (nI i + 2).toNatClampNeg)] = (some (vI v), M') := e2
  refine h (fun k => Nat.beq k 12) 3000 0 _ _ _ ?_
  refine And.intro b_1 ?_
  refine And.intro b_2 ?_
  refine And.intro p1 ?_
  show X 12 (LSl i) ((Fn_X11_dearest mm [vR 11 0, vI (xs (nI i + 1).toNatClampNeg), vI (xs (nI i + 2).toNatClampNeg)]).1.toList ++ []) (Fn_X11_dearest mm [vR 11 0, vI (xs (nI i + 1).toNatClampNeg), vI (xs (nI i + 2).toNatClampNeg)]).2
  rw [e1]
  show X 12 (LSl i) [vI v] M
  refine h (fun k => Nat.beq k 24) 3000 12 _ _ _ ?_
  refine And.intro b_1 ?_
  refine And.intro b_2 ?_
  refine And.intro p2 ?_
  show X 24 (LSl i) ((Fn_X12_dearest M [vR 12 0, vI (xs (nI i + 1).toNatClampNeg), vI (xs (nI i + 2).toNatClampNeg)]).1.toList ++ [vI v]) (Fn_X12_dearest M [vR 12 0, vI (xs (nI i + 1).toNatClampNeg), vI (xs (nI i + 2).toNatClampNeg)]).2
  rw [e2]
  show X 24 (LSl i) [vI v, vI v] M'
  refine h (fun k => Nat.beq k 26) 3000 24 _ _ _ ?_
  refine br_t rfl ?_
  exact hk M' hI2
def P_L_c32 (L : Nat) (xs : Nat → Int32) : List StpT := [s_aload 1, s_aload 0, s_iload 3, s_ic (1), s_iadd, s_sca L xs, s_aload 0, s_iload 3, s_ic (2), s_iadd, s_sca L xs, s_callV 11 2 Pre_X11_share Fn_X11_share, s_aload 2, s_aload 0, s_iload 3, s_ic (1), s_iadd, s_sca L xs, s_aload 0, s_iload 3, s_ic (2), s_iadd, s_sca L xs, s_callV 12 2 Pre_X12_share Fn_X12_share, s_iceq 26]
def pc_L_c32 : Nat → Nat := fun i => [1245, 1246, 1247, 1248, 1249, 1250, 1251, 1252, 1253, 1254, 1255, 1256, 1259, 1260, 1261, 1262, 1263, 1264, 1265, 1266, 1267, 1268, 1269, 1270, 1273, 1276, 2157].getD i 0
def dl_L_c32 : List (Nat × Instr × Nat) := [(1245, .aload_n 1, 1), (1246, .aload_n 0, 1), (1247, .iload_n 3, 1), (1248, .iconst 1, 1), (1249, .iadd, 1), (1250, .iaload, 1), (1251, .aload_n 0, 1), (1252, .iload_n 3, 1), (1253, .iconst 2, 1), (1254, .iadd, 1), (1255, .iaload, 1), (1256, .invokevirtual 152, 3), (1259, .aload_n 2, 1), (1260, .aload_n 0, 1), (1261, .iload_n 3, 1), (1262, .iconst 1, 1), (1263, .iadd, 1), (1264, .iaload, 1), (1265, .aload_n 0, 1), (1266, .iload_n 3, 1), (1267, .iconst 2, 1), (1268, .iadd, 1), (1269, .iaload, 1), (1270, .invokevirtual 156, 3), (1273, .if_icmp .eq 884, 3)]
theorem dc_L_c32 : DEC code pc_L_c32 dl_L_c32 := DEC_of (by decide +kernel)
set_option maxRecDepth 8000 in
theorem cs_L_c32 {L : Nat} {xs : Nat → Int32} {X : KonT} {mm : MM} {i : Nat} (h : RUN (P_L_c32 L xs) RRl X) (hI : INV mm) (hi : i + 6 ≤ L) (hL : L ≤ 3072) (hk : ∀ M, INV M → X 26 (LSl i) [] M) : X 0 (LSl i) [] mm := by
  have b_1 : inb (nI i + 1) L = true := inb_law 1 hi hL (by decide)
  have b_2 : inb (nI i + 2) L = true := inb_law 2 hi hL (by decide)
  obtain ⟨p1, v, M, M', e1, p2, e2, hI2⟩ := LW_share hI (xs (nI i + 1).toNatClampNeg) (xs (nI i + 2).toNatClampNeg)
  have e2 : Fn_X12_share M [vR 12 0, vI (xs (nI i + 1).toNatClampNeg), vI (xs (nI i + 2).toNatClampNeg)] = (some (vI v), M') := e2
  refine h (fun k => Nat.beq k 12) 3000 0 _ _ _ ?_
  refine And.intro b_1 ?_
  refine And.intro b_2 ?_
  refine And.intro p1 ?_
  show X 12 (LSl i) ((Fn_X11_share mm [vR 11 0, vI (xs (nI i + 1).toNatClampNeg), vI (xs (nI i + 2).toNatClampNeg)]).1.toList ++ []) (Fn_X11_share mm [vR 11 0, vI (xs (nI i + 1).toNatClampNeg), vI (xs (nI i + 2).toNatClampNeg)]).2
  rw [e1]
  show X 12 (LSl i) [vI v] M
  refine h (fun k => Nat.beq k 24) 3000 12 _ _ _ ?_
  refine And.intro b_1 ?_
  refine And.intro b_2 ?_
  refine And.intro p2 ?_
  show X 24 (LSl i) ((Fn_X12_share M [vR 12 0, vI (xs (nI i + 1).toNatClampNeg), vI (xs (nI i + 2).toNatClampNeg)]).1.toList ++ [vI v]) (Fn_X12_share M [vR 12 0, vI (xs (nI i + 1).toNatClampNeg), vI (xs (nI i + 2).toNatClampNeg)]).2
  rw [e2]
  show X 24 (LSl i) [vI v, vI v] M'
  refine h (fun k => Nat.beq k 26) 3000 24 _ _ _ ?_
  refine br_t rfl ?_
  exact hk M' hI2
def P_L_c33 (L : Nat) (xs : Nat → Int32) : List StpT := [s_aload 1, s_aload 0, s_iload 3, s_ic (1), s_iadd, s_sca L xs, s_aload 0, s_iload 3, s_ic (2), s_iadd, s_sca L xs, s_aload 0, s_iload 3, s_ic (3), s_iadd, s_sca L xs, s_callV 11 3 Pre_X11_like Fn_X11_like, s_aload 2, s_aload 0, s_iload 3, s_ic (1), s_iadd, s_sca L xs, s_aload 0, s_iload 3, s_ic (2), s_iadd, s_sca L xs, s_aload 0, s_iload 3, s_ic (3), s_iadd, s_sca L xs, s_callV 12 3 Pre_X12_like Fn_X12_like, s_iceq 36]
def pc_L_c33 : Nat → Nat := fun i => [1278, 1279, 1280, 1281, 1282, 1283, 1284, 1285, 1286, 1287, 1288, 1289, 1290, 1291, 1292, 1293, 1294, 1297, 1298, 1299, 1300, 1301, 1302, 1303, 1304, 1305, 1306, 1307, 1308, 1309, 1310, 1311, 1312, 1313, 1316, 1319, 2157].getD i 0
def dl_L_c33 : List (Nat × Instr × Nat) := [(1278, .aload_n 1, 1), (1279, .aload_n 0, 1), (1280, .iload_n 3, 1), (1281, .iconst 1, 1), (1282, .iadd, 1), (1283, .iaload, 1), (1284, .aload_n 0, 1), (1285, .iload_n 3, 1), (1286, .iconst 2, 1), (1287, .iadd, 1), (1288, .iaload, 1), (1289, .aload_n 0, 1), (1290, .iload_n 3, 1), (1291, .iconst 3, 1), (1292, .iadd, 1), (1293, .iaload, 1), (1294, .invokevirtual 157, 3), (1297, .aload_n 2, 1), (1298, .aload_n 0, 1), (1299, .iload_n 3, 1), (1300, .iconst 1, 1), (1301, .iadd, 1), (1302, .iaload, 1), (1303, .aload_n 0, 1), (1304, .iload_n 3, 1), (1305, .iconst 2, 1), (1306, .iadd, 1), (1307, .iaload, 1), (1308, .aload_n 0, 1), (1309, .iload_n 3, 1), (1310, .iconst 3, 1), (1311, .iadd, 1), (1312, .iaload, 1), (1313, .invokevirtual 160, 3), (1316, .if_icmp .eq 841, 3)]
theorem dc_L_c33 : DEC code pc_L_c33 dl_L_c33 := DEC_of (by decide +kernel)
set_option maxRecDepth 8000 in
theorem cs_L_c33 {L : Nat} {xs : Nat → Int32} {X : KonT} {mm : MM} {i : Nat} (h : RUN (P_L_c33 L xs) RRl X) (hI : INV mm) (hi : i + 6 ≤ L) (hL : L ≤ 3072) (hk : ∀ M, INV M → X 36 (LSl i) [] M) : X 0 (LSl i) [] mm := by
  have b_1 : inb (nI i + 1) L = true := inb_law 1 hi hL (by decide)
  have b_2 : inb (nI i + 2) L = true := inb_law 2 hi hL (by decide)
  have b_3 : inb (nI i + 3) L = true := inb_law 3 hi hL (by decide)
  obtain ⟨p1, v, M, M', e1, p2, e2, hI2⟩ := LW_like hI (xs (nI i + 1).toNatClampNeg) (xs (nI i + 2).toNatClampNeg) (xs (nI i + 3).toNatClampNeg)
  have e2 : Fn_X12_like M [vR 12 0, vI (xs (nI i + 1).toNatClampNeg), vI (xs (nI i + 2).toNatClampNeg), vI (xs (nI i + 3).toNatClampNeg)] = (some (vI v), M') := e2
  refine h (fun k => Nat.beq k 17) 3000 0 _ _ _ ?_
  refine And.intro b_1 ?_
  refine And.intro b_2 ?_
  refine And.intro b_3 ?_
  refine And.intro p1 ?_
  show X 17 (LSl i) ((Fn_X11_like mm [vR 11 0, vI (xs (nI i + 1).toNatClampNeg), vI (xs (nI i + 2).toNatClampNeg), vI (xs (nI i + 3).toNatClampNeg)]).1.toList ++ []) (Fn_X11_like mm [vR 11 0, vI (xs (nI i + 1).toNatClampNeg), vI (xs (nI i + 2).toNatClampNeg), vI (xs (nI i + 3).toNatClampNeg)]).2
  rw [e1]
  show X 17 (LSl i) [vI v] M
  refine h (fun k => Nat.beq k 34) 3000 17 _ _ _ ?_
  refine And.intro b_1 ?_
  refine And.intro b_2 ?_
  refine And.intro b_3 ?_
  refine And.intro p2 ?_
  show X 34 (LSl i) ((Fn_X12_like M [vR 12 0, vI (xs (nI i + 1).toNatClampNeg), vI (xs (nI i + 2).toNatClampNeg), vI (xs (nI i + 3).toNatClampNeg)]).1.toList ++ [vI v]) (Fn_X12_like M [vR 12 0, vI (xs (nI i + 1).toNatClampNeg), vI (xs (nI i + 2).toNatClampNeg), vI (xs (nI i + 3).toNatClampNeg)]).2
  rw [e2]
  show X 34 (LSl i) [vI v, vI v] M'
  refine h (fun k => Nat.beq k 36) 3000 34 _ _ _ ?_
  refine br_t rfl ?_
  exact hk M' hI2
def P_L_c34 (L : Nat) (xs : Nat → Int32) : List StpT := [s_aload 1, s_aload 0, s_iload 3, s_ic (1), s_iadd, s_sca L xs, s_aload 0, s_iload 3, s_ic (2), s_iadd, s_sca L xs, s_callV 11 2 Pre_X11_bar Fn_X11_bar, s_aload 2, s_aload 0, s_iload 3, s_ic (1), s_iadd, s_sca L xs, s_aload 0, s_iload 3, s_ic (2), s_iadd, s_sca L xs, s_callV 12 2 Pre_X12_bar Fn_X12_bar, s_iceq 26]
def pc_L_c34 : Nat → Nat := fun i => [1321, 1322, 1323, 1324, 1325, 1326, 1327, 1328, 1329, 1330, 1331, 1332, 1335, 1336, 1337, 1338, 1339, 1340, 1341, 1342, 1343, 1344, 1345, 1346, 1349, 1352, 2157].getD i 0
def dl_L_c34 : List (Nat × Instr × Nat) := [(1321, .aload_n 1, 1), (1322, .aload_n 0, 1), (1323, .iload_n 3, 1), (1324, .iconst 1, 1), (1325, .iadd, 1), (1326, .iaload, 1), (1327, .aload_n 0, 1), (1328, .iload_n 3, 1), (1329, .iconst 2, 1), (1330, .iadd, 1), (1331, .iaload, 1), (1332, .invokevirtual 161, 3), (1335, .aload_n 2, 1), (1336, .aload_n 0, 1), (1337, .iload_n 3, 1), (1338, .iconst 1, 1), (1339, .iadd, 1), (1340, .iaload, 1), (1341, .aload_n 0, 1), (1342, .iload_n 3, 1), (1343, .iconst 2, 1), (1344, .iadd, 1), (1345, .iaload, 1), (1346, .invokevirtual 164, 3), (1349, .if_icmp .eq 808, 3)]
theorem dc_L_c34 : DEC code pc_L_c34 dl_L_c34 := DEC_of (by decide +kernel)
set_option maxRecDepth 8000 in
theorem cs_L_c34 {L : Nat} {xs : Nat → Int32} {X : KonT} {mm : MM} {i : Nat} (h : RUN (P_L_c34 L xs) RRl X) (hI : INV mm) (hi : i + 6 ≤ L) (hL : L ≤ 3072) (hk : ∀ M, INV M → X 26 (LSl i) [] M) : X 0 (LSl i) [] mm := by
  have b_1 : inb (nI i + 1) L = true := inb_law 1 hi hL (by decide)
  have b_2 : inb (nI i + 2) L = true := inb_law 2 hi hL (by decide)
  obtain ⟨p1, v, M, M', e1, p2, e2, hI2⟩ := LW_bar hI (xs (nI i + 1).toNatClampNeg) (xs (nI i + 2).toNatClampNeg)
  have e2 : Fn_X12_bar M [vR 12 0, vI (xs (nI i + 1).toNatClampNeg), vI (xs (nI i + 2).toNatClampNeg)] = (some (vI v), M') := e2
  refine h (fun k => Nat.beq k 12) 3000 0 _ _ _ ?_
  refine And.intro b_1 ?_
  refine And.intro b_2 ?_
  refine And.intro p1 ?_
  show X 12 (LSl i) ((Fn_X11_bar mm [vR 11 0, vI (xs (nI i + 1).toNatClampNeg), vI (xs (nI i + 2).toNatClampNeg)]).1.toList ++ []) (Fn_X11_bar mm [vR 11 0, vI (xs (nI i + 1).toNatClampNeg), vI (xs (nI i + 2).toNatClampNeg)]).2
  rw [e1]
  show X 12 (LSl i) [vI v] M
  refine h (fun k => Nat.beq k 24) 3000 12 _ _ _ ?_
  refine And.intro b_1 ?_
  refine And.intro b_2 ?_
  refine And.intro p2 ?_
  show X 24 (LSl i) ((Fn_X12_bar M [vR 12 0, vI (xs (nI i + 1).toNatClampNeg), vI (xs (nI i + 2).toNatClampNeg)]).1.toList ++ [vI v]) (Fn_X12_bar M [vR 12 0, vI (xs (nI i + 1).toNatClampNeg), vI (xs (nI i + 2).toNatClampNeg)]).2
  rw [e2]
  show X 24 (LSl i) [vI v, vI v] M'
  refine h (fun k => Nat.beq k 26) 3000 24 _ _ _ ?_
  refine br_t rfl ?_
  exact hk M' hI2
def P_L_c35 (L : Nat) (xs : Nat → Int32) : List StpT := [s_aload 1, s_aload 0, s_iload 3, s_ic (1), s_iadd, s_sca L xs, s_aload 0, s_iload 3, s_ic (2), s_iadd, s_sca L xs, s_aload 0, s_iload 3, s_ic (3), s_iadd, s_sca L xs, s_callV 11 3 Pre_X11_least Fn_X11_least, s_aload 2, s_aload 0, s_iload 3, s_ic (1), s_iadd, s_sca L xs, s_aload 0, s_iload 3, s_ic (2), s_iadd, s_sca L xs, s_aload 0, s_iload 3, s_ic (3), s_iadd, s_sca L xs, s_callV 12 3 Pre_X12_least Fn_X12_least, s_iceq 36]
def pc_L_c35 : Nat → Nat := fun i => [1354, 1355, 1356, 1357, 1358, 1359, 1360, 1361, 1362, 1363, 1364, 1365, 1366, 1367, 1368, 1369, 1370, 1373, 1374, 1375, 1376, 1377, 1378, 1379, 1380, 1381, 1382, 1383, 1384, 1385, 1386, 1387, 1388, 1389, 1392, 1395, 2157].getD i 0
def dl_L_c35 : List (Nat × Instr × Nat) := [(1354, .aload_n 1, 1), (1355, .aload_n 0, 1), (1356, .iload_n 3, 1), (1357, .iconst 1, 1), (1358, .iadd, 1), (1359, .iaload, 1), (1360, .aload_n 0, 1), (1361, .iload_n 3, 1), (1362, .iconst 2, 1), (1363, .iadd, 1), (1364, .iaload, 1), (1365, .aload_n 0, 1), (1366, .iload_n 3, 1), (1367, .iconst 3, 1), (1368, .iadd, 1), (1369, .iaload, 1), (1370, .invokevirtual 165, 3), (1373, .aload_n 2, 1), (1374, .aload_n 0, 1), (1375, .iload_n 3, 1), (1376, .iconst 1, 1), (1377, .iadd, 1), (1378, .iaload, 1), (1379, .aload_n 0, 1), (1380, .iload_n 3, 1), (1381, .iconst 2, 1), (1382, .iadd, 1), (1383, .iaload, 1), (1384, .aload_n 0, 1), (1385, .iload_n 3, 1), (1386, .iconst 3, 1), (1387, .iadd, 1), (1388, .iaload, 1), (1389, .invokevirtual 169, 3), (1392, .if_icmp .eq 765, 3)]
theorem dc_L_c35 : DEC code pc_L_c35 dl_L_c35 := DEC_of (by decide +kernel)
set_option maxRecDepth 8000 in
theorem cs_L_c35 {L : Nat} {xs : Nat → Int32} {X : KonT} {mm : MM} {i : Nat} (h : RUN (P_L_c35 L xs) RRl X) (hI : INV mm) (hi : i + 6 ≤ L) (hL : L ≤ 3072) (hk : ∀ M, INV M → X 36 (LSl i) [] M) : X 0 (LSl i) [] mm := by
  have b_1 : inb (nI i + 1) L = true := inb_law 1 hi hL (by decide)
  have b_2 : inb (nI i + 2) L = true := inb_law 2 hi hL (by decide)
  have b_3 : inb (nI i + 3) L = true := inb_law 3 hi hL (by decide)
  obtain ⟨p1, v, M, M', e1, p2, e2, hI2⟩ := LW_least hI (xs (nI i + 1).toNatClampNeg) (xs (nI i + 2).toNatClampNeg) (xs (nI i + 3).toNatClampNeg)
  have e2 : Fn_X12_least M [vR 12 0, vI (xs (nI i + 1).toNatClampNeg), vI (xs (nI i + 2).toNatClampNeg), vI (xs (nI i + 3).toNatClampNeg)] = (some (vI v), M') := e2
  refine h (fun k => Nat.beq k 17) 3000 0 _ _ _ ?_
  refine And.intro b_1 ?_
  refine And.intro b_2 ?_
  refine And.intro b_3 ?_
  refine And.intro p1 ?_
  show X 17 (LSl i) ((Fn_X11_least mm [vR 11 0, vI (xs (nI i + 1).toNatClampNeg), vI (xs (nI i + 2).toNatClampNeg), vI (xs (nI i + 3).toNatClampNeg)]).1.toList ++ []) (Fn_X11_least mm [vR 11 0, vI (xs (nI i + 1).toNatClampNeg), vI (xs (nI i + 2).toNatClampNeg), vI (xs (nI i + 3).toNatClampNeg)]).2
  rw [e1]
  show X 17 (LSl i) [vI v] M
  refine h (fun k => Nat.beq k 34) 3000 17 _ _ _ ?_
  refine And.intro b_1 ?_
  refine And.intro b_2 ?_
  refine And.intro b_3 ?_
  refine And.intro p2 ?_
  show X 34 (LSl i) ((Fn_X12_least M [vR 12 0, vI (xs (nI i + 1).toNatClampNeg), vI (xs (nI i + 2).toNatClampNeg), vI (xs (nI i + 3).toNatClampNeg)]).1.toList ++ [vI v]) (Fn_X12_least M [vR 12 0, vI (xs (nI i + 1).toNatClampNeg), vI (xs (nI i + 2).toNatClampNeg), vI (xs (nI i + 3).toNatClampNeg)]).2
  rw [e2]
  show X 34 (LSl i) [vI v, vI v] M'
  refine h (fun k => Nat.beq k 36) 3000 34 _ _ _ ?_
  refine br_t rfl ?_
  exact hk M' hI2
def P_L_c36 (L : Nat) (xs : Nat → Int32) : List StpT := [s_aload 1, s_aload 0, s_iload 3, s_ic (1), s_iadd, s_sca L xs, s_aload 0, s_iload 3, s_ic (2), s_iadd, s_sca L xs, s_aload 0, s_iload 3, s_ic (3), s_iadd, s_sca L xs, s_callV 11 3 Pre_X11_leastSet Fn_X11_leastSet, s_aload 2, s_aload 0, s_iload 3, s_ic (1), s_iadd, s_sca L xs, s_aload 0, s_iload 3, s_ic (2), s_iadd, s_sca L xs, s_aload 0, s_iload 3, s_ic (3), s_iadd, s_sca L xs, s_callV 12 3 Pre_X12_leastSet Fn_X12_leastSet, s_iceq 36]
def pc_L_c36 : Nat → Nat := fun i => [1397, 1398, 1399, 1400, 1401, 1402, 1403, 1404, 1405, 1406, 1407, 1408, 1409, 1410, 1411, 1412, 1413, 1416, 1417, 1418, 1419, 1420, 1421, 1422, 1423, 1424, 1425, 1426, 1427, 1428, 1429, 1430, 1431, 1432, 1435, 1438, 2157].getD i 0
def dl_L_c36 : List (Nat × Instr × Nat) := [(1397, .aload_n 1, 1), (1398, .aload_n 0, 1), (1399, .iload_n 3, 1), (1400, .iconst 1, 1), (1401, .iadd, 1), (1402, .iaload, 1), (1403, .aload_n 0, 1), (1404, .iload_n 3, 1), (1405, .iconst 2, 1), (1406, .iadd, 1), (1407, .iaload, 1), (1408, .aload_n 0, 1), (1409, .iload_n 3, 1), (1410, .iconst 3, 1), (1411, .iadd, 1), (1412, .iaload, 1), (1413, .invokevirtual 170, 3), (1416, .aload_n 2, 1), (1417, .aload_n 0, 1), (1418, .iload_n 3, 1), (1419, .iconst 1, 1), (1420, .iadd, 1), (1421, .iaload, 1), (1422, .aload_n 0, 1), (1423, .iload_n 3, 1), (1424, .iconst 2, 1), (1425, .iadd, 1), (1426, .iaload, 1), (1427, .aload_n 0, 1), (1428, .iload_n 3, 1), (1429, .iconst 3, 1), (1430, .iadd, 1), (1431, .iaload, 1), (1432, .invokevirtual 173, 3), (1435, .if_icmp .eq 722, 3)]
theorem dc_L_c36 : DEC code pc_L_c36 dl_L_c36 := DEC_of (by decide +kernel)
set_option maxRecDepth 8000 in
theorem cs_L_c36 {L : Nat} {xs : Nat → Int32} {X : KonT} {mm : MM} {i : Nat} (h : RUN (P_L_c36 L xs) RRl X) (hI : INV mm) (hi : i + 6 ≤ L) (hL : L ≤ 3072) (hk : ∀ M, INV M → X 36 (LSl i) [] M) : X 0 (LSl i) [] mm := by
  have b_1 : inb (nI i + 1) L = true := inb_law 1 hi hL (by decide)
  have b_2 : inb (nI i + 2) L = true := inb_law 2 hi hL (by decide)
  have b_3 : inb (nI i + 3) L = true := inb_law 3 hi hL (by decide)
  obtain ⟨p1, v, M, M', e1, p2, e2, hI2⟩ := LW_leastSet hI (xs (nI i + 1).toNatClampNeg) (xs (nI i + 2).toNatClampNeg) (xs (nI i + 3).toNatClampNeg)
  have e2 : Fn_X12_leastSet M [vR 12 0, vI (xs (nI i + 1).toNatClampNeg), vI (xs (nI i + 2).toNatClampNeg), vI (xs (nI i + 3).toNatClampNeg)] = (some (vI v), M') := e2
  refine h (fun k => Nat.beq k 17) 3000 0 _ _ _ ?_
  refine And.intro b_1 ?_
  refine And.intro b_2 ?_
  refine And.intro b_3 ?_
  refine And.intro p1 ?_
  show X 17 (LSl i) ((Fn_X11_leastSet mm [vR 11 0, vI (xs (nI i + 1).toNatClampNeg), vI (xs (nI i + 2).toNatClampNeg), vI (xs (nI i + 3).toNatClampNeg)]).1.toList ++ []) (Fn_X11_leastSet mm [vR 11 0, vI (xs (nI i + 1).toNatClampNeg), vI (xs (nI i + 2).toNatClampNeg), vI (xs (nI i + 3).toNatClampNeg)]).2
  rw [e1]
  show X 17 (LSl i) [vI v] M
  refine h (fun k => Nat.beq k 34) 3000 17 _ _ _ ?_
  refine And.intro b_1 ?_
  refine And.intro b_2 ?_
  refine And.intro b_3 ?_
  refine And.intro p2 ?_
  show X 34 (LSl i) ((Fn_X12_leastSet M [vR 12 0, vI (xs (nI i + 1).toNatClampNeg), vI (xs (nI i + 2).toNatClampNeg), vI (xs (nI i + 3).toNatClampNeg)]).1.toList ++ [vI v]) (Fn_X12_leastSet M [vR 12 0, vI (xs (nI i + 1).toNatClampNeg), vI (xs (nI i + 2).toNatClampNeg), vI (xs (nI i + 3).toNatClampNeg)]).2
  rw [e2]
  show X 34 (LSl i) [vI v, vI v] M'
  refine h (fun k => Nat.beq k 36) 3000 34 _ _ _ ?_
  refine br_t rfl ?_
  exact hk M' hI2
def P_L_c37 (L : Nat) (xs : Nat → Int32) : List StpT := [s_aload 1, s_aload 0, s_iload 3, s_ic (1), s_iadd, s_sca L xs, s_aload 0, s_iload 3, s_ic (2), s_iadd, s_sca L xs, s_aload 0, s_iload 3, s_ic (3), s_iadd, s_sca L xs, s_callV 11 3 Pre_X11_fewest Fn_X11_fewest, s_aload 2, s_aload 0, s_iload 3, s_ic (1), s_iadd, s_sca L xs, s_aload 0, s_iload 3, s_ic (2), s_iadd, s_sca L xs, s_aload 0, s_iload 3, s_ic (3), s_iadd, s_sca L xs, s_callV 12 3 Pre_X12_fewest Fn_X12_fewest, s_iceq 36]
def pc_L_c37 : Nat → Nat := fun i => [1440, 1441, 1442, 1443, 1444, 1445, 1446, 1447, 1448, 1449, 1450, 1451, 1452, 1453, 1454, 1455, 1456, 1459, 1460, 1461, 1462, 1463, 1464, 1465, 1466, 1467, 1468, 1469, 1470, 1471, 1472, 1473, 1474, 1475, 1478, 1481, 2157].getD i 0
def dl_L_c37 : List (Nat × Instr × Nat) := [(1440, .aload_n 1, 1), (1441, .aload_n 0, 1), (1442, .iload_n 3, 1), (1443, .iconst 1, 1), (1444, .iadd, 1), (1445, .iaload, 1), (1446, .aload_n 0, 1), (1447, .iload_n 3, 1), (1448, .iconst 2, 1), (1449, .iadd, 1), (1450, .iaload, 1), (1451, .aload_n 0, 1), (1452, .iload_n 3, 1), (1453, .iconst 3, 1), (1454, .iadd, 1), (1455, .iaload, 1), (1456, .invokevirtual 174, 3), (1459, .aload_n 2, 1), (1460, .aload_n 0, 1), (1461, .iload_n 3, 1), (1462, .iconst 1, 1), (1463, .iadd, 1), (1464, .iaload, 1), (1465, .aload_n 0, 1), (1466, .iload_n 3, 1), (1467, .iconst 2, 1), (1468, .iadd, 1), (1469, .iaload, 1), (1470, .aload_n 0, 1), (1471, .iload_n 3, 1), (1472, .iconst 3, 1), (1473, .iadd, 1), (1474, .iaload, 1), (1475, .invokevirtual 177, 3), (1478, .if_icmp .eq 679, 3)]
theorem dc_L_c37 : DEC code pc_L_c37 dl_L_c37 := DEC_of (by decide +kernel)
set_option maxRecDepth 8000 in
theorem cs_L_c37 {L : Nat} {xs : Nat → Int32} {X : KonT} {mm : MM} {i : Nat} (h : RUN (P_L_c37 L xs) RRl X) (hI : INV mm) (hi : i + 6 ≤ L) (hL : L ≤ 3072) (hk : ∀ M, INV M → X 36 (LSl i) [] M) : X 0 (LSl i) [] mm := by
  have b_1 : inb (nI i + 1) L = true := inb_law 1 hi hL (by decide)
  have b_2 : inb (nI i + 2) L = true := inb_law 2 hi hL (by decide)
  have b_3 : inb (nI i + 3) L = true := inb_law 3 hi hL (by decide)
  obtain ⟨p1, v, M, M', e1, p2, e2, hI2⟩ := LW_fewest hI (xs (nI i + 1).toNatClampNeg) (xs (nI i + 2).toNatClampNeg) (xs (nI i + 3).toNatClampNeg)
  have e2 : Fn_X12_fewest M [vR 12 0, vI (xs (nI i + 1).toNatClampNeg), vI (xs (nI i + 2).toNatClampNeg), vI (xs (nI i + 3).toNatClampNeg)] = (some (vI v), M') := e2
  refine h (fun k => Nat.beq k 17) 3000 0 _ _ _ ?_
  refine And.intro b_1 ?_
  refine And.intro b_2 ?_
  refine And.intro b_3 ?_
  refine And.intro p1 ?_
  show X 17 (LSl i) ((Fn_X11_fewest mm [vR 11 0, vI (xs (nI i + 1).toNatClampNeg), vI (xs (nI i + 2).toNatClampNeg), vI (xs (nI i + 3).toNatClampNeg)]).1.toList ++ []) (Fn_X11_fewest mm [vR 11 0, vI (xs (nI i + 1).toNatClampNeg), vI (xs (nI i + 2).toNatClampNeg), vI (xs (nI i + 3).toNatClampNeg)]).2
  rw [e1]
  show X 17 (LSl i) [vI v] M
  refine h (fun k => Nat.beq k 34) 3000 17 _ _ _ ?_
  refine And.intro b_1 ?_
  refine And.intro b_2 ?_
  refine And.intro b_3 ?_
  refine And.intro p2 ?_
  show X 34 (LSl i) ((Fn_X12_fewest M [vR 12 0, vI (xs (nI i + 1).toNatClampNeg), vI (xs (nI i + 2).toNatClampNeg), vI (xs (nI i + 3).toNatClampNeg)]).1.toList ++ [vI v]) (Fn_X12_fewest M [vR 12 0, vI (xs (nI i + 1).toNatClampNeg), vI (xs (nI i + 2).toNatClampNeg), vI (xs (nI i + 3).toNatClampNeg)]).2
  rw [e2]
  show X 34 (LSl i) [vI v, vI v] M'
  refine h (fun k => Nat.beq k 36) 3000 34 _ _ _ ?_
  refine br_t rfl ?_
  exact hk M' hI2
def P_L_c38 (L : Nat) (xs : Nat → Int32) : List StpT := [s_aload 1, s_aload 0, s_iload 3, s_ic (1), s_iadd, s_sca L xs, s_aload 0, s_iload 3, s_ic (2), s_iadd, s_sca L xs, s_callV 11 2 Pre_X11_soonest Fn_X11_soonest, s_aload 2, s_aload 0, s_iload 3, s_ic (1), s_iadd, s_sca L xs, s_aload 0, s_iload 3, s_ic (2), s_iadd, s_sca L xs, s_callV 12 2 Pre_X12_soonest Fn_X12_soonest, s_iceq 26]
def pc_L_c38 : Nat → Nat := fun i => [1483, 1484, 1485, 1486, 1487, 1488, 1489, 1490, 1491, 1492, 1493, 1494, 1497, 1498, 1499, 1500, 1501, 1502, 1503, 1504, 1505, 1506, 1507, 1508, 1511, 1514, 2157].getD i 0
def dl_L_c38 : List (Nat × Instr × Nat) := [(1483, .aload_n 1, 1), (1484, .aload_n 0, 1), (1485, .iload_n 3, 1), (1486, .iconst 1, 1), (1487, .iadd, 1), (1488, .iaload, 1), (1489, .aload_n 0, 1), (1490, .iload_n 3, 1), (1491, .iconst 2, 1), (1492, .iadd, 1), (1493, .iaload, 1), (1494, .invokevirtual 178, 3), (1497, .aload_n 2, 1), (1498, .aload_n 0, 1), (1499, .iload_n 3, 1), (1500, .iconst 1, 1), (1501, .iadd, 1), (1502, .iaload, 1), (1503, .aload_n 0, 1), (1504, .iload_n 3, 1), (1505, .iconst 2, 1), (1506, .iadd, 1), (1507, .iaload, 1), (1508, .invokevirtual 181, 3), (1511, .if_icmp .eq 646, 3)]
theorem dc_L_c38 : DEC code pc_L_c38 dl_L_c38 := DEC_of (by decide +kernel)
set_option maxRecDepth 8000 in
theorem cs_L_c38 {L : Nat} {xs : Nat → Int32} {X : KonT} {mm : MM} {i : Nat} (h : RUN (P_L_c38 L xs) RRl X) (hI : INV mm) (hi : i + 6 ≤ L) (hL : L ≤ 3072) (hk : ∀ M, INV M → X 26 (LSl i) [] M) : X 0 (LSl i) [] mm := by
  have b_1 : inb (nI i + 1) L = true := inb_law 1 hi hL (by decide)
  have b_2 : inb (nI i + 2) L = true := inb_law 2 hi hL (by decide)
  obtain ⟨p1, v, M, M', e1, p2, e2, hI2⟩ := LW_soonest hI (xs (nI i + 1).toNatClampNeg) (xs (nI i + 2).toNatClampNeg)
  have e2 : Fn_X12_soonest M [vR 12 0, vI (xs (nI i + 1).toNatClampNeg), vI (xs (nI i + 2).toNatClampNeg)] = (some (vI v), M') := e2
  refine h (fun k => Nat.beq k 12) 3000 0 _ _ _ ?_
  refine And.intro b_1 ?_
  refine And.intro b_2 ?_
  refine And.intro p1 ?_
  show X 12 (LSl i) ((Fn_X11_soonest mm [vR 11 0, vI (xs (nI i + 1).toNatClampNeg), vI (xs (nI i + 2).toNatClampNeg)]).1.toList ++ []) (Fn_X11_soonest mm [vR 11 0, vI (xs (nI i + 1).toNatClampNeg), vI (xs (nI i + 2).toNatClampNeg)]).2
  rw [e1]
  show X 12 (LSl i) [vI v] M
  refine h (fun k => Nat.beq k 24) 3000 12 _ _ _ ?_
  refine And.intro b_1 ?_
  refine And.intro b_2 ?_
  refine And.intro p2 ?_
  show X 24 (LSl i) ((Fn_X12_soonest M [vR 12 0, vI (xs (nI i + 1).toNatClampNeg), vI (xs (nI i + 2).toNatClampNeg)]).1.toList ++ [vI v]) (Fn_X12_soonest M [vR 12 0, vI (xs (nI i + 1).toNatClampNeg), vI (xs (nI i + 2).toNatClampNeg)]).2
  rw [e2]
  show X 24 (LSl i) [vI v, vI v] M'
  refine h (fun k => Nat.beq k 26) 3000 24 _ _ _ ?_
  refine br_t rfl ?_
  exact hk M' hI2
def P_L_c39 (L : Nat) (xs : Nat → Int32) : List StpT := [s_aload 1, s_aload 0, s_iload 3, s_ic (1), s_iadd, s_sca L xs, s_aload 0, s_iload 3, s_ic (2), s_iadd, s_sca L xs, s_aload 0, s_iload 3, s_ic (3), s_iadd, s_sca L xs, s_callV 11 3 Pre_X11_most Fn_X11_most, s_aload 2, s_aload 0, s_iload 3, s_ic (1), s_iadd, s_sca L xs, s_aload 0, s_iload 3, s_ic (2), s_iadd, s_sca L xs, s_aload 0, s_iload 3, s_ic (3), s_iadd, s_sca L xs, s_callV 12 3 Pre_X12_most Fn_X12_most, s_iceq 36]
def pc_L_c39 : Nat → Nat := fun i => [1516, 1517, 1518, 1519, 1520, 1521, 1522, 1523, 1524, 1525, 1526, 1527, 1528, 1529, 1530, 1531, 1532, 1535, 1536, 1537, 1538, 1539, 1540, 1541, 1542, 1543, 1544, 1545, 1546, 1547, 1548, 1549, 1550, 1551, 1554, 1557, 2157].getD i 0
def dl_L_c39 : List (Nat × Instr × Nat) := [(1516, .aload_n 1, 1), (1517, .aload_n 0, 1), (1518, .iload_n 3, 1), (1519, .iconst 1, 1), (1520, .iadd, 1), (1521, .iaload, 1), (1522, .aload_n 0, 1), (1523, .iload_n 3, 1), (1524, .iconst 2, 1), (1525, .iadd, 1), (1526, .iaload, 1), (1527, .aload_n 0, 1), (1528, .iload_n 3, 1), (1529, .iconst 3, 1), (1530, .iadd, 1), (1531, .iaload, 1), (1532, .invokevirtual 182, 3), (1535, .aload_n 2, 1), (1536, .aload_n 0, 1), (1537, .iload_n 3, 1), (1538, .iconst 1, 1), (1539, .iadd, 1), (1540, .iaload, 1), (1541, .aload_n 0, 1), (1542, .iload_n 3, 1), (1543, .iconst 2, 1), (1544, .iadd, 1), (1545, .iaload, 1), (1546, .aload_n 0, 1), (1547, .iload_n 3, 1), (1548, .iconst 3, 1), (1549, .iadd, 1), (1550, .iaload, 1), (1551, .invokevirtual 185, 3), (1554, .if_icmp .eq 603, 3)]
theorem dc_L_c39 : DEC code pc_L_c39 dl_L_c39 := DEC_of (by decide +kernel)
set_option maxRecDepth 8000 in
theorem cs_L_c39 {L : Nat} {xs : Nat → Int32} {X : KonT} {mm : MM} {i : Nat} (h : RUN (P_L_c39 L xs) RRl X) (hI : INV mm) (hi : i + 6 ≤ L) (hL : L ≤ 3072) (hk : ∀ M, INV M → X 36 (LSl i) [] M) : X 0 (LSl i) [] mm := by
  have b_1 : inb (nI i + 1) L = true := inb_law 1 hi hL (by decide)
  have b_2 : inb (nI i + 2) L = true := inb_law 2 hi hL (by decide)
  have b_3 : inb (nI i + 3) L = true := inb_law 3 hi hL (by decide)
  obtain ⟨p1, v, M, M', e1, p2, e2, hI2⟩ := LW_most hI (xs (nI i + 1).toNatClampNeg) (xs (nI i + 2).toNatClampNeg) (xs (nI i + 3).toNatClampNeg)
  have e2 : Fn_X12_most M [vR 12 0, vI (xs (nI i + 1).toNatClampNeg), vI (xs (nI i + 2).toNatClampNeg), vI (xs (nI i + 3).toNatClampNeg)] = (some (vI v), M') := e2
  refine h (fun k => Nat.beq k 17) 3000 0 _ _ _ ?_
  refine And.intro b_1 ?_
  refine And.intro b_2 ?_
  refine And.intro b_3 ?_
  refine And.intro p1 ?_
  show X 17 (LSl i) ((Fn_X11_most mm [vR 11 0, vI (xs (nI i + 1).toNatClampNeg), vI (xs (nI i + 2).toNatClampNeg), vI (xs (nI i + 3).toNatClampNeg)]).1.toList ++ []) (Fn_X11_most mm [vR 11 0, vI (xs (nI i + 1).toNatClampNeg), vI (xs (nI i + 2).toNatClampNeg), vI (xs (nI i + 3).toNatClampNeg)]).2
  rw [e1]
  show X 17 (LSl i) [vI v] M
  refine h (fun k => Nat.beq k 34) 3000 17 _ _ _ ?_
  refine And.intro b_1 ?_
  refine And.intro b_2 ?_
  refine And.intro b_3 ?_
  refine And.intro p2 ?_
  show X 34 (LSl i) ((Fn_X12_most M [vR 12 0, vI (xs (nI i + 1).toNatClampNeg), vI (xs (nI i + 2).toNatClampNeg), vI (xs (nI i + 3).toNatClampNeg)]).1.toList ++ [vI v]) (Fn_X12_most M [vR 12 0, vI (xs (nI i + 1).toNatClampNeg), vI (xs (nI i + 2).toNatClampNeg), vI (xs (nI i + 3).toNatClampNeg)]).2
  rw [e2]
  show X 34 (LSl i) [vI v, vI v] M'
  refine h (fun k => Nat.beq k 36) 3000 34 _ _ _ ?_
  refine br_t rfl ?_
  exact hk M' hI2
def P_L_c40 (L : Nat) (xs : Nat → Int32) : List StpT := [s_aload 1, s_aload 0, s_iload 3, s_ic (1), s_iadd, s_sca L xs, s_aload 0, s_iload 3, s_ic (2), s_iadd, s_sca L xs, s_aload 0, s_iload 3, s_ic (3), s_iadd, s_sca L xs, s_callV 11 3 Pre_X11_rivals Fn_X11_rivals, s_aload 2, s_aload 0, s_iload 3, s_ic (1), s_iadd, s_sca L xs, s_aload 0, s_iload 3, s_ic (2), s_iadd, s_sca L xs, s_aload 0, s_iload 3, s_ic (3), s_iadd, s_sca L xs, s_callV 12 3 Pre_X12_rivals Fn_X12_rivals, s_iceq 36]
def pc_L_c40 : Nat → Nat := fun i => [1559, 1560, 1561, 1562, 1563, 1564, 1565, 1566, 1567, 1568, 1569, 1570, 1571, 1572, 1573, 1574, 1575, 1578, 1579, 1580, 1581, 1582, 1583, 1584, 1585, 1586, 1587, 1588, 1589, 1590, 1591, 1592, 1593, 1594, 1597, 1600, 2157].getD i 0
def dl_L_c40 : List (Nat × Instr × Nat) := [(1559, .aload_n 1, 1), (1560, .aload_n 0, 1), (1561, .iload_n 3, 1), (1562, .iconst 1, 1), (1563, .iadd, 1), (1564, .iaload, 1), (1565, .aload_n 0, 1), (1566, .iload_n 3, 1), (1567, .iconst 2, 1), (1568, .iadd, 1), (1569, .iaload, 1), (1570, .aload_n 0, 1), (1571, .iload_n 3, 1), (1572, .iconst 3, 1), (1573, .iadd, 1), (1574, .iaload, 1), (1575, .invokevirtual 186, 3), (1578, .aload_n 2, 1), (1579, .aload_n 0, 1), (1580, .iload_n 3, 1), (1581, .iconst 1, 1), (1582, .iadd, 1), (1583, .iaload, 1), (1584, .aload_n 0, 1), (1585, .iload_n 3, 1), (1586, .iconst 2, 1), (1587, .iadd, 1), (1588, .iaload, 1), (1589, .aload_n 0, 1), (1590, .iload_n 3, 1), (1591, .iconst 3, 1), (1592, .iadd, 1), (1593, .iaload, 1), (1594, .invokevirtual 189, 3), (1597, .if_icmp .eq 560, 3)]
theorem dc_L_c40 : DEC code pc_L_c40 dl_L_c40 := DEC_of (by decide +kernel)
set_option maxRecDepth 8000 in
theorem cs_L_c40 {L : Nat} {xs : Nat → Int32} {X : KonT} {mm : MM} {i : Nat} (h : RUN (P_L_c40 L xs) RRl X) (hI : INV mm) (hi : i + 6 ≤ L) (hL : L ≤ 3072) (hk : ∀ M, INV M → X 36 (LSl i) [] M) : X 0 (LSl i) [] mm := by
  have b_1 : inb (nI i + 1) L = true := inb_law 1 hi hL (by decide)
  have b_2 : inb (nI i + 2) L = true := inb_law 2 hi hL (by decide)
  have b_3 : inb (nI i + 3) L = true := inb_law 3 hi hL (by decide)
  obtain ⟨p1, v, M, M', e1, p2, e2, hI2⟩ := LW_rivals hI (xs (nI i + 1).toNatClampNeg) (xs (nI i + 2).toNatClampNeg) (xs (nI i + 3).toNatClampNeg)
  have e2 : Fn_X12_rivals M [vR 12 0, vI (xs (nI i + 1).toNatClampNeg), vI (xs (nI i + 2).toNatClampNeg), vI (xs (nI i + 3).toNatClampNeg)] = (some (vI v), M') := e2
  refine h (fun k => Nat.beq k 17) 3000 0 _ _ _ ?_
  refine And.intro b_1 ?_
  refine And.intro b_2 ?_
  refine And.intro b_3 ?_
  refine And.intro p1 ?_
  show X 17 (LSl i) ((Fn_X11_rivals mm [vR 11 0, vI (xs (nI i + 1).toNatClampNeg), vI (xs (nI i + 2).toNatClampNeg), vI (xs (nI i + 3).toNatClampNeg)]).1.toList ++ []) (Fn_X11_rivals mm [vR 11 0, vI (xs (nI i + 1).toNatClampNeg), vI (xs (nI i + 2).toNatClampNeg), vI (xs (nI i + 3).toNatClampNeg)]).2
  rw [e1]
  show X 17 (LSl i) [vI v] M
  refine h (fun k => Nat.beq k 34) 3000 17 _ _ _ ?_
  refine And.intro b_1 ?_
  refine And.intro b_2 ?_
  refine And.intro b_3 ?_
  refine And.intro p2 ?_
  show X 34 (LSl i) ((Fn_X12_rivals M [vR 12 0, vI (xs (nI i + 1).toNatClampNeg), vI (xs (nI i + 2).toNatClampNeg), vI (xs (nI i + 3).toNatClampNeg)]).1.toList ++ [vI v]) (Fn_X12_rivals M [vR 12 0, vI (xs (nI i + 1).toNatClampNeg), vI (xs (nI i + 2).toNatClampNeg), vI (xs (nI i + 3).toNatClampNeg)]).2
  rw [e2]
  show X 34 (LSl i) [vI v, vI v] M'
  refine h (fun k => Nat.beq k 36) 3000 34 _ _ _ ?_
  refine br_t rfl ?_
  exact hk M' hI2
def P_L_c41 (L : Nat) (xs : Nat → Int32) : List StpT := [s_aload 1, s_aload 0, s_iload 3, s_ic (1), s_iadd, s_sca L xs, s_aload 0, s_iload 3, s_ic (2), s_iadd, s_sca L xs, s_callV 11 2 Pre_X11_cheapest Fn_X11_cheapest, s_aload 2, s_aload 0, s_iload 3, s_ic (1), s_iadd, s_sca L xs, s_aload 0, s_iload 3, s_ic (2), s_iadd, s_sca L xs, s_callV 12 2 Pre_X12_cheapest Fn_X12_cheapest, s_iceq 26]
def pc_L_c41 : Nat → Nat := fun i => [1602, 1603, 1604, 1605, 1606, 1607, 1608, 1609, 1610, 1611, 1612, 1613, 1616, 1617, 1618, 1619, 1620, 1621, 1622, 1623, 1624, 1625, 1626, 1627, 1630, 1633, 2157].getD i 0
def dl_L_c41 : List (Nat × Instr × Nat) := [(1602, .aload_n 1, 1), (1603, .aload_n 0, 1), (1604, .iload_n 3, 1), (1605, .iconst 1, 1), (1606, .iadd, 1), (1607, .iaload, 1), (1608, .aload_n 0, 1), (1609, .iload_n 3, 1), (1610, .iconst 2, 1), (1611, .iadd, 1), (1612, .iaload, 1), (1613, .invokevirtual 190, 3), (1616, .aload_n 2, 1), (1617, .aload_n 0, 1), (1618, .iload_n 3, 1), (1619, .iconst 1, 1), (1620, .iadd, 1), (1621, .iaload, 1), (1622, .aload_n 0, 1), (1623, .iload_n 3, 1), (1624, .iconst 2, 1), (1625, .iadd, 1), (1626, .iaload, 1), (1627, .invokevirtual 193, 3), (1630, .if_icmp .eq 527, 3)]
theorem dc_L_c41 : DEC code pc_L_c41 dl_L_c41 := DEC_of (by decide +kernel)
set_option maxRecDepth 8000 in
theorem cs_L_c41 {L : Nat} {xs : Nat → Int32} {X : KonT} {mm : MM} {i : Nat} (h : RUN (P_L_c41 L xs) RRl X) (hI : INV mm) (hi : i + 6 ≤ L) (hL : L ≤ 3072) (hk : ∀ M, INV M → X 26 (LSl i) [] M) : X 0 (LSl i) [] mm := by
  have b_1 : inb (nI i + 1) L = true := inb_law 1 hi hL (by decide)
  have b_2 : inb (nI i + 2) L = true := inb_law 2 hi hL (by decide)
  obtain ⟨p1, v, M, M', e1, p2, e2, hI2⟩ := LW_cheapest hI (xs (nI i + 1).toNatClampNeg) (xs (nI i + 2).toNatClampNeg)
  have e2 : Fn_X12_cheapest M [vR 12 0, vI (xs (nI i + 1).toNatClampNeg), vI (xs (nI i + 2).toNatClampNeg)] = (some (vI v), M') := e2
  refine h (fun k => Nat.beq k 12) 3000 0 _ _ _ ?_
  refine And.intro b_1 ?_
  refine And.intro b_2 ?_
  refine And.intro p1 ?_
  show X 12 (LSl i) ((Fn_X11_cheapest mm [vR 11 0, vI (xs (nI i + 1).toNatClampNeg), vI (xs (nI i + 2).toNatClampNeg)]).1.toList ++ []) (Fn_X11_cheapest mm [vR 11 0, vI (xs (nI i + 1).toNatClampNeg), vI (xs (nI i + 2).toNatClampNeg)]).2
  rw [e1]
  show X 12 (LSl i) [vI v] M
  refine h (fun k => Nat.beq k 24) 3000 12 _ _ _ ?_
  refine And.intro b_1 ?_
  refine And.intro b_2 ?_
  refine And.intro p2 ?_
  show X 24 (LSl i) ((Fn_X12_cheapest M [vR 12 0, vI (xs (nI i + 1).toNatClampNeg), vI (xs (nI i + 2).toNatClampNeg)]).1.toList ++ [vI v]) (Fn_X12_cheapest M [vR 12 0, vI (xs (nI i + 1).toNatClampNeg), vI (xs (nI i + 2).toNatClampNeg)]).2
  rw [e2]
  show X 24 (LSl i) [vI v, vI v] M'
  refine h (fun k => Nat.beq k 26) 3000 24 _ _ _ ?_
  refine br_t rfl ?_
  exact hk M' hI2
def P_L_c42 (L : Nat) (xs : Nat → Int32) : List StpT := [s_aload 1, s_aload 0, s_iload 3, s_ic (1), s_iadd, s_sca L xs, s_aload 0, s_iload 3, s_ic (2), s_iadd, s_sca L xs, s_callV 11 2 Pre_X11_within Fn_X11_within, s_aload 2, s_aload 0, s_iload 3, s_ic (1), s_iadd, s_sca L xs, s_aload 0, s_iload 3, s_ic (2), s_iadd, s_sca L xs, s_callV 12 2 Pre_X12_within Fn_X12_within, s_iceq 26]
def pc_L_c42 : Nat → Nat := fun i => [1635, 1636, 1637, 1638, 1639, 1640, 1641, 1642, 1643, 1644, 1645, 1646, 1649, 1650, 1651, 1652, 1653, 1654, 1655, 1656, 1657, 1658, 1659, 1660, 1663, 1666, 2157].getD i 0
def dl_L_c42 : List (Nat × Instr × Nat) := [(1635, .aload_n 1, 1), (1636, .aload_n 0, 1), (1637, .iload_n 3, 1), (1638, .iconst 1, 1), (1639, .iadd, 1), (1640, .iaload, 1), (1641, .aload_n 0, 1), (1642, .iload_n 3, 1), (1643, .iconst 2, 1), (1644, .iadd, 1), (1645, .iaload, 1), (1646, .invokevirtual 194, 3), (1649, .aload_n 2, 1), (1650, .aload_n 0, 1), (1651, .iload_n 3, 1), (1652, .iconst 1, 1), (1653, .iadd, 1), (1654, .iaload, 1), (1655, .aload_n 0, 1), (1656, .iload_n 3, 1), (1657, .iconst 2, 1), (1658, .iadd, 1), (1659, .iaload, 1), (1660, .invokevirtual 197, 3), (1663, .if_icmp .eq 494, 3)]
theorem dc_L_c42 : DEC code pc_L_c42 dl_L_c42 := DEC_of (by decide +kernel)
set_option maxRecDepth 8000 in
theorem cs_L_c42 {L : Nat} {xs : Nat → Int32} {X : KonT} {mm : MM} {i : Nat} (h : RUN (P_L_c42 L xs) RRl X) (hI : INV mm) (hi : i + 6 ≤ L) (hL : L ≤ 3072) (hk : ∀ M, INV M → X 26 (LSl i) [] M) : X 0 (LSl i) [] mm := by
  have b_1 : inb (nI i + 1) L = true := inb_law 1 hi hL (by decide)
  have b_2 : inb (nI i + 2) L = true := inb_law 2 hi hL (by decide)
  obtain ⟨p1, v, M, M', e1, p2, e2, hI2⟩ := LW_within hI (xs (nI i + 1).toNatClampNeg) (xs (nI i + 2).toNatClampNeg)
  have e2 : Fn_X12_within M [vR 12 0, vI (xs (nI i + 1).toNatClampNeg), vI (xs (nI i + 2).toNatClampNeg)] = (some (vI v), M') := e2
  refine h (fun k => Nat.beq k 12) 3000 0 _ _ _ ?_
  refine And.intro b_1 ?_
  refine And.intro b_2 ?_
  refine And.intro p1 ?_
  show X 12 (LSl i) ((Fn_X11_within mm [vR 11 0, vI (xs (nI i + 1).toNatClampNeg), vI (xs (nI i + 2).toNatClampNeg)]).1.toList ++ []) (Fn_X11_within mm [vR 11 0, vI (xs (nI i + 1).toNatClampNeg), vI (xs (nI i + 2).toNatClampNeg)]).2
  rw [e1]
  show X 12 (LSl i) [vI v] M
  refine h (fun k => Nat.beq k 24) 3000 12 _ _ _ ?_
  refine And.intro b_1 ?_
  refine And.intro b_2 ?_
  refine And.intro p2 ?_
  show X 24 (LSl i) ((Fn_X12_within M [vR 12 0, vI (xs (nI i + 1).toNatClampNeg), vI (xs (nI i + 2).toNatClampNeg)]).1.toList ++ [vI v]) (Fn_X12_within M [vR 12 0, vI (xs (nI i + 1).toNatClampNeg), vI (xs (nI i + 2).toNatClampNeg)]).2
  rw [e2]
  show X 24 (LSl i) [vI v, vI v] M'
  refine h (fun k => Nat.beq k 26) 3000 24 _ _ _ ?_
  refine br_t rfl ?_
  exact hk M' hI2
def P_L_c43 (L : Nat) (xs : Nat → Int32) : List StpT := [s_aload 1, s_aload 0, s_iload 3, s_ic (1), s_iadd, s_sca L xs, s_aload 0, s_iload 3, s_ic (2), s_iadd, s_sca L xs, s_callV 11 2 Pre_X11_village Fn_X11_village, s_aload 2, s_aload 0, s_iload 3, s_ic (1), s_iadd, s_sca L xs, s_aload 0, s_iload 3, s_ic (2), s_iadd, s_sca L xs, s_callV 12 2 Pre_X12_village Fn_X12_village, s_iceq 26]
def pc_L_c43 : Nat → Nat := fun i => [1668, 1669, 1670, 1671, 1672, 1673, 1674, 1675, 1676, 1677, 1678, 1679, 1682, 1683, 1684, 1685, 1686, 1687, 1688, 1689, 1690, 1691, 1692, 1693, 1696, 1699, 2157].getD i 0
def dl_L_c43 : List (Nat × Instr × Nat) := [(1668, .aload_n 1, 1), (1669, .aload_n 0, 1), (1670, .iload_n 3, 1), (1671, .iconst 1, 1), (1672, .iadd, 1), (1673, .iaload, 1), (1674, .aload_n 0, 1), (1675, .iload_n 3, 1), (1676, .iconst 2, 1), (1677, .iadd, 1), (1678, .iaload, 1), (1679, .invokevirtual 198, 3), (1682, .aload_n 2, 1), (1683, .aload_n 0, 1), (1684, .iload_n 3, 1), (1685, .iconst 1, 1), (1686, .iadd, 1), (1687, .iaload, 1), (1688, .aload_n 0, 1), (1689, .iload_n 3, 1), (1690, .iconst 2, 1), (1691, .iadd, 1), (1692, .iaload, 1), (1693, .invokevirtual 201, 3), (1696, .if_icmp .eq 461, 3)]
theorem dc_L_c43 : DEC code pc_L_c43 dl_L_c43 := DEC_of (by decide +kernel)
set_option maxRecDepth 8000 in
theorem cs_L_c43 {L : Nat} {xs : Nat → Int32} {X : KonT} {mm : MM} {i : Nat} (h : RUN (P_L_c43 L xs) RRl X) (hI : INV mm) (hi : i + 6 ≤ L) (hL : L ≤ 3072) (hk : ∀ M, INV M → X 26 (LSl i) [] M) : X 0 (LSl i) [] mm := by
  have b_1 : inb (nI i + 1) L = true := inb_law 1 hi hL (by decide)
  have b_2 : inb (nI i + 2) L = true := inb_law 2 hi hL (by decide)
  obtain ⟨p1, v, M, M', e1, p2, e2, hI2⟩ := LW_village hI (xs (nI i + 1).toNatClampNeg) (xs (nI i + 2).toNatClampNeg)
  have e2 : Fn_X12_village M [vR 12 0, vI (xs (nI i + 1).toNatClampNeg), vI (xs (nI i + 2).toNatClampNeg)] = (some (vI v), M') := e2
  refine h (fun k => Nat.beq k 12) 3000 0 _ _ _ ?_
  refine And.intro b_1 ?_
  refine And.intro b_2 ?_
  refine And.intro p1 ?_
  show X 12 (LSl i) ((Fn_X11_village mm [vR 11 0, vI (xs (nI i + 1).toNatClampNeg), vI (xs (nI i + 2).toNatClampNeg)]).1.toList ++ []) (Fn_X11_village mm [vR 11 0, vI (xs (nI i + 1).toNatClampNeg), vI (xs (nI i + 2).toNatClampNeg)]).2
  rw [e1]
  show X 12 (LSl i) [vI v] M
  refine h (fun k => Nat.beq k 24) 3000 12 _ _ _ ?_
  refine And.intro b_1 ?_
  refine And.intro b_2 ?_
  refine And.intro p2 ?_
  show X 24 (LSl i) ((Fn_X12_village M [vR 12 0, vI (xs (nI i + 1).toNatClampNeg), vI (xs (nI i + 2).toNatClampNeg)]).1.toList ++ [vI v]) (Fn_X12_village M [vR 12 0, vI (xs (nI i + 1).toNatClampNeg), vI (xs (nI i + 2).toNatClampNeg)]).2
  rw [e2]
  show X 24 (LSl i) [vI v, vI v] M'
  refine h (fun k => Nat.beq k 26) 3000 24 _ _ _ ?_
  refine br_t rfl ?_
  exact hk M' hI2
def P_L_c44 (L : Nat) (xs : Nat → Int32) : List StpT := [s_aload 1, s_aload 0, s_iload 3, s_ic (1), s_iadd, s_sca L xs, s_aload 0, s_iload 3, s_ic (2), s_iadd, s_sca L xs, s_callV 11 2 Pre_X11_villager Fn_X11_villager, s_aload 2, s_aload 0, s_iload 3, s_ic (1), s_iadd, s_sca L xs, s_aload 0, s_iload 3, s_ic (2), s_iadd, s_sca L xs, s_callV 12 2 Pre_X12_villager Fn_X12_villager, s_iceq 26]
def pc_L_c44 : Nat → Nat := fun i => [1701, 1702, 1703, 1704, 1705, 1706, 1707, 1708, 1709, 1710, 1711, 1712, 1715, 1716, 1717, 1718, 1719, 1720, 1721, 1722, 1723, 1724, 1725, 1726, 1729, 1732, 2157].getD i 0
def dl_L_c44 : List (Nat × Instr × Nat) := [(1701, .aload_n 1, 1), (1702, .aload_n 0, 1), (1703, .iload_n 3, 1), (1704, .iconst 1, 1), (1705, .iadd, 1), (1706, .iaload, 1), (1707, .aload_n 0, 1), (1708, .iload_n 3, 1), (1709, .iconst 2, 1), (1710, .iadd, 1), (1711, .iaload, 1), (1712, .invokevirtual 202, 3), (1715, .aload_n 2, 1), (1716, .aload_n 0, 1), (1717, .iload_n 3, 1), (1718, .iconst 1, 1), (1719, .iadd, 1), (1720, .iaload, 1), (1721, .aload_n 0, 1), (1722, .iload_n 3, 1), (1723, .iconst 2, 1), (1724, .iadd, 1), (1725, .iaload, 1), (1726, .invokevirtual 205, 3), (1729, .if_icmp .eq 428, 3)]
theorem dc_L_c44 : DEC code pc_L_c44 dl_L_c44 := DEC_of (by decide +kernel)
set_option maxRecDepth 8000 in
theorem cs_L_c44 {L : Nat} {xs : Nat → Int32} {X : KonT} {mm : MM} {i : Nat} (h : RUN (P_L_c44 L xs) RRl X) (hI : INV mm) (hi : i + 6 ≤ L) (hL : L ≤ 3072) (hk : ∀ M, INV M → X 26 (LSl i) [] M) : X 0 (LSl i) [] mm := by
  have b_1 : inb (nI i + 1) L = true := inb_law 1 hi hL (by decide)
  have b_2 : inb (nI i + 2) L = true := inb_law 2 hi hL (by decide)
  obtain ⟨p1, v, M, M', e1, p2, e2, hI2⟩ := LW_villager hI (xs (nI i + 1).toNatClampNeg) (xs (nI i + 2).toNatClampNeg)
  have e2 : Fn_X12_villager M [vR 12 0, vI (xs (nI i + 1).toNatClampNeg), vI (xs (nI i + 2).toNatClampNeg)] = (some (vI v), M') := e2
  refine h (fun k => Nat.beq k 12) 3000 0 _ _ _ ?_
  refine And.intro b_1 ?_
  refine And.intro b_2 ?_
  refine And.intro p1 ?_
  show X 12 (LSl i) ((Fn_X11_villager mm [vR 11 0, vI (xs (nI i + 1).toNatClampNeg), vI (xs (nI i + 2).toNatClampNeg)]).1.toList ++ []) (Fn_X11_villager mm [vR 11 0, vI (xs (nI i + 1).toNatClampNeg), vI (xs (nI i + 2).toNatClampNeg)]).2
  rw [e1]
  show X 12 (LSl i) [vI v] M
  refine h (fun k => Nat.beq k 24) 3000 12 _ _ _ ?_
  refine And.intro b_1 ?_
  refine And.intro b_2 ?_
  refine And.intro p2 ?_
  show X 24 (LSl i) ((Fn_X12_villager M [vR 12 0, vI (xs (nI i + 1).toNatClampNeg), vI (xs (nI i + 2).toNatClampNeg)]).1.toList ++ [vI v]) (Fn_X12_villager M [vR 12 0, vI (xs (nI i + 1).toNatClampNeg), vI (xs (nI i + 2).toNatClampNeg)]).2
  rw [e2]
  show X 24 (LSl i) [vI v, vI v] M'
  refine h (fun k => Nat.beq k 26) 3000 24 _ _ _ ?_
  refine br_t rfl ?_
  exact hk M' hI2
def P_L_c45 (L : Nat) (xs : Nat → Int32) : List StpT := [s_aload 1, s_aload 0, s_iload 3, s_ic (1), s_iadd, s_sca L xs, s_callV 11 1 Pre_X11_bolts Fn_X11_bolts, s_aload 2, s_aload 0, s_iload 3, s_ic (1), s_iadd, s_sca L xs, s_callV 12 1 Pre_X12_bolts Fn_X12_bolts, s_iceq 16]
def pc_L_c45 : Nat → Nat := fun i => [1734, 1735, 1736, 1737, 1738, 1739, 1740, 1743, 1744, 1745, 1746, 1747, 1748, 1749, 1752, 1755, 2157].getD i 0
def dl_L_c45 : List (Nat × Instr × Nat) := [(1734, .aload_n 1, 1), (1735, .aload_n 0, 1), (1736, .iload_n 3, 1), (1737, .iconst 1, 1), (1738, .iadd, 1), (1739, .iaload, 1), (1740, .invokevirtual 206, 3), (1743, .aload_n 2, 1), (1744, .aload_n 0, 1), (1745, .iload_n 3, 1), (1746, .iconst 1, 1), (1747, .iadd, 1), (1748, .iaload, 1), (1749, .invokevirtual 209, 3), (1752, .if_icmp .eq 405, 3)]
theorem dc_L_c45 : DEC code pc_L_c45 dl_L_c45 := DEC_of (by decide +kernel)
set_option maxRecDepth 8000 in
theorem cs_L_c45 {L : Nat} {xs : Nat → Int32} {X : KonT} {mm : MM} {i : Nat} (h : RUN (P_L_c45 L xs) RRl X) (hI : INV mm) (hi : i + 6 ≤ L) (hL : L ≤ 3072) (hk : ∀ M, INV M → X 16 (LSl i) [] M) : X 0 (LSl i) [] mm := by
  have b_1 : inb (nI i + 1) L = true := inb_law 1 hi hL (by decide)
  obtain ⟨p1, v, M, M', e1, p2, e2, hI2⟩ := LW_bolts hI (xs (nI i + 1).toNatClampNeg)
  have e2 : Fn_X12_bolts M [vR 12 0, vI (xs (nI i + 1).toNatClampNeg)] = (some (vI v), M') := e2
  refine h (fun k => Nat.beq k 7) 3000 0 _ _ _ ?_
  refine And.intro b_1 ?_
  refine And.intro p1 ?_
  show X 7 (LSl i) ((Fn_X11_bolts mm [vR 11 0, vI (xs (nI i + 1).toNatClampNeg)]).1.toList ++ []) (Fn_X11_bolts mm [vR 11 0, vI (xs (nI i + 1).toNatClampNeg)]).2
  rw [e1]
  show X 7 (LSl i) [vI v] M
  refine h (fun k => Nat.beq k 14) 3000 7 _ _ _ ?_
  refine And.intro b_1 ?_
  refine And.intro p2 ?_
  show X 14 (LSl i) ((Fn_X12_bolts M [vR 12 0, vI (xs (nI i + 1).toNatClampNeg)]).1.toList ++ [vI v]) (Fn_X12_bolts M [vR 12 0, vI (xs (nI i + 1).toNatClampNeg)]).2
  rw [e2]
  show X 14 (LSl i) [vI v, vI v] M'
  refine h (fun k => Nat.beq k 16) 3000 14 _ _ _ ?_
  refine br_t rfl ?_
  exact hk M' hI2
def P_L_c46 (L : Nat) (xs : Nat → Int32) : List StpT := [s_aload 1, s_aload 0, s_iload 3, s_ic (1), s_iadd, s_sca L xs, s_aload 0, s_iload 3, s_ic (2), s_iadd, s_sca L xs, s_callV 11 2 Pre_X11_bolter Fn_X11_bolter, s_aload 2, s_aload 0, s_iload 3, s_ic (1), s_iadd, s_sca L xs, s_aload 0, s_iload 3, s_ic (2), s_iadd, s_sca L xs, s_callV 12 2 Pre_X12_bolter Fn_X12_bolter, s_iceq 26]
def pc_L_c46 : Nat → Nat := fun i => [1757, 1758, 1759, 1760, 1761, 1762, 1763, 1764, 1765, 1766, 1767, 1768, 1771, 1772, 1773, 1774, 1775, 1776, 1777, 1778, 1779, 1780, 1781, 1782, 1785, 1788, 2157].getD i 0
def dl_L_c46 : List (Nat × Instr × Nat) := [(1757, .aload_n 1, 1), (1758, .aload_n 0, 1), (1759, .iload_n 3, 1), (1760, .iconst 1, 1), (1761, .iadd, 1), (1762, .iaload, 1), (1763, .aload_n 0, 1), (1764, .iload_n 3, 1), (1765, .iconst 2, 1), (1766, .iadd, 1), (1767, .iaload, 1), (1768, .invokevirtual 210, 3), (1771, .aload_n 2, 1), (1772, .aload_n 0, 1), (1773, .iload_n 3, 1), (1774, .iconst 1, 1), (1775, .iadd, 1), (1776, .iaload, 1), (1777, .aload_n 0, 1), (1778, .iload_n 3, 1), (1779, .iconst 2, 1), (1780, .iadd, 1), (1781, .iaload, 1), (1782, .invokevirtual 213, 3), (1785, .if_icmp .eq 372, 3)]
theorem dc_L_c46 : DEC code pc_L_c46 dl_L_c46 := DEC_of (by decide +kernel)
set_option maxRecDepth 8000 in
theorem cs_L_c46 {L : Nat} {xs : Nat → Int32} {X : KonT} {mm : MM} {i : Nat} (h : RUN (P_L_c46 L xs) RRl X) (hI : INV mm) (hi : i + 6 ≤ L) (hL : L ≤ 3072) (hk : ∀ M, INV M → X 26 (LSl i) [] M) : X 0 (LSl i) [] mm := by
  have b_1 : inb (nI i + 1) L = true := inb_law 1 hi hL (by decide)
  have b_2 : inb (nI i + 2) L = true := inb_law 2 hi hL (by decide)
  obtain ⟨p1, v, M, M', e1, p2, e2, hI2⟩ := LW_bolter hI (xs (nI i + 1).toNatClampNeg) (xs (nI i + 2).toNatClampNeg)
  have e2 : Fn_X12_bolter M [vR 12 0, vI (xs (nI i + 1).toNatClampNeg), vI (xs (nI i + 2).toNatClampNeg)] = (some (vI v), M') := e2
  refine h (fun k => Nat.beq k 12) 3000 0 _ _ _ ?_
  refine And.intro b_1 ?_
  refine And.intro b_2 ?_
  refine And.intro p1 ?_
  show X 12 (LSl i) ((Fn_X11_bolter mm [vR 11 0, vI (xs (nI i + 1).toNatClampNeg), vI (xs (nI i + 2).toNatClampNeg)]).1.toList ++ []) (Fn_X11_bolter mm [vR 11 0, vI (xs (nI i + 1).toNatClampNeg), vI (xs (nI i + 2).toNatClampNeg)]).2
  rw [e1]
  show X 12 (LSl i) [vI v] M
  refine h (fun k => Nat.beq k 24) 3000 12 _ _ _ ?_
  refine And.intro b_1 ?_
  refine And.intro b_2 ?_
  refine And.intro p2 ?_
  show X 24 (LSl i) ((Fn_X12_bolter M [vR 12 0, vI (xs (nI i + 1).toNatClampNeg), vI (xs (nI i + 2).toNatClampNeg)]).1.toList ++ [vI v]) (Fn_X12_bolter M [vR 12 0, vI (xs (nI i + 1).toNatClampNeg), vI (xs (nI i + 2).toNatClampNeg)]).2
  rw [e2]
  show X 24 (LSl i) [vI v, vI v] M'
  refine h (fun k => Nat.beq k 26) 3000 24 _ _ _ ?_
  refine br_t rfl ?_
  exact hk M' hI2
def P_L_c47 (L : Nat) (xs : Nat → Int32) : List StpT := [s_aload 1, s_aload 0, s_iload 3, s_ic (1), s_iadd, s_sca L xs, s_callV 11 1 Pre_X11_asked Fn_X11_asked, s_aload 2, s_aload 0, s_iload 3, s_ic (1), s_iadd, s_sca L xs, s_callV 12 1 Pre_X12_asked Fn_X12_asked, s_iceq 16]
def pc_L_c47 : Nat → Nat := fun i => [1790, 1791, 1792, 1793, 1794, 1795, 1796, 1799, 1800, 1801, 1802, 1803, 1804, 1805, 1808, 1811, 2157].getD i 0
def dl_L_c47 : List (Nat × Instr × Nat) := [(1790, .aload_n 1, 1), (1791, .aload_n 0, 1), (1792, .iload_n 3, 1), (1793, .iconst 1, 1), (1794, .iadd, 1), (1795, .iaload, 1), (1796, .invokevirtual 214, 3), (1799, .aload_n 2, 1), (1800, .aload_n 0, 1), (1801, .iload_n 3, 1), (1802, .iconst 1, 1), (1803, .iadd, 1), (1804, .iaload, 1), (1805, .invokevirtual 217, 3), (1808, .if_icmp .eq 349, 3)]
theorem dc_L_c47 : DEC code pc_L_c47 dl_L_c47 := DEC_of (by decide +kernel)
set_option maxRecDepth 8000 in
theorem cs_L_c47 {L : Nat} {xs : Nat → Int32} {X : KonT} {mm : MM} {i : Nat} (h : RUN (P_L_c47 L xs) RRl X) (hI : INV mm) (hi : i + 6 ≤ L) (hL : L ≤ 3072) (hk : ∀ M, INV M → X 16 (LSl i) [] M) : X 0 (LSl i) [] mm := by
  have b_1 : inb (nI i + 1) L = true := inb_law 1 hi hL (by decide)
  obtain ⟨p1, v, M, M', e1, p2, e2, hI2⟩ := LW_asked hI (xs (nI i + 1).toNatClampNeg)
  have e2 : Fn_X12_asked M [vR 12 0, vI (xs (nI i + 1).toNatClampNeg)] = (some (vI v), M') := e2
  refine h (fun k => Nat.beq k 7) 3000 0 _ _ _ ?_
  refine And.intro b_1 ?_
  refine And.intro p1 ?_
  show X 7 (LSl i) ((Fn_X11_asked mm [vR 11 0, vI (xs (nI i + 1).toNatClampNeg)]).1.toList ++ []) (Fn_X11_asked mm [vR 11 0, vI (xs (nI i + 1).toNatClampNeg)]).2
  rw [e1]
  show X 7 (LSl i) [vI v] M
  refine h (fun k => Nat.beq k 14) 3000 7 _ _ _ ?_
  refine And.intro b_1 ?_
  refine And.intro p2 ?_
  show X 14 (LSl i) ((Fn_X12_asked M [vR 12 0, vI (xs (nI i + 1).toNatClampNeg)]).1.toList ++ [vI v]) (Fn_X12_asked M [vR 12 0, vI (xs (nI i + 1).toNatClampNeg)]).2
  rw [e2]
  show X 14 (LSl i) [vI v, vI v] M'
  refine h (fun k => Nat.beq k 16) 3000 14 _ _ _ ?_
  refine br_t rfl ?_
  exact hk M' hI2
def P_L_c48 (L : Nat) (xs : Nat → Int32) : List StpT := [s_aload 1, s_callV 11 0 Pre_X11_refusals Fn_X11_refusals, s_aload 2, s_callV 12 0 Pre_X12_refusals Fn_X12_refusals, s_iceq 6]
def pc_L_c48 : Nat → Nat := fun i => [1813, 1814, 1817, 1818, 1821, 1824, 2157].getD i 0
def dl_L_c48 : List (Nat × Instr × Nat) := [(1813, .aload_n 1, 1), (1814, .invokevirtual 218, 3), (1817, .aload_n 2, 1), (1818, .invokevirtual 221, 3), (1821, .if_icmp .eq 336, 3)]
theorem dc_L_c48 : DEC code pc_L_c48 dl_L_c48 := DEC_of (by decide +kernel)
set_option maxRecDepth 8000 in
theorem cs_L_c48 {L : Nat} {xs : Nat → Int32} {X : KonT} {mm : MM} {i : Nat} (h : RUN (P_L_c48 L xs) RRl X) (hI : INV mm) (hi : i + 6 ≤ L) (hL : L ≤ 3072) (hk : ∀ M, INV M → X 6 (LSl i) [] M) : X 0 (LSl i) [] mm := by
  obtain ⟨p1, v, M, M', e1, p2, e2, hI2⟩ := LW_refusals hI 
  have e2 : Fn_X12_refusals M [vR 12 0] = (some (vI v), M') := e2
  refine h (fun k => Nat.beq k 2) 3000 0 _ _ _ ?_
  refine And.intro p1 ?_
  show X 2 (LSl i) ((Fn_X11_refusals mm [vR 11 0]).1.toList ++ []) (Fn_X11_refusals mm [vR 11 0]).2
  rw [e1]
  show X 2 (LSl i) [vI v] M
  refine h (fun k => Nat.beq k 4) 3000 2 _ _ _ ?_
  refine And.intro p2 ?_
  show X 4 (LSl i) ((Fn_X12_refusals M [vR 12 0]).1.toList ++ [vI v]) (Fn_X12_refusals M [vR 12 0]).2
  rw [e2]
  show X 4 (LSl i) [vI v, vI v] M'
  refine h (fun k => Nat.beq k 6) 3000 4 _ _ _ ?_
  refine br_t rfl ?_
  exact hk M' hI2
def P_L_c49 (L : Nat) (xs : Nat → Int32) : List StpT := [s_aload 1, s_aload 0, s_iload 3, s_ic (1), s_iadd, s_sca L xs, s_callV 11 1 Pre_X11_keep Fn_X11_keep, s_aload 2, s_aload 0, s_iload 3, s_ic (1), s_iadd, s_sca L xs, s_callV 12 1 Pre_X12_keep Fn_X12_keep, s_iceq 16]
def pc_L_c49 : Nat → Nat := fun i => [1826, 1827, 1828, 1829, 1830, 1831, 1832, 1835, 1836, 1837, 1838, 1839, 1840, 1841, 1844, 1847, 2157].getD i 0
def dl_L_c49 : List (Nat × Instr × Nat) := [(1826, .aload_n 1, 1), (1827, .aload_n 0, 1), (1828, .iload_n 3, 1), (1829, .iconst 1, 1), (1830, .iadd, 1), (1831, .iaload, 1), (1832, .invokevirtual 222, 3), (1835, .aload_n 2, 1), (1836, .aload_n 0, 1), (1837, .iload_n 3, 1), (1838, .iconst 1, 1), (1839, .iadd, 1), (1840, .iaload, 1), (1841, .invokevirtual 225, 3), (1844, .if_icmp .eq 313, 3)]
theorem dc_L_c49 : DEC code pc_L_c49 dl_L_c49 := DEC_of (by decide +kernel)
set_option maxRecDepth 8000 in
theorem cs_L_c49 {L : Nat} {xs : Nat → Int32} {X : KonT} {mm : MM} {i : Nat} (h : RUN (P_L_c49 L xs) RRl X) (hI : INV mm) (hi : i + 6 ≤ L) (hL : L ≤ 3072) (hk : ∀ M, INV M → X 16 (LSl i) [] M) : X 0 (LSl i) [] mm := by
  have b_1 : inb (nI i + 1) L = true := inb_law 1 hi hL (by decide)
  obtain ⟨p1, v, M, M', e1, p2, e2, hI2⟩ := LW_keep hI (xs (nI i + 1).toNatClampNeg)
  have e2 : Fn_X12_keep M [vR 12 0, vI (xs (nI i + 1).toNatClampNeg)] = (some (vI v), M') := e2
  refine h (fun k => Nat.beq k 7) 3000 0 _ _ _ ?_
  refine And.intro b_1 ?_
  refine And.intro p1 ?_
  show X 7 (LSl i) ((Fn_X11_keep mm [vR 11 0, vI (xs (nI i + 1).toNatClampNeg)]).1.toList ++ []) (Fn_X11_keep mm [vR 11 0, vI (xs (nI i + 1).toNatClampNeg)]).2
  rw [e1]
  show X 7 (LSl i) [vI v] M
  refine h (fun k => Nat.beq k 14) 3000 7 _ _ _ ?_
  refine And.intro b_1 ?_
  refine And.intro p2 ?_
  show X 14 (LSl i) ((Fn_X12_keep M [vR 12 0, vI (xs (nI i + 1).toNatClampNeg)]).1.toList ++ [vI v]) (Fn_X12_keep M [vR 12 0, vI (xs (nI i + 1).toNatClampNeg)]).2
  rw [e2]
  show X 14 (LSl i) [vI v, vI v] M'
  refine h (fun k => Nat.beq k 16) 3000 14 _ _ _ ?_
  refine br_t rfl ?_
  exact hk M' hI2
def P_L_c50 (L : Nat) (xs : Nat → Int32) : List StpT := [s_aload 1, s_aload 0, s_iload 3, s_ic (1), s_iadd, s_sca L xs, s_callV 11 1 Pre_X11_orders Fn_X11_orders, s_aload 2, s_aload 0, s_iload 3, s_ic (1), s_iadd, s_sca L xs, s_callV 12 1 Pre_X12_orders Fn_X12_orders, s_lcmp, s_ifeq 17]
def pc_L_c50 : Nat → Nat := fun i => [1849, 1850, 1851, 1852, 1853, 1854, 1855, 1858, 1859, 1860, 1861, 1862, 1863, 1864, 1867, 1868, 1871, 2157].getD i 0
def dl_L_c50 : List (Nat × Instr × Nat) := [(1849, .aload_n 1, 1), (1850, .aload_n 0, 1), (1851, .iload_n 3, 1), (1852, .iconst 1, 1), (1853, .iadd, 1), (1854, .iaload, 1), (1855, .invokevirtual 226, 3), (1858, .aload_n 2, 1), (1859, .aload_n 0, 1), (1860, .iload_n 3, 1), (1861, .iconst 1, 1), (1862, .iadd, 1), (1863, .iaload, 1), (1864, .invokevirtual 230, 3), (1867, .lcmp, 1), (1868, .ifCond .eq 289, 3)]
theorem dc_L_c50 : DEC code pc_L_c50 dl_L_c50 := DEC_of (by decide +kernel)
set_option maxRecDepth 8000 in
theorem cs_L_c50 {L : Nat} {xs : Nat → Int32} {X : KonT} {mm : MM} {i : Nat} (h : RUN (P_L_c50 L xs) RRl X) (hI : INV mm) (hi : i + 6 ≤ L) (hL : L ≤ 3072) (hk : ∀ M, INV M → X 17 (LSl i) [] M) : X 0 (LSl i) [] mm := by
  have b_1 : inb (nI i + 1) L = true := inb_law 1 hi hL (by decide)
  obtain ⟨p1, v, M, M', e1, p2, e2, hI2⟩ := LW_orders hI (xs (nI i + 1).toNatClampNeg)
  have e2 : Fn_X12_orders M [vR 12 0, vI (xs (nI i + 1).toNatClampNeg)] = (some (vL v), M') := e2
  refine h (fun k => Nat.beq k 7) 3000 0 _ _ _ ?_
  refine And.intro b_1 ?_
  refine And.intro p1 ?_
  show X 7 (LSl i) ((Fn_X11_orders mm [vR 11 0, vI (xs (nI i + 1).toNatClampNeg)]).1.toList ++ []) (Fn_X11_orders mm [vR 11 0, vI (xs (nI i + 1).toNatClampNeg)]).2
  rw [e1]
  show X 7 (LSl i) [vL v] M
  refine h (fun k => Nat.beq k 14) 3000 7 _ _ _ ?_
  refine And.intro b_1 ?_
  refine And.intro p2 ?_
  show X 14 (LSl i) ((Fn_X12_orders M [vR 12 0, vI (xs (nI i + 1).toNatClampNeg)]).1.toList ++ [vL v]) (Fn_X12_orders M [vR 12 0, vI (xs (nI i + 1).toNatClampNeg)]).2
  rw [e2]
  show X 14 (LSl i) [vL v, vL v] M'
  refine h (fun k => Nat.beq k 17) 3000 14 _ _ _ ?_
  refine br_t ((lg_cmp_eq _ _).mpr rfl) ?_
  exact hk M' hI2
def P_L_c51 (L : Nat) (xs : Nat → Int32) : List StpT := [s_aload 1, s_aload 0, s_iload 3, s_ic (1), s_iadd, s_sca L xs, s_aload 0, s_iload 3, s_ic (2), s_iadd, s_sca L xs, s_callV 11 2 Pre_X11_ends Fn_X11_ends, s_aload 2, s_aload 0, s_iload 3, s_ic (1), s_iadd, s_sca L xs, s_aload 0, s_iload 3, s_ic (2), s_iadd, s_sca L xs, s_callV 12 2 Pre_X12_ends Fn_X12_ends, s_iceq 26]
def pc_L_c51 : Nat → Nat := fun i => [1873, 1874, 1875, 1876, 1877, 1878, 1879, 1880, 1881, 1882, 1883, 1884, 1887, 1888, 1889, 1890, 1891, 1892, 1893, 1894, 1895, 1896, 1897, 1898, 1901, 1904, 2157].getD i 0
def dl_L_c51 : List (Nat × Instr × Nat) := [(1873, .aload_n 1, 1), (1874, .aload_n 0, 1), (1875, .iload_n 3, 1), (1876, .iconst 1, 1), (1877, .iadd, 1), (1878, .iaload, 1), (1879, .aload_n 0, 1), (1880, .iload_n 3, 1), (1881, .iconst 2, 1), (1882, .iadd, 1), (1883, .iaload, 1), (1884, .invokevirtual 231, 3), (1887, .aload_n 2, 1), (1888, .aload_n 0, 1), (1889, .iload_n 3, 1), (1890, .iconst 1, 1), (1891, .iadd, 1), (1892, .iaload, 1), (1893, .aload_n 0, 1), (1894, .iload_n 3, 1), (1895, .iconst 2, 1), (1896, .iadd, 1), (1897, .iaload, 1), (1898, .invokevirtual 234, 3), (1901, .if_icmp .eq 256, 3)]
theorem dc_L_c51 : DEC code pc_L_c51 dl_L_c51 := DEC_of (by decide +kernel)
set_option maxRecDepth 8000 in
theorem cs_L_c51 {L : Nat} {xs : Nat → Int32} {X : KonT} {mm : MM} {i : Nat} (h : RUN (P_L_c51 L xs) RRl X) (hI : INV mm) (hi : i + 6 ≤ L) (hL : L ≤ 3072) (hk : ∀ M, INV M → X 26 (LSl i) [] M) : X 0 (LSl i) [] mm := by
  have b_1 : inb (nI i + 1) L = true := inb_law 1 hi hL (by decide)
  have b_2 : inb (nI i + 2) L = true := inb_law 2 hi hL (by decide)
  obtain ⟨p1, v, M, M', e1, p2, e2, hI2⟩ := LW_ends hI (xs (nI i + 1).toNatClampNeg) (xs (nI i + 2).toNatClampNeg)
  have e2 : Fn_X12_ends M [vR 12 0, vI (xs (nI i + 1).toNatClampNeg), vI (xs (nI i + 2).toNatClampNeg)] = (some (vI v), M') := e2
  refine h (fun k => Nat.beq k 12) 3000 0 _ _ _ ?_
  refine And.intro b_1 ?_
  refine And.intro b_2 ?_
  refine And.intro p1 ?_
  show X 12 (LSl i) ((Fn_X11_ends mm [vR 11 0, vI (xs (nI i + 1).toNatClampNeg), vI (xs (nI i + 2).toNatClampNeg)]).1.toList ++ []) (Fn_X11_ends mm [vR 11 0, vI (xs (nI i + 1).toNatClampNeg), vI (xs (nI i + 2).toNatClampNeg)]).2
  rw [e1]
  show X 12 (LSl i) [vI v] M
  refine h (fun k => Nat.beq k 24) 3000 12 _ _ _ ?_
  refine And.intro b_1 ?_
  refine And.intro b_2 ?_
  refine And.intro p2 ?_
  show X 24 (LSl i) ((Fn_X12_ends M [vR 12 0, vI (xs (nI i + 1).toNatClampNeg), vI (xs (nI i + 2).toNatClampNeg)]).1.toList ++ [vI v]) (Fn_X12_ends M [vR 12 0, vI (xs (nI i + 1).toNatClampNeg), vI (xs (nI i + 2).toNatClampNeg)]).2
  rw [e2]
  show X 24 (LSl i) [vI v, vI v] M'
  refine h (fun k => Nat.beq k 26) 3000 24 _ _ _ ?_
  refine br_t rfl ?_
  exact hk M' hI2
def P_L_c52 (L : Nat) (xs : Nat → Int32) : List StpT := [s_aload 1, s_aload 0, s_iload 3, s_ic (1), s_iadd, s_sca L xs, s_callV 11 1 Pre_X11_needs Fn_X11_needs, s_aload 2, s_aload 0, s_iload 3, s_ic (1), s_iadd, s_sca L xs, s_callV 12 1 Pre_X12_needs Fn_X12_needs, s_iceq 16]
def pc_L_c52 : Nat → Nat := fun i => [1906, 1907, 1908, 1909, 1910, 1911, 1912, 1915, 1916, 1917, 1918, 1919, 1920, 1921, 1924, 1927, 2157].getD i 0
def dl_L_c52 : List (Nat × Instr × Nat) := [(1906, .aload_n 1, 1), (1907, .aload_n 0, 1), (1908, .iload_n 3, 1), (1909, .iconst 1, 1), (1910, .iadd, 1), (1911, .iaload, 1), (1912, .invokevirtual 235, 3), (1915, .aload_n 2, 1), (1916, .aload_n 0, 1), (1917, .iload_n 3, 1), (1918, .iconst 1, 1), (1919, .iadd, 1), (1920, .iaload, 1), (1921, .invokevirtual 238, 3), (1924, .if_icmp .eq 233, 3)]
theorem dc_L_c52 : DEC code pc_L_c52 dl_L_c52 := DEC_of (by decide +kernel)
set_option maxRecDepth 8000 in
theorem cs_L_c52 {L : Nat} {xs : Nat → Int32} {X : KonT} {mm : MM} {i : Nat} (h : RUN (P_L_c52 L xs) RRl X) (hI : INV mm) (hi : i + 6 ≤ L) (hL : L ≤ 3072) (hk : ∀ M, INV M → X 16 (LSl i) [] M) : X 0 (LSl i) [] mm := by
  have b_1 : inb (nI i + 1) L = true := inb_law 1 hi hL (by decide)
  obtain ⟨p1, v, M, M', e1, p2, e2, hI2⟩ := LW_needs hI (xs (nI i + 1).toNatClampNeg)
  have e2 : Fn_X12_needs M [vR 12 0, vI (xs (nI i + 1).toNatClampNeg)] = (some (vI v), M') := e2
  refine h (fun k => Nat.beq k 7) 3000 0 _ _ _ ?_
  refine And.intro b_1 ?_
  refine And.intro p1 ?_
  show X 7 (LSl i) ((Fn_X11_needs mm [vR 11 0, vI (xs (nI i + 1).toNatClampNeg)]).1.toList ++ []) (Fn_X11_needs mm [vR 11 0, vI (xs (nI i + 1).toNatClampNeg)]).2
  rw [e1]
  show X 7 (LSl i) [vI v] M
  refine h (fun k => Nat.beq k 14) 3000 7 _ _ _ ?_
  refine And.intro b_1 ?_
  refine And.intro p2 ?_
  show X 14 (LSl i) ((Fn_X12_needs M [vR 12 0, vI (xs (nI i + 1).toNatClampNeg)]).1.toList ++ [vI v]) (Fn_X12_needs M [vR 12 0, vI (xs (nI i + 1).toNatClampNeg)]).2
  rw [e2]
  show X 14 (LSl i) [vI v, vI v] M'
  refine h (fun k => Nat.beq k 16) 3000 14 _ _ _ ?_
  refine br_t rfl ?_
  exact hk M' hI2
def P_L_c53 (L : Nat) (xs : Nat → Int32) : List StpT := [s_aload 1, s_aload 0, s_iload 3, s_ic (1), s_iadd, s_sca L xs, s_callV 11 1 Pre_X11_never Fn_X11_never, s_aload 2, s_aload 0, s_iload 3, s_ic (1), s_iadd, s_sca L xs, s_callV 12 1 Pre_X12_never Fn_X12_never, s_iceq 16]
def pc_L_c53 : Nat → Nat := fun i => [1929, 1930, 1931, 1932, 1933, 1934, 1935, 1938, 1939, 1940, 1941, 1942, 1943, 1944, 1947, 1950, 2157].getD i 0
def dl_L_c53 : List (Nat × Instr × Nat) := [(1929, .aload_n 1, 1), (1930, .aload_n 0, 1), (1931, .iload_n 3, 1), (1932, .iconst 1, 1), (1933, .iadd, 1), (1934, .iaload, 1), (1935, .invokevirtual 239, 3), (1938, .aload_n 2, 1), (1939, .aload_n 0, 1), (1940, .iload_n 3, 1), (1941, .iconst 1, 1), (1942, .iadd, 1), (1943, .iaload, 1), (1944, .invokevirtual 242, 3), (1947, .if_icmp .eq 210, 3)]
theorem dc_L_c53 : DEC code pc_L_c53 dl_L_c53 := DEC_of (by decide +kernel)
set_option maxRecDepth 8000 in
theorem cs_L_c53 {L : Nat} {xs : Nat → Int32} {X : KonT} {mm : MM} {i : Nat} (h : RUN (P_L_c53 L xs) RRl X) (hI : INV mm) (hi : i + 6 ≤ L) (hL : L ≤ 3072) (hk : ∀ M, INV M → X 16 (LSl i) [] M) : X 0 (LSl i) [] mm := by
  have b_1 : inb (nI i + 1) L = true := inb_law 1 hi hL (by decide)
  obtain ⟨p1, v, M, M', e1, p2, e2, hI2⟩ := LW_never hI (xs (nI i + 1).toNatClampNeg)
  have e2 : Fn_X12_never M [vR 12 0, vI (xs (nI i + 1).toNatClampNeg)] = (some (vI v), M') := e2
  refine h (fun k => Nat.beq k 7) 3000 0 _ _ _ ?_
  refine And.intro b_1 ?_
  refine And.intro p1 ?_
  show X 7 (LSl i) ((Fn_X11_never mm [vR 11 0, vI (xs (nI i + 1).toNatClampNeg)]).1.toList ++ []) (Fn_X11_never mm [vR 11 0, vI (xs (nI i + 1).toNatClampNeg)]).2
  rw [e1]
  show X 7 (LSl i) [vI v] M
  refine h (fun k => Nat.beq k 14) 3000 7 _ _ _ ?_
  refine And.intro b_1 ?_
  refine And.intro p2 ?_
  show X 14 (LSl i) ((Fn_X12_never M [vR 12 0, vI (xs (nI i + 1).toNatClampNeg)]).1.toList ++ [vI v]) (Fn_X12_never M [vR 12 0, vI (xs (nI i + 1).toNatClampNeg)]).2
  rw [e2]
  show X 14 (LSl i) [vI v, vI v] M'
  refine h (fun k => Nat.beq k 16) 3000 14 _ _ _ ?_
  refine br_t rfl ?_
  exact hk M' hI2
def P_L_c54 (L : Nat) (xs : Nat → Int32) : List StpT := [s_aload 1, s_aload 0, s_iload 3, s_ic (1), s_iadd, s_sca L xs, s_callV 11 1 Pre_X11_ways Fn_X11_ways, s_aload 2, s_aload 0, s_iload 3, s_ic (1), s_iadd, s_sca L xs, s_callV 12 1 Pre_X12_ways Fn_X12_ways, s_lcmp, s_ifeq 17]
def pc_L_c54 : Nat → Nat := fun i => [1952, 1953, 1954, 1955, 1956, 1957, 1958, 1961, 1962, 1963, 1964, 1965, 1966, 1967, 1970, 1971, 1974, 2157].getD i 0
def dl_L_c54 : List (Nat × Instr × Nat) := [(1952, .aload_n 1, 1), (1953, .aload_n 0, 1), (1954, .iload_n 3, 1), (1955, .iconst 1, 1), (1956, .iadd, 1), (1957, .iaload, 1), (1958, .invokevirtual 243, 3), (1961, .aload_n 2, 1), (1962, .aload_n 0, 1), (1963, .iload_n 3, 1), (1964, .iconst 1, 1), (1965, .iadd, 1), (1966, .iaload, 1), (1967, .invokevirtual 246, 3), (1970, .lcmp, 1), (1971, .ifCond .eq 186, 3)]
theorem dc_L_c54 : DEC code pc_L_c54 dl_L_c54 := DEC_of (by decide +kernel)
set_option maxRecDepth 8000 in
theorem cs_L_c54 {L : Nat} {xs : Nat → Int32} {X : KonT} {mm : MM} {i : Nat} (h : RUN (P_L_c54 L xs) RRl X) (hI : INV mm) (hi : i + 6 ≤ L) (hL : L ≤ 3072) (hk : ∀ M, INV M → X 17 (LSl i) [] M) : X 0 (LSl i) [] mm := by
  have b_1 : inb (nI i + 1) L = true := inb_law 1 hi hL (by decide)
  obtain ⟨p1, v, M, M', e1, p2, e2, hI2⟩ := LW_ways hI (xs (nI i + 1).toNatClampNeg)
  have e2 : Fn_X12_ways M [vR 12 0, vI (xs (nI i + 1).toNatClampNeg)] = (some (vL v), M') := e2
  refine h (fun k => Nat.beq k 7) 3000 0 _ _ _ ?_
  refine And.intro b_1 ?_
  refine And.intro p1 ?_
  show X 7 (LSl i) ((Fn_X11_ways mm [vR 11 0, vI (xs (nI i + 1).toNatClampNeg)]).1.toList ++ []) (Fn_X11_ways mm [vR 11 0, vI (xs (nI i + 1).toNatClampNeg)]).2
  rw [e1]
  show X 7 (LSl i) [vL v] M
  refine h (fun k => Nat.beq k 14) 3000 7 _ _ _ ?_
  refine And.intro b_1 ?_
  refine And.intro p2 ?_
  show X 14 (LSl i) ((Fn_X12_ways M [vR 12 0, vI (xs (nI i + 1).toNatClampNeg)]).1.toList ++ [vL v]) (Fn_X12_ways M [vR 12 0, vI (xs (nI i + 1).toNatClampNeg)]).2
  rw [e2]
  show X 14 (LSl i) [vL v, vL v] M'
  refine h (fun k => Nat.beq k 17) 3000 14 _ _ _ ?_
  refine br_t ((lg_cmp_eq _ _).mpr rfl) ?_
  exact hk M' hI2
def P_L_c55 (L : Nat) (xs : Nat → Int32) : List StpT := [s_aload 1, s_aload 0, s_iload 3, s_ic (1), s_iadd, s_sca L xs, s_aload 0, s_iload 3, s_ic (2), s_iadd, s_sca L xs, s_aload 0, s_iload 3, s_ic (3), s_iadd, s_sca L xs, s_callV 11 3 Pre_X11_lies Fn_X11_lies, s_aload 2, s_aload 0, s_iload 3, s_ic (1), s_iadd, s_sca L xs, s_aload 0, s_iload 3, s_ic (2), s_iadd, s_sca L xs, s_aload 0, s_iload 3, s_ic (3), s_iadd, s_sca L xs, s_callV 12 3 Pre_X12_lies Fn_X12_lies, s_iceq 36]
def pc_L_c55 : Nat → Nat := fun i => [1976, 1977, 1978, 1979, 1980, 1981, 1982, 1983, 1984, 1985, 1986, 1987, 1988, 1989, 1990, 1991, 1992, 1995, 1996, 1997, 1998, 1999, 2000, 2001, 2002, 2003, 2004, 2005, 2006, 2007, 2008, 2009, 2010, 2011, 2014, 2017, 2157].getD i 0
def dl_L_c55 : List (Nat × Instr × Nat) := [(1976, .aload_n 1, 1), (1977, .aload_n 0, 1), (1978, .iload_n 3, 1), (1979, .iconst 1, 1), (1980, .iadd, 1), (1981, .iaload, 1), (1982, .aload_n 0, 1), (1983, .iload_n 3, 1), (1984, .iconst 2, 1), (1985, .iadd, 1), (1986, .iaload, 1), (1987, .aload_n 0, 1), (1988, .iload_n 3, 1), (1989, .iconst 3, 1), (1990, .iadd, 1), (1991, .iaload, 1), (1992, .invokevirtual 247, 3), (1995, .aload_n 2, 1), (1996, .aload_n 0, 1), (1997, .iload_n 3, 1), (1998, .iconst 1, 1), (1999, .iadd, 1), (2000, .iaload, 1), (2001, .aload_n 0, 1), (2002, .iload_n 3, 1), (2003, .iconst 2, 1), (2004, .iadd, 1), (2005, .iaload, 1), (2006, .aload_n 0, 1), (2007, .iload_n 3, 1), (2008, .iconst 3, 1), (2009, .iadd, 1), (2010, .iaload, 1), (2011, .invokevirtual 250, 3), (2014, .if_icmp .eq 143, 3)]
theorem dc_L_c55 : DEC code pc_L_c55 dl_L_c55 := DEC_of (by decide +kernel)
set_option maxRecDepth 8000 in
theorem cs_L_c55 {L : Nat} {xs : Nat → Int32} {X : KonT} {mm : MM} {i : Nat} (h : RUN (P_L_c55 L xs) RRl X) (hI : INV mm) (hi : i + 6 ≤ L) (hL : L ≤ 3072) (hk : ∀ M, INV M → X 36 (LSl i) [] M) : X 0 (LSl i) [] mm := by
  have b_1 : inb (nI i + 1) L = true := inb_law 1 hi hL (by decide)
  have b_2 : inb (nI i + 2) L = true := inb_law 2 hi hL (by decide)
  have b_3 : inb (nI i + 3) L = true := inb_law 3 hi hL (by decide)
  obtain ⟨p1, v, M, M', e1, p2, e2, hI2⟩ := LW_lies hI (xs (nI i + 1).toNatClampNeg) (xs (nI i + 2).toNatClampNeg) (xs (nI i + 3).toNatClampNeg)
  have e2 : Fn_X12_lies M [vR 12 0, vI (xs (nI i + 1).toNatClampNeg), vI (xs (nI i + 2).toNatClampNeg), vI (xs (nI i + 3).toNatClampNeg)] = (some (vI v), M') := e2
  refine h (fun k => Nat.beq k 17) 3000 0 _ _ _ ?_
  refine And.intro b_1 ?_
  refine And.intro b_2 ?_
  refine And.intro b_3 ?_
  refine And.intro p1 ?_
  show X 17 (LSl i) ((Fn_X11_lies mm [vR 11 0, vI (xs (nI i + 1).toNatClampNeg), vI (xs (nI i + 2).toNatClampNeg), vI (xs (nI i + 3).toNatClampNeg)]).1.toList ++ []) (Fn_X11_lies mm [vR 11 0, vI (xs (nI i + 1).toNatClampNeg), vI (xs (nI i + 2).toNatClampNeg), vI (xs (nI i + 3).toNatClampNeg)]).2
  rw [e1]
  show X 17 (LSl i) [vI v] M
  refine h (fun k => Nat.beq k 34) 3000 17 _ _ _ ?_
  refine And.intro b_1 ?_
  refine And.intro b_2 ?_
  refine And.intro b_3 ?_
  refine And.intro p2 ?_
  show X 34 (LSl i) ((Fn_X12_lies M [vR 12 0, vI (xs (nI i + 1).toNatClampNeg), vI (xs (nI i + 2).toNatClampNeg), vI (xs (nI i + 3).toNatClampNeg)]).1.toList ++ [vI v]) (Fn_X12_lies M [vR 12 0, vI (xs (nI i + 1).toNatClampNeg), vI (xs (nI i + 2).toNatClampNeg), vI (xs (nI i + 3).toNatClampNeg)]).2
  rw [e2]
  show X 34 (LSl i) [vI v, vI v] M'
  refine h (fun k => Nat.beq k 36) 3000 34 _ _ _ ?_
  refine br_t rfl ?_
  exact hk M' hI2
def P_L_c56 (L : Nat) (xs : Nat → Int32) : List StpT := [s_aload 1, s_aload 0, s_iload 3, s_ic (1), s_iadd, s_sca L xs, s_callV 11 1 Pre_X11_cheats Fn_X11_cheats, s_aload 2, s_aload 0, s_iload 3, s_ic (1), s_iadd, s_sca L xs, s_callV 12 1 Pre_X12_cheats Fn_X12_cheats, s_iceq 16]
def pc_L_c56 : Nat → Nat := fun i => [2019, 2020, 2021, 2022, 2023, 2024, 2025, 2028, 2029, 2030, 2031, 2032, 2033, 2034, 2037, 2040, 2157].getD i 0
def dl_L_c56 : List (Nat × Instr × Nat) := [(2019, .aload_n 1, 1), (2020, .aload_n 0, 1), (2021, .iload_n 3, 1), (2022, .iconst 1, 1), (2023, .iadd, 1), (2024, .iaload, 1), (2025, .invokevirtual 251, 3), (2028, .aload_n 2, 1), (2029, .aload_n 0, 1), (2030, .iload_n 3, 1), (2031, .iconst 1, 1), (2032, .iadd, 1), (2033, .iaload, 1), (2034, .invokevirtual 254, 3), (2037, .if_icmp .eq 120, 3)]
theorem dc_L_c56 : DEC code pc_L_c56 dl_L_c56 := DEC_of (by decide +kernel)
set_option maxRecDepth 8000 in
theorem cs_L_c56 {L : Nat} {xs : Nat → Int32} {X : KonT} {mm : MM} {i : Nat} (h : RUN (P_L_c56 L xs) RRl X) (hI : INV mm) (hi : i + 6 ≤ L) (hL : L ≤ 3072) (hk : ∀ M, INV M → X 16 (LSl i) [] M) : X 0 (LSl i) [] mm := by
  have b_1 : inb (nI i + 1) L = true := inb_law 1 hi hL (by decide)
  obtain ⟨p1, v, M, M', e1, p2, e2, hI2⟩ := LW_cheats hI (xs (nI i + 1).toNatClampNeg)
  have e2 : Fn_X12_cheats M [vR 12 0, vI (xs (nI i + 1).toNatClampNeg)] = (some (vI v), M') := e2
  refine h (fun k => Nat.beq k 7) 3000 0 _ _ _ ?_
  refine And.intro b_1 ?_
  refine And.intro p1 ?_
  show X 7 (LSl i) ((Fn_X11_cheats mm [vR 11 0, vI (xs (nI i + 1).toNatClampNeg)]).1.toList ++ []) (Fn_X11_cheats mm [vR 11 0, vI (xs (nI i + 1).toNatClampNeg)]).2
  rw [e1]
  show X 7 (LSl i) [vI v] M
  refine h (fun k => Nat.beq k 14) 3000 7 _ _ _ ?_
  refine And.intro b_1 ?_
  refine And.intro p2 ?_
  show X 14 (LSl i) ((Fn_X12_cheats M [vR 12 0, vI (xs (nI i + 1).toNatClampNeg)]).1.toList ++ [vI v]) (Fn_X12_cheats M [vR 12 0, vI (xs (nI i + 1).toNatClampNeg)]).2
  rw [e2]
  show X 14 (LSl i) [vI v, vI v] M'
  refine h (fun k => Nat.beq k 16) 3000 14 _ _ _ ?_
  refine br_t rfl ?_
  exact hk M' hI2
def P_L_c57 (L : Nat) (xs : Nat → Int32) : List StpT := [s_aload 1, s_aload 0, s_iload 3, s_ic (1), s_iadd, s_sca L xs, s_callV 11 1 Pre_X11_live Fn_X11_live, s_aload 2, s_aload 0, s_iload 3, s_ic (1), s_iadd, s_sca L xs, s_callV 12 1 Pre_X12_live Fn_X12_live, s_iceq 16]
def pc_L_c57 : Nat → Nat := fun i => [2042, 2043, 2044, 2045, 2046, 2047, 2048, 2051, 2052, 2053, 2054, 2055, 2056, 2057, 2060, 2063, 2157].getD i 0
def dl_L_c57 : List (Nat × Instr × Nat) := [(2042, .aload_n 1, 1), (2043, .aload_n 0, 1), (2044, .iload_n 3, 1), (2045, .iconst 1, 1), (2046, .iadd, 1), (2047, .iaload, 1), (2048, .invokevirtual 255, 3), (2051, .aload_n 2, 1), (2052, .aload_n 0, 1), (2053, .iload_n 3, 1), (2054, .iconst 1, 1), (2055, .iadd, 1), (2056, .iaload, 1), (2057, .invokevirtual 258, 3), (2060, .if_icmp .eq 97, 3)]
theorem dc_L_c57 : DEC code pc_L_c57 dl_L_c57 := DEC_of (by decide +kernel)
set_option maxRecDepth 8000 in
theorem cs_L_c57 {L : Nat} {xs : Nat → Int32} {X : KonT} {mm : MM} {i : Nat} (h : RUN (P_L_c57 L xs) RRl X) (hI : INV mm) (hi : i + 6 ≤ L) (hL : L ≤ 3072) (hk : ∀ M, INV M → X 16 (LSl i) [] M) : X 0 (LSl i) [] mm := by
  have b_1 : inb (nI i + 1) L = true := inb_law 1 hi hL (by decide)
  obtain ⟨p1, v, M, M', e1, p2, e2, hI2⟩ := LW_live hI (xs (nI i + 1).toNatClampNeg)
  have e2 : Fn_X12_live M [vR 12 0, vI (xs (nI i + 1).toNatClampNeg)] = (some (vI v), M') := e2
  refine h (fun k => Nat.beq k 7) 3000 0 _ _ _ ?_
  refine And.intro b_1 ?_
  refine And.intro p1 ?_
  show X 7 (LSl i) ((Fn_X11_live mm [vR 11 0, vI (xs (nI i + 1).toNatClampNeg)]).1.toList ++ []) (Fn_X11_live mm [vR 11 0, vI (xs (nI i + 1).toNatClampNeg)]).2
  rw [e1]
  show X 7 (LSl i) [vI v] M
  refine h (fun k => Nat.beq k 14) 3000 7 _ _ _ ?_
  refine And.intro b_1 ?_
  refine And.intro p2 ?_
  show X 14 (LSl i) ((Fn_X12_live M [vR 12 0, vI (xs (nI i + 1).toNatClampNeg)]).1.toList ++ [vI v]) (Fn_X12_live M [vR 12 0, vI (xs (nI i + 1).toNatClampNeg)]).2
  rw [e2]
  show X 14 (LSl i) [vI v, vI v] M'
  refine h (fun k => Nat.beq k 16) 3000 14 _ _ _ ?_
  refine br_t rfl ?_
  exact hk M' hI2
def P_L_c58 (L : Nat) (xs : Nat → Int32) : List StpT := [s_aload 1, s_aload 0, s_iload 3, s_ic (1), s_iadd, s_sca L xs, s_callV 11 1 Pre_X11_lived Fn_X11_lived, s_aload 2, s_aload 0, s_iload 3, s_ic (1), s_iadd, s_sca L xs, s_callV 12 1 Pre_X12_lived Fn_X12_lived, s_iceq 16]
def pc_L_c58 : Nat → Nat := fun i => [2065, 2066, 2067, 2068, 2069, 2070, 2071, 2074, 2075, 2076, 2077, 2078, 2079, 2080, 2083, 2086, 2157].getD i 0
def dl_L_c58 : List (Nat × Instr × Nat) := [(2065, .aload_n 1, 1), (2066, .aload_n 0, 1), (2067, .iload_n 3, 1), (2068, .iconst 1, 1), (2069, .iadd, 1), (2070, .iaload, 1), (2071, .invokevirtual 259, 3), (2074, .aload_n 2, 1), (2075, .aload_n 0, 1), (2076, .iload_n 3, 1), (2077, .iconst 1, 1), (2078, .iadd, 1), (2079, .iaload, 1), (2080, .invokevirtual 262, 3), (2083, .if_icmp .eq 74, 3)]
theorem dc_L_c58 : DEC code pc_L_c58 dl_L_c58 := DEC_of (by decide +kernel)
set_option maxRecDepth 8000 in
theorem cs_L_c58 {L : Nat} {xs : Nat → Int32} {X : KonT} {mm : MM} {i : Nat} (h : RUN (P_L_c58 L xs) RRl X) (hI : INV mm) (hi : i + 6 ≤ L) (hL : L ≤ 3072) (hk : ∀ M, INV M → X 16 (LSl i) [] M) : X 0 (LSl i) [] mm := by
  have b_1 : inb (nI i + 1) L = true := inb_law 1 hi hL (by decide)
  obtain ⟨p1, v, M, M', e1, p2, e2, hI2⟩ := LW_lived hI (xs (nI i + 1).toNatClampNeg)
  have e2 : Fn_X12_lived M [vR 12 0, vI (xs (nI i + 1).toNatClampNeg)] = (some (vI v), M') := e2
  refine h (fun k => Nat.beq k 7) 3000 0 _ _ _ ?_
  refine And.intro b_1 ?_
  refine And.intro p1 ?_
  show X 7 (LSl i) ((Fn_X11_lived mm [vR 11 0, vI (xs (nI i + 1).toNatClampNeg)]).1.toList ++ []) (Fn_X11_lived mm [vR 11 0, vI (xs (nI i + 1).toNatClampNeg)]).2
  rw [e1]
  show X 7 (LSl i) [vI v] M
  refine h (fun k => Nat.beq k 14) 3000 7 _ _ _ ?_
  refine And.intro b_1 ?_
  refine And.intro p2 ?_
  show X 14 (LSl i) ((Fn_X12_lived M [vR 12 0, vI (xs (nI i + 1).toNatClampNeg)]).1.toList ++ [vI v]) (Fn_X12_lived M [vR 12 0, vI (xs (nI i + 1).toNatClampNeg)]).2
  rw [e2]
  show X 14 (LSl i) [vI v, vI v] M'
  refine h (fun k => Nat.beq k 16) 3000 14 _ _ _ ?_
  refine br_t rfl ?_
  exact hk M' hI2
def P_L_c59 (L : Nat) (xs : Nat → Int32) : List StpT := [s_aload 1, s_aload 0, s_iload 3, s_ic (1), s_iadd, s_sca L xs, s_aload 0, s_iload 3, s_ic (2), s_iadd, s_sca L xs, s_aload 0, s_iload 3, s_ic (3), s_iadd, s_sca L xs, s_callV 11 3 Pre_X11_mean Fn_X11_mean, s_aload 2, s_aload 0, s_iload 3, s_ic (1), s_iadd, s_sca L xs, s_aload 0, s_iload 3, s_ic (2), s_iadd, s_sca L xs, s_aload 0, s_iload 3, s_ic (3), s_iadd, s_sca L xs, s_callV 12 3 Pre_X12_mean Fn_X12_mean, s_iceq 36]
def pc_L_c59 : Nat → Nat := fun i => [2088, 2089, 2090, 2091, 2092, 2093, 2094, 2095, 2096, 2097, 2098, 2099, 2100, 2101, 2102, 2103, 2104, 2107, 2108, 2109, 2110, 2111, 2112, 2113, 2114, 2115, 2116, 2117, 2118, 2119, 2120, 2121, 2122, 2123, 2126, 2129, 2157].getD i 0
def dl_L_c59 : List (Nat × Instr × Nat) := [(2088, .aload_n 1, 1), (2089, .aload_n 0, 1), (2090, .iload_n 3, 1), (2091, .iconst 1, 1), (2092, .iadd, 1), (2093, .iaload, 1), (2094, .aload_n 0, 1), (2095, .iload_n 3, 1), (2096, .iconst 2, 1), (2097, .iadd, 1), (2098, .iaload, 1), (2099, .aload_n 0, 1), (2100, .iload_n 3, 1), (2101, .iconst 3, 1), (2102, .iadd, 1), (2103, .iaload, 1), (2104, .invokevirtual 263, 3), (2107, .aload_n 2, 1), (2108, .aload_n 0, 1), (2109, .iload_n 3, 1), (2110, .iconst 1, 1), (2111, .iadd, 1), (2112, .iaload, 1), (2113, .aload_n 0, 1), (2114, .iload_n 3, 1), (2115, .iconst 2, 1), (2116, .iadd, 1), (2117, .iaload, 1), (2118, .aload_n 0, 1), (2119, .iload_n 3, 1), (2120, .iconst 3, 1), (2121, .iadd, 1), (2122, .iaload, 1), (2123, .invokevirtual 266, 3), (2126, .if_icmp .eq 31, 3)]
theorem dc_L_c59 : DEC code pc_L_c59 dl_L_c59 := DEC_of (by decide +kernel)
set_option maxRecDepth 8000 in
theorem cs_L_c59 {L : Nat} {xs : Nat → Int32} {X : KonT} {mm : MM} {i : Nat} (h : RUN (P_L_c59 L xs) RRl X) (hI : INV mm) (hi : i + 6 ≤ L) (hL : L ≤ 3072) (hk : ∀ M, INV M → X 36 (LSl i) [] M) : X 0 (LSl i) [] mm := by
  have b_1 : inb (nI i + 1) L = true := inb_law 1 hi hL (by decide)
  have b_2 : inb (nI i + 2) L = true := inb_law 2 hi hL (by decide)
  have b_3 : inb (nI i + 3) L = true := inb_law 3 hi hL (by decide)
  obtain ⟨p1, v, M, M', e1, p2, e2, hI2⟩ := LW_mean hI (xs (nI i + 1).toNatClampNeg) (xs (nI i + 2).toNatClampNeg) (xs (nI i + 3).toNatClampNeg)
  have e2 : Fn_X12_mean M [vR 12 0, vI (xs (nI i + 1).toNatClampNeg), vI (xs (nI i + 2).toNatClampNeg), vI (xs (nI i + 3).toNatClampNeg)] = (some (vI v), M') := e2
  refine h (fun k => Nat.beq k 17) 3000 0 _ _ _ ?_
  refine And.intro b_1 ?_
  refine And.intro b_2 ?_
  refine And.intro b_3 ?_
  refine And.intro p1 ?_
  show X 17 (LSl i) ((Fn_X11_mean mm [vR 11 0, vI (xs (nI i + 1).toNatClampNeg), vI (xs (nI i + 2).toNatClampNeg), vI (xs (nI i + 3).toNatClampNeg)]).1.toList ++ []) (Fn_X11_mean mm [vR 11 0, vI (xs (nI i + 1).toNatClampNeg), vI (xs (nI i + 2).toNatClampNeg), vI (xs (nI i + 3).toNatClampNeg)]).2
  rw [e1]
  show X 17 (LSl i) [vI v] M
  refine h (fun k => Nat.beq k 34) 3000 17 _ _ _ ?_
  refine And.intro b_1 ?_
  refine And.intro b_2 ?_
  refine And.intro b_3 ?_
  refine And.intro p2 ?_
  show X 34 (LSl i) ((Fn_X12_mean M [vR 12 0, vI (xs (nI i + 1).toNatClampNeg), vI (xs (nI i + 2).toNatClampNeg), vI (xs (nI i + 3).toNatClampNeg)]).1.toList ++ [vI v]) (Fn_X12_mean M [vR 12 0, vI (xs (nI i + 1).toNatClampNeg), vI (xs (nI i + 2).toNatClampNeg), vI (xs (nI i + 3).toNatClampNeg)]).2
  rw [e2]
  show X 34 (LSl i) [vI v, vI v] M'
  refine h (fun k => Nat.beq k 36) 3000 34 _ _ _ ?_
  refine br_t rfl ?_
  exact hk M' hI2
def P_L_c60 (L : Nat) (xs : Nat → Int32) : List StpT := [s_aload 1, s_callV 11 0 Pre_X11_mark Fn_X11_mark, s_aload 2, s_callV 12 0 Pre_X12_mark Fn_X12_mark, s_iceq 6]
def pc_L_c60 : Nat → Nat := fun i => [2131, 2132, 2135, 2136, 2139, 2142, 2157].getD i 0
def dl_L_c60 : List (Nat × Instr × Nat) := [(2131, .aload_n 1, 1), (2132, .invokevirtual 267, 3), (2135, .aload_n 2, 1), (2136, .invokevirtual 270, 3), (2139, .if_icmp .eq 18, 3)]
theorem dc_L_c60 : DEC code pc_L_c60 dl_L_c60 := DEC_of (by decide +kernel)
set_option maxRecDepth 8000 in
theorem cs_L_c60 {L : Nat} {xs : Nat → Int32} {X : KonT} {mm : MM} {i : Nat} (h : RUN (P_L_c60 L xs) RRl X) (hI : INV mm) (hi : i + 6 ≤ L) (hL : L ≤ 3072) (hk : ∀ M, INV M → X 6 (LSl i) [] M) : X 0 (LSl i) [] mm := by
  obtain ⟨p1, v, M, M', e1, p2, e2, hI2⟩ := LW_mark hI 
  have e2 : Fn_X12_mark M [vR 12 0] = (some (vI v), M') := e2
  refine h (fun k => Nat.beq k 2) 3000 0 _ _ _ ?_
  refine And.intro p1 ?_
  show X 2 (LSl i) ((Fn_X11_mark mm [vR 11 0]).1.toList ++ []) (Fn_X11_mark mm [vR 11 0]).2
  rw [e1]
  show X 2 (LSl i) [vI v] M
  refine h (fun k => Nat.beq k 4) 3000 2 _ _ _ ?_
  refine And.intro p2 ?_
  show X 4 (LSl i) ((Fn_X12_mark M [vR 12 0]).1.toList ++ [vI v]) (Fn_X12_mark M [vR 12 0]).2
  rw [e2]
  show X 4 (LSl i) [vI v, vI v] M'
  refine h (fun k => Nat.beq k 6) 3000 4 _ _ _ ?_
  refine br_t rfl ?_
  exact hk M' hI2
def P_L_c61 (L : Nat) (xs : Nat → Int32) : List StpT := [s_aload 1, s_callV 11 0 Pre_X11_undo Fn_X11_undo, s_aload 2, s_callV 12 0 Pre_X12_undo Fn_X12_undo, s_iceq 6]
def pc_L_c61 : Nat → Nat := fun i => [2144, 2145, 2148, 2149, 2152, 2155, 2157].getD i 0
def dl_L_c61 : List (Nat × Instr × Nat) := [(2144, .aload_n 1, 1), (2145, .invokevirtual 271, 3), (2148, .aload_n 2, 1), (2149, .invokevirtual 274, 3), (2152, .if_icmp .eq 5, 3)]
theorem dc_L_c61 : DEC code pc_L_c61 dl_L_c61 := DEC_of (by decide +kernel)
set_option maxRecDepth 8000 in
theorem cs_L_c61 {L : Nat} {xs : Nat → Int32} {X : KonT} {mm : MM} {i : Nat} (h : RUN (P_L_c61 L xs) RRl X) (hI : INV mm) (hi : i + 6 ≤ L) (hL : L ≤ 3072) (hk : ∀ M, INV M → X 6 (LSl i) [] M) : X 0 (LSl i) [] mm := by
  obtain ⟨p1, v, M, M', e1, p2, e2, hI2⟩ := LW_undo hI 
  have e2 : Fn_X12_undo M [vR 12 0] = (some (vI v), M') := e2
  refine h (fun k => Nat.beq k 2) 3000 0 _ _ _ ?_
  refine And.intro p1 ?_
  show X 2 (LSl i) ((Fn_X11_undo mm [vR 11 0]).1.toList ++ []) (Fn_X11_undo mm [vR 11 0]).2
  rw [e1]
  show X 2 (LSl i) [vI v] M
  refine h (fun k => Nat.beq k 4) 3000 2 _ _ _ ?_
  refine And.intro p2 ?_
  show X 4 (LSl i) ((Fn_X12_undo M [vR 12 0]).1.toList ++ [vI v]) (Fn_X12_undo M [vR 12 0]).2
  rw [e2]
  show X 4 (LSl i) [vI v, vI v] M'
  refine h (fun k => Nat.beq k 6) 3000 4 _ _ _ ?_
  refine br_t rfl ?_
  exact hk M' hI2

end
