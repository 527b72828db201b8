/-! PART 43: the model: parts of a valley's text -/

/-- TOKEN and counts while a text is read -/
def PJ (m : MM) (ns nm nt : Nat) : Prop := TXo m ∧ (m.1 54 0 2040 = nI ns ∧ ns ≤ 4) ∧ (m.1 54 0 2041 = nI nm ∧ nm ≤ 4) ∧ (m.1 54 0 2042 = nI nt ∧ nt ≤ 12)
theorem PJ_mk {m m' : MM} {ns nm nt : Nat} (h : PJ m ns nm nt) (hT : TXo m') (h54 : ∀ j, j < 2043 → m'.1 54 0 j = m.1 54 0 j) : PJ m' ns nm nt :=
  ⟨hT, ⟨by rw [h54 _ (by decide)]; exact h.2.1.1, h.2.1.2⟩, ⟨by rw [h54 _ (by decide)]; exact h.2.2.1.1, h.2.2.1.2⟩, ⟨by rw [h54 _ (by decide)]; exact h.2.2.2.1, h.2.2.2.2⟩⟩
theorem PJ_cn {m : MM} {ns nm nt : Nat} (h : PJ m ns nm nt) : CNo m := ⟨ns, nm, nt, h.2.1.1, h.2.1.2, h.2.2.1.1, h.2.2.1.2, h.2.2.2.1, h.2.2.2.2⟩
theorem PJ_at {m : MM} {ns nm nt j : Nat} {x : Int32} (h : PJ m ns nm nt) (hj : 2043 ≤ j) : PJ (mI m 54 0 j x) ns nm nt :=
  PJ_mk h h.1 (fun i hi => upd_ne (by omega))
theorem PJ_12 {m : MM} {ns nm nt : Nat} {x : Int32} (h : PJ m ns nm nt) : PJ (mI m 12 0 20 x) ns nm nt := PJ_mk h h.1 (fun _ _ => rfl)
theorem PJ_ah {m : MM} {ns nm nt : Nat} (h : PJ m ns nm nt) : PJ (ahM m) ns nm nt := PJ_mk h (TXo_ah h.1) (fun _ _ => rfl)
theorem fa54 (m : MM) (k : Int32) : (faM m k).1 54 0 = m.1 54 0 := by
  unfold faM mite
  split <;> rfl
theorem PJ_fa {m : MM} {ns nm nt : Nat} {k : Int32} (h : PJ m ns nm nt) : PJ (faM m k) ns nm nt := PJ_mk h (TXo_fa h.1) (fun _ _ => by rw [fa54])
theorem PJ_sg {m : MM} {ns nm nt : Nat} {c : Int32} (h : PJ m ns nm nt) : PJ (pSg m c).2 ns nm nt := by
  unfold pSg
  split
  · exact PJ_ah h
  · exact PJ_fa h
theorem PJ_ww {m : MM} {ns nm nt : Nat} {c : Int32} (h : PJ m ns nm nt) : PJ (pWW m c).2 ns nm nt := by
  unfold pWW
  split
  · exact PJ_ah h
  · exact PJ_fa h
theorem PJ_th {m : MM} {ns nm nt : Nat} {c : Int32} (h : PJ m ns nm nt) : PJ (pTh m c).2 ns nm nt := by
  unfold pTh
  split
  · exact PJ_ah h
  · exact h
theorem PJ_nu {m : MM} {ns nm nt t : Nat} {lo hi : Int32} (h : PJ m ns nm nt) (ht : 2043 ≤ t) : PJ (pNu m t lo hi).2 ns nm nt := by
  unfold pNu
  split
  · split
    · exact PJ_fa h
    · exact PJ_ah (PJ_at h ht)
  · exact PJ_fa h
theorem PJ_ol {m : MM} {ns nm nt b c t : Nat} (h : PJ m ns nm nt) (ht : 2043 ≤ t) : PJ (pOl m b c t).2 ns nm nt := by
  unfold pOl
  split
  · split
    · exact PJ_fa (PJ_at h ht)
    · exact PJ_ah (PJ_at h ht)
  · exact PJ_fa h
theorem PJ_55 {m : MM} {ns nm nt : Nat} {f : Nat → Int64} (h : PJ m ns nm nt) : PJ (mRowL m 55 0 f) ns nm nt := h
theorem PJ_nw {m : MM} {ns nm nt q k : Nat} {most : Int32} (h : PJ m ns nm nt) : PJ (pNw m q most k).2 ns nm nt := by
  unfold pNw
  split
  · exact PJ_fa h
  split
  · split
    · exact PJ_ah (PJ_55 (PJ_ah h))
    · exact PJ_fa (PJ_ah h)
  · exact PJ_fa (PJ_ah h)
/-- one part behind the other -/
def pBd (p : PR) (q : MM → PR) : PR := if p.1 = true then q p.2 else (false, p.2)
theorem pBd_t {p : PR} {q : MM → PR} (h : p.1 = true) : pBd p q = q p.2 := if_pos h
theorem pBd_f {p : PR} {q : MM → PR} (h : ¬ p.1 = true) : pBd p q = (false, p.2) := if_neg h
/-- a number behind a word that may be left out -/
def pOp (m : MM) (k : Int32) (t : Nat) (lo hi : Int32) : PR := if (pTh m k).1 = true then pNu (pTh m k).2 t lo hi else (true, (pTh m k).2)
theorem pOp_t {m : MM} {k lo hi : Int32} {t : Nat} (h : (pTh m k).1 = true) : pOp m k t lo hi = pNu (pTh m k).2 t lo hi := if_pos h
theorem pOp_f {m : MM} {k lo hi : Int32} {t : Nat} (h : ¬ (pTh m k).1 = true) : pOp m k t lo hi = (true, (pTh m k).2) := if_neg h
theorem PJ_op {m : MM} {ns nm nt t : Nat} {k lo hi : Int32} (h : PJ m ns nm nt) (ht : 2043 ≤ t) : PJ (pOp m k t lo hi).2 ns nm nt := by
  unfold pOp
  split
  · exact PJ_nu (PJ_th h) ht
  · exact PJ_th h
def RT (p : PR) : RetP := fun r m' => (r, m') = (some (vI (bI (p.1 = true))), p.2)
def suC (m : MM) : PR := (true, mI m 54 0 2040 (m.1 54 0 2040 + 1))
def suB (s : Nat) (m : MM) : PR := pBd (pOp m 9 (s + 1) 0 99) suC
def suA (s : Nat) (m : MM) : PR := pBd (pOp (mI (mI m 54 0 s 20) 54 0 (s + 3) (-1)) 8 s 0 99) (suB s)
def pSu (m : MM) : PR := pBd (pNw m 0 4 0) (suA (2052 + 4 * (m.1 54 0 2040).toNatClampNeg))

--tpl ⟨_, _, _, (by assumption), rfl⟩ || bI ((pSu {m}).1 = true) || (pSu {m}).2
def Pre_X12_aSuitor : PreT := fun m as => ∃ ns nm nt, PJ m ns nm nt ∧ as = [vR 12 0]
def Fn_X12_aSuitor : FnT := fun m _ => (some (vI (bI ((pSu m).1 = true))), (pSu m).2)
abbrev y_X12_aSuitor : MethodName := ⟨"GivenUpModel", "aSuitor", "()Z"⟩
def P_X12_aSuitor : List StpT := [s_ic (2052), s_ic (4), s_aload 0, s_getR 12 0 54, s_ic (2040), s_iald, s_imul, s_iadd, s_istore 1, s_aload 0, s_ic (0), s_ic (4), s_ic (0), s_callV 12 3 Pre_X12_newOne Fn_X12_newOne, s_ifne 17, s_ic (0), s_zret, s_aload 0, s_getR 12 0 54, s_iload 1, s_ic (20), s_iast, s_aload 0, s_getR 12 0 54, s_iload 1, s_ic (3), s_iadd, s_ic (-1), s_iast, s_aload 0, s_ic (8), s_callV 12 1 Pre_X12_isThere Fn_X12_isThere, s_ifeq 39, s_aload 0, s_iload 1, s_ic (0), s_ic (99), s_callV 12 3 Pre_X12_number Fn_X12_number, s_ifeq 51, s_aload 0, s_ic (9), s_callV 12 1 Pre_X12_isThere Fn_X12_isThere, s_ifeq 53, s_aload 0, s_iload 1, s_ic (1), s_iadd, s_ic (0), s_ic (99), s_callV 12 3 Pre_X12_number Fn_X12_number, s_ifne 53, s_ic (0), s_zret, s_aload 0, s_getR 12 0 54, s_ic (2040), s_dup2, s_iald, s_ic (1), s_iadd, s_iast, s_ic (1), s_zret]
def pc_X12_aSuitor : Nat → Nat := fun i => [0, 3, 4, 5, 8, 11, 12, 13, 14, 15, 16, 17, 18, 19, 22, 25, 26, 27, 28, 31, 32, 34, 35, 36, 39, 40, 41, 42, 43, 44, 45, 47, 50, 53, 54, 55, 56, 58, 61, 64, 65, 67, 70, 73, 74, 75, 76, 77, 78, 80, 83, 86, 87, 88, 89, 92, 95, 96, 97, 98, 99, 100, 101].getD i 0
def dl_X12_aSuitor : List (Nat × Instr × Nat) := [(0, .sipush 2052, 3), (3, .iconst 4, 1), (4, .aload_n 0, 1), (5, .getfield 7, 3), (8, .sipush 2040, 3), (11, .iaload, 1), (12, .imul, 1), (13, .iadd, 1), (14, .istore_n 1, 1), (15, .aload_n 0, 1), (16, .iconst 0, 1), (17, .iconst 4, 1), (18, .iconst 0, 1), (19, .invokevirtual 189, 3), (22, .ifCond .ne 5, 3), (25, .iconst 0, 1), (26, .ireturn, 1), (27, .aload_n 0, 1), (28, .getfield 7, 3), (31, .iload_n 1, 1), (32, .bipush 20, 2), (34, .iastore, 1), (35, .aload_n 0, 1), (36, .getfield 7, 3), (39, .iload_n 1, 1), (40, .iconst 3, 1), (41, .iadd, 1), (42, .iconst (-1), 1), (43, .iastore, 1), (44, .aload_n 0, 1), (45, .bipush 8, 2), (47, .invokevirtual 193, 3), (50, .ifCond .eq 14, 3), (53, .aload_n 0, 1), (54, .iload_n 1, 1), (55, .iconst 0, 1), (56, .bipush 99, 2), (58, .invokevirtual 196, 3), (61, .ifCond .eq 25, 3), (64, .aload_n 0, 1), (65, .bipush 9, 2), (67, .invokevirtual 193, 3), (70, .ifCond .eq 18, 3), (73, .aload_n 0, 1), (74, .iload_n 1, 1), (75, .iconst 1, 1), (76, .iadd, 1), (77, .iconst 0, 1), (78, .bipush 99, 2), (80, .invokevirtual 196, 3), (83, .ifCond .ne 5, 3), (86, .iconst 0, 1), (87, .ireturn, 1), (88, .aload_n 0, 1), (89, .getfield 7, 3), (92, .sipush 2040, 3), (95, .dup2, 1), (96, .iaload, 1), (97, .iconst 1, 1), (98, .iadd, 1), (99, .iastore, 1), (100, .iconst 1, 1), (101, .ireturn, 1)]
theorem dc_X12_aSuitor : DEC prog_14_method_41_code pc_X12_aSuitor dl_X12_aSuitor := DEC_of (by decide +kernel)
abbrev rm_X12_aSuitor : Room := { frames := 8, cells := 0, slots := 0, locals := 176 }
set_option maxRecDepth 20000 in
theorem sa_X12_aSuitor (l : Launch) : SNDALL l prog_14_method_41_code "GivenUpModel" 2 (some .boolean) rm_X12_aSuitor P_X12_aSuitor pc_X12_aSuitor := fun p e s m args below meth c cells slots Q D dA ad A RR hC hR => by
  have hM := RTX_room (R := rm_X12_aSuitor) hR
  exact ⟨st_sipush hC (n := 0) (x := 2052) (dc_X12_aSuitor 0 (0, .sipush 2052, 3) rfl rfl) rfl (by decide),
    st_iconst hC (n := 1) (x := 4) (dc_X12_aSuitor 1 (3, .iconst 4, 1) rfl rfl) rfl (by decide),
    st_aload_n hC (n := 2) (k := 0) (dc_X12_aSuitor 2 (4, .aload_n 0, 1) rfl rfl) rfl rfl,
    st_getR hC (n := 3) (k := 12) (j := 0) (dc_X12_aSuitor 3 (5, .getfield 7, 3) rfl rfl) rfl clf_12 (by decide) rfl (by decide) wd_1552,
    st_sipush hC (n := 4) (x := 2040) (dc_X12_aSuitor 4 (8, .sipush 2040, 3) rfl rfl) rfl (by decide),
    st_iald hC (n := 5) (dc_X12_aSuitor 5 (11, .iaload, 1) rfl rfl) rfl,
    st_imul hC (n := 6) (dc_X12_aSuitor 6 (12, .imul, 1) rfl rfl) rfl,
    st_iadd hC (n := 7) (dc_X12_aSuitor 7 (13, .iadd, 1) rfl rfl) rfl,
    st_istore_n hC (n := 8) (k := 1) (dc_X12_aSuitor 8 (14, .istore_n 1, 1) rfl rfl) rfl rfl (by decide),
    st_aload_n hC (n := 9) (k := 0) (dc_X12_aSuitor 9 (15, .aload_n 0, 1) rfl rfl) rfl rfl,
    st_iconst hC (n := 10) (x := 0) (dc_X12_aSuitor 10 (16, .iconst 0, 1) rfl rfl) rfl (by decide),
    st_iconst hC (n := 11) (x := 4) (dc_X12_aSuitor 11 (17, .iconst 4, 1) rfl rfl) rfl (by decide),
    st_iconst hC (n := 12) (x := 0) (dc_X12_aSuitor 12 (18, .iconst 0, 1) rfl rfl) rfl (by decide),
    st_callV hC (n := 13) (k := 12) (na := 3) (con_X12_newOne l) (dc_X12_aSuitor 13 (19, .invokevirtual 189, 3) rfl rfl) rfl wd_1777 wd_160 (by decide) ⟨rfl, rfl, by decide, by decide⟩ hM wd_1774 wd_1776 wd_61 clf_12,
    st_ifne hC (n := 14) (dc_X12_aSuitor 14 (22, .ifCond .ne 5, 3) rfl rfl) rfl (by decide),
    st_iconst hC (n := 15) (x := 0) (dc_X12_aSuitor 15 (25, .iconst 0, 1) rfl rfl) rfl (by decide),
    st_zret hC (n := 16) hR (dc_X12_aSuitor 16 (26, .ireturn, 1) rfl rfl),
    st_aload_n hC (n := 17) (k := 0) (dc_X12_aSuitor 17 (27, .aload_n 0, 1) rfl rfl) rfl rfl,
    st_getR hC (n := 18) (k := 12) (j := 0) (dc_X12_aSuitor 18 (28, .getfield 7, 3) rfl rfl) rfl clf_12 (by decide) rfl (by decide) wd_1552,
    st_iload_n hC (n := 19) (k := 1) (dc_X12_aSuitor 19 (31, .iload_n 1, 1) rfl rfl) rfl rfl,
    st_bipush hC (n := 20) (x := 20) (dc_X12_aSuitor 20 (32, .bipush 20, 2) rfl rfl) rfl (by decide),
    st_iast hC (n := 21) (dc_X12_aSuitor 21 (34, .iastore, 1) rfl rfl) rfl,
    st_aload_n hC (n := 22) (k := 0) (dc_X12_aSuitor 22 (35, .aload_n 0, 1) rfl rfl) rfl rfl,
    st_getR hC (n := 23) (k := 12) (j := 0) (dc_X12_aSuitor 23 (36, .getfield 7, 3) rfl rfl) rfl clf_12 (by decide) rfl (by decide) wd_1552,
    st_iload_n hC (n := 24) (k := 1) (dc_X12_aSuitor 24 (39, .iload_n 1, 1) rfl rfl) rfl rfl,
    st_iconst hC (n := 25) (x := 3) (dc_X12_aSuitor 25 (40, .iconst 3, 1) rfl rfl) rfl (by decide),
    st_iadd hC (n := 26) (dc_X12_aSuitor 26 (41, .iadd, 1) rfl rfl) rfl,
    st_iconst hC (n := 27) (x := (-1)) (dc_X12_aSuitor 27 (42, .iconst (-1), 1) rfl rfl) rfl (by decide),
    st_iast hC (n := 28) (dc_X12_aSuitor 28 (43, .iastore, 1) rfl rfl) rfl,
    st_aload_n hC (n := 29) (k := 0) (dc_X12_aSuitor 29 (44, .aload_n 0, 1) rfl rfl) rfl rfl,
    st_bipush hC (n := 30) (x := 8) (dc_X12_aSuitor 30 (45, .bipush 8, 2) rfl rfl) rfl (by decide),
    st_callV hC (n := 31) (k := 12) (na := 1) (con_X12_isThere l) (dc_X12_aSuitor 31 (47, .invokevirtual 193, 3) rfl rfl) rfl wd_1797 wd_160 (by decide) ⟨rfl, rfl, by decide, by decide⟩ hM wd_1794 wd_1796 wd_66 clf_12,
    st_ifeq hC (n := 32) (dc_X12_aSuitor 32 (50, .ifCond .eq 14, 3) rfl rfl) rfl (by decide),
    st_aload_n hC (n := 33) (k := 0) (dc_X12_aSuitor 33 (53, .aload_n 0, 1) rfl rfl) rfl rfl,
    st_iload_n hC (n := 34) (k := 1) (dc_X12_aSuitor 34 (54, .iload_n 1, 1) rfl rfl) rfl rfl,
    st_iconst hC (n := 35) (x := 0) (dc_X12_aSuitor 35 (55, .iconst 0, 1) rfl rfl) rfl (by decide),
    st_bipush hC (n := 36) (x := 99) (dc_X12_aSuitor 36 (56, .bipush 99, 2) rfl rfl) rfl (by decide),
    st_callV hC (n := 37) (k := 12) (na := 3) (con_X12_number l) (dc_X12_aSuitor 37 (58, .invokevirtual 196, 3) rfl rfl) rfl wd_1801 wd_160 (by decide) ⟨rfl, rfl, by decide, by decide⟩ hM wd_1798 wd_1800 wd_67 clf_12,
    st_ifeq hC (n := 38) (dc_X12_aSuitor 38 (61, .ifCond .eq 25, 3) rfl rfl) rfl (by decide),
    st_aload_n hC (n := 39) (k := 0) (dc_X12_aSuitor 39 (64, .aload_n 0, 1) rfl rfl) rfl rfl,
    st_bipush hC (n := 40) (x := 9) (dc_X12_aSuitor 40 (65, .bipush 9, 2) rfl rfl) rfl (by decide),
    st_callV hC (n := 41) (k := 12) (na := 1) (con_X12_isThere l) (dc_X12_aSuitor 41 (67, .invokevirtual 193, 3) rfl rfl) rfl wd_1797 wd_160 (by decide) ⟨rfl, rfl, by decide, by decide⟩ hM wd_1794 wd_1796 wd_66 clf_12,
    st_ifeq hC (n := 42) (dc_X12_aSuitor 42 (70, .ifCond .eq 18, 3) rfl rfl) rfl (by decide),
    st_aload_n hC (n := 43) (k := 0) (dc_X12_aSuitor 43 (73, .aload_n 0, 1) rfl rfl) rfl rfl,
    st_iload_n hC (n := 44) (k := 1) (dc_X12_aSuitor 44 (74, .iload_n 1, 1) rfl rfl) rfl rfl,
    st_iconst hC (n := 45) (x := 1) (dc_X12_aSuitor 45 (75, .iconst 1, 1) rfl rfl) rfl (by decide),
    st_iadd hC (n := 46) (dc_X12_aSuitor 46 (76, .iadd, 1) rfl rfl) rfl,
    st_iconst hC (n := 47) (x := 0) (dc_X12_aSuitor 47 (77, .iconst 0, 1) rfl rfl) rfl (by decide),
    st_bipush hC (n := 48) (x := 99) (dc_X12_aSuitor 48 (78, .bipush 99, 2) rfl rfl) rfl (by decide),
    st_callV hC (n := 49) (k := 12) (na := 3) (con_X12_number l) (dc_X12_aSuitor 49 (80, .invokevirtual 196, 3) rfl rfl) rfl wd_1801 wd_160 (by decide) ⟨rfl, rfl, by decide, by decide⟩ hM wd_1798 wd_1800 wd_67 clf_12,
    st_ifne hC (n := 50) (dc_X12_aSuitor 50 (83, .ifCond .ne 5, 3) rfl rfl) rfl (by decide),
    st_iconst hC (n := 51) (x := 0) (dc_X12_aSuitor 51 (86, .iconst 0, 1) rfl rfl) rfl (by decide),
    st_zret hC (n := 52) hR (dc_X12_aSuitor 52 (87, .ireturn, 1) rfl rfl),
    st_aload_n hC (n := 53) (k := 0) (dc_X12_aSuitor 53 (88, .aload_n 0, 1) rfl rfl) rfl rfl,
    st_getR hC (n := 54) (k := 12) (j := 0) (dc_X12_aSuitor 54 (89, .getfield 7, 3) rfl rfl) rfl clf_12 (by decide) rfl (by decide) wd_1552,
    st_sipush hC (n := 55) (x := 2040) (dc_X12_aSuitor 55 (92, .sipush 2040, 3) rfl rfl) rfl (by decide),
    st_dup2 hC (n := 56) (dc_X12_aSuitor 56 (95, .dup2, 1) rfl rfl) rfl,
    st_iald hC (n := 57) (dc_X12_aSuitor 57 (96, .iaload, 1) rfl rfl) rfl,
    st_iconst hC (n := 58) (x := 1) (dc_X12_aSuitor 58 (97, .iconst 1, 1) rfl rfl) rfl (by decide),
    st_iadd hC (n := 59) (dc_X12_aSuitor 59 (98, .iadd, 1) rfl rfl) rfl,
    st_iast hC (n := 60) (dc_X12_aSuitor 60 (99, .iastore, 1) rfl rfl) rfl,
    st_iconst hC (n := 61) (x := 1) (dc_X12_aSuitor 61 (100, .iconst 1, 1) rfl rfl) rfl (by decide),
    st_zret hC (n := 62) hR (dc_X12_aSuitor 62 (101, .ireturn, 1) rfl rfl), trivial⟩
set_option maxRecDepth 8000 in
theorem vc_X12_aSuitor : VC P_X12_aSuitor 2 Pre_X12_aSuitor Fn_X12_aSuitor := by
  rintro mm as hom hoa ⟨ns, nm, nt, hJ, rfl⟩
  refine ⟨Nat.le_of_ble_eq_true rfl, fun X h => ?_⟩
  have h0 : mm.1 54 0 2040 = nI ns := hJ.2.1.1
  have hns : ns ≤ 4 := hJ.2.1.2
  obtain ⟨s, hs⟩ : ∃ s, s = 2052 + 4 * ns := ⟨_, rfl⟩
  have es : (nI s).toNatClampNeg = s := nI_clamp (by omega)
  have es1 : (nI s + 1).toNatClampNeg = s + 1 := by rw [nI_1]; exact nI_clamp (by omega)
  have es3 : (nI s + 3).toNatClampNeg = s + 3 := by rw [show (3 : Int32) = nI 3 from rfl, nI_add]; exact nI_clamp (by omega)
  have eS : 2052 + 4 * nI ns = nI s := by rw [hs]; simp (disch := omega) only [li, pk_mul, nI_add, nI_clamp]
  replace h : RUN P_X12_aSuitor (RT (pSu mm)) X := h
  have hp : pSu mm = pBd (pNw mm 0 4 0) (suA s) := by unfold pSu; rw [h0, nI_clamp (by omega), hs]
  rw [hp] at h
  clear hp
  have fin : ∀ M p, p = suC M → RUN P_X12_aSuitor (RT p) X → X 53 [some (vR 12 0), some (vI (nI s))] [] (M) := by
    intro M p hp h
    show X 53 [some (vR 12 0), some (vI (nI s))] [] M
    refine h (fun _ => false) 3000 53 _ _ _ ?_
    refine And.intro (show inb 2040 (alen 54) = true from rfl) ?_
    refine And.intro (show inb 2040 (alen 54) = true from rfl) ?_
    refine And.intro (Or.inr rfl) ?_
    show ((some (vI 1) : Option MV), mRow M 54 0 (upd (M.1 54 0) 2040 ((M.1 54 0 2040) + 1))) = _
    exact PR_t hp
  have s3 : ∀ M p, PJ M ns nm nt → p = suB s M → RUN P_X12_aSuitor (RT p) X → X 39 [some (vR 12 0), some (vI (nI s))] [] (M) := by
    intro M p hM hp h
    unfold suB at hp
    show X 39 [some (vR 12 0), some (vI (nI s))] [] M
    refine h (fun i => Nat.beq i 53) 3000 39 _ _ _ ?_
    refine And.intro (show Pre_X12_isThere M [vR 12 0, vI 9] from ⟨hM.1, _, rfl⟩) ?_
    refine br_c (fun b42 => ?_) (fun b42 => ?_)
    · -- 42: bI ((pTh M 9).1 = true) = 0 taken
      replace b42 : ¬ ((pTh M 9).1 = true) := bI_0.mp b42
      (try simp only [es1] at b42)
      show X 53 [some (vR 12 0), some (vI (nI s))] [] ((pTh M 9).2)
      (try simp only [es1])
      exact fin _ _ (by rw [hp, pOp_f b42, pBd_t rfl]) h
    · -- 42: bI ((pTh M 9).1 = true) = 0 on
      replace b42 : (pTh M 9).1 = true := bI_n0.mp b42
      (try simp only [es1] at b42)
      refine And.intro (show Pre_X12_number ((pTh M 9).2) [vR 12 0, vI ((nI s) + 1), vI 0, vI 99] from ⟨(PJ_th hM).1, s + 1, 0, 99, by omega, by rw [nI_1]⟩) ?_
      refine brn_c (fun b50 => ?_) (fun b50 => ?_)
      · -- 50: bI ((pNu ((pTh M 9).2) ((nI s) + 1).toNatClampNeg 0 99).1 = true) = 0 taken
        replace b50 : (pNu ((pTh M 9).2) ((nI s) + 1).toNatClampNeg 0 99).1 = true := bI_n0.mp b50
        (try simp only [es1] at b50)
        show X 53 [some (vR 12 0), some (vI (nI s))] [] ((pNu ((pTh M 9).2) ((nI s) + 1).toNatClampNeg 0 99).2)
        (try simp only [es1])
        exact fin _ _ (by rw [hp, pOp_t b42, pBd_t b50]) h
      · -- 50: bI ((pNu ((pTh M 9).2) ((nI s) + 1).toNatClampNeg 0 99).1 = true) = 0 on
        replace b50 : ¬ ((pNu ((pTh M 9).2) ((nI s) + 1).toNatClampNeg 0 99).1 = true) := bI_0.mp b50
        (try simp only [es1] at b50)
        refine And.intro (Or.inl rfl) ?_
        show ((some (vI 0) : Option MV), (pNu ((pTh M 9).2) ((nI s) + 1).toNatClampNeg 0 99).2) = _
        (try simp only [es1])
        exact PR_f (by rw [hp, pOp_t b42, pBd_f b50])
  have s2 : ∀ M p, PJ M ns nm nt → p = pBd (pOp M 8 s 0 99) (suB s) → RUN P_X12_aSuitor (RT p) X → X 29 [some (vR 12 0), some (vI (nI s))] [] (M) := by
    intro M p hM hp h
    show X 29 [some (vR 12 0), some (vI (nI s))] [] M
    refine h (fun i => Nat.beq i 39) 3000 29 _ _ _ ?_
    refine And.intro (show Pre_X12_isThere M [vR 12 0, vI 8] from ⟨hM.1, _, rfl⟩) ?_
    refine br_c (fun b32 => ?_) (fun b32 => ?_)
    · -- 32: bI ((pTh M 8).1 = true) = 0 taken
      replace b32 : ¬ ((pTh M 8).1 = true) := bI_0.mp b32
      (try simp only [es] at b32)
      show X 39 [some (vR 12 0), some (vI (nI s))] [] ((pTh M 8).2)
      (try simp only [es])
      exact s3 _ _ (PJ_th hM) (by rw [hp, pOp_f b32, pBd_t rfl]) h
    · -- 32: bI ((pTh M 8).1 = true) = 0 on
      replace b32 : (pTh M 8).1 = true := bI_n0.mp b32
      (try simp only [es] at b32)
      refine And.intro (show Pre_X12_number ((pTh M 8).2) [vR 12 0, vI (nI s), vI 0, vI 99] from ⟨(PJ_th hM).1, s, 0, 99, by omega, rfl⟩) ?_
      refine br_c (fun b38 => ?_) (fun b38 => ?_)
      · -- 38: bI ((pNu ((pTh M 8).2) (nI s).toNatClampNeg 0 99).1 = true) = 0 taken
        replace b38 : ¬ ((pNu ((pTh M 8).2) (nI s).toNatClampNeg 0 99).1 = true) := bI_0.mp b38
        (try simp only [es] at b38)
        refine And.intro (Or.inl rfl) ?_
        show ((some (vI 0) : Option MV), (pNu ((pTh M 8).2) (nI s).toNatClampNeg 0 99).2) = _
        (try simp only [es])
        exact PR_f (by rw [hp, pOp_t b32, pBd_f b38])
      · -- 38: bI ((pNu ((pTh M 8).2) (nI s).toNatClampNeg 0 99).1 = true) = 0 on
        replace b38 : (pNu ((pTh M 8).2) (nI s).toNatClampNeg 0 99).1 = true := bI_n0.mp b38
        (try simp only [es] at b38)
        show X 39 [some (vR 12 0), some (vI (nI s))] [] ((pNu ((pTh M 8).2) (nI s).toNatClampNeg 0 99).2)
        (try simp only [es])
        exact s3 _ _ (PJ_nu (PJ_th hM) (by omega)) (by rw [hp, pOp_t b32, pBd_t b38]) h
  have s1 : ∀ M p, PJ M ns nm nt → p = suA s M → RUN P_X12_aSuitor (RT p) X → X 17 [some (vR 12 0), some (vI (nI s))] [] (M) := by
    intro M p hM hp h
    show X 17 [some (vR 12 0), some (vI (nI s))] [] M
    refine h (fun i => Nat.beq i 29) 3000 17 _ _ _ ?_
    refine And.intro (show inb (nI s) (alen 54) = true from (inb_o 3060 rfl rfl rfl (by omega))) ?_
    refine And.intro (show inb ((nI s) + 3) (alen 54) = true from (inb_o 3060 rfl rfl (show nI s + 3 = nI (s + 3) by simp (disch := omega) only [li, pk_mul, nI_add, nI_clamp]) (by omega))) ?_
    show X 29 [some (vR 12 0), some (vI (nI s))] [] (mRow (mRow M 54 0 (upd (M.1 54 0) (nI s).toNatClampNeg 20)) 54 0 (upd (upd (M.1 54 0) (nI s).toNatClampNeg 20) ((nI s) + 3).toNatClampNeg (-1)))
    rw [es, es3]
    exact s2 _ _ (PJ_at (PJ_at hM (by omega)) (by omega)) hp h
  suffices z : X 9 [some (vR 12 0), some (vI (nI s))] [] mm by
    show X 0 [some (vR 12 0), none] [] mm
    refine h (fun i => Nat.beq i 9) 3000 0 _ _ _ ?_
    refine And.intro (show inb 2040 (alen 54) = true from rfl) ?_
    show X 9 [some (vR 12 0), some (vI (2052 + (4 * (mm.1 54 0 2040))))] [] mm
    rw [h0, eS]
    exact z
  show X 9 [some (vR 12 0), some (vI (nI s))] [] mm
  refine h (fun i => Nat.beq i 17) 3000 9 _ _ _ ?_
  refine And.intro (show Pre_X12_newOne mm [vR 12 0, vI 0, vI 4, vI 0] from ⟨hJ.1, PJ_cn hJ, Or.inl rfl⟩) ?_
  refine brn_c (fun b14 => ?_) (fun b14 => ?_)
  · -- 14: bI ((pNw mm 0 4 0).1 = true) = 0 taken
    replace b14 : (pNw mm 0 4 0).1 = true := bI_n0.mp b14
    show X 17 [some (vR 12 0), some (vI (nI s))] [] ((pNw mm 0 4 0).2)
    exact s1 _ _ (PJ_nw hJ) (pBd_t b14) h
  · -- 14: bI ((pNw mm 0 4 0).1 = true) = 0 on
    replace b14 : ¬ ((pNw mm 0 4 0).1 = true) := bI_0.mp b14
    refine And.intro (Or.inl rfl) ?_
    show ((some (vI 0) : Option MV), (pNw mm 0 4 0).2) = _
    exact PR_f (pBd_f b14)
theorem con_X12_aSuitor (l : Launch) : CON l y_X12_aSuitor prog_14_method_41_code 2 (some .boolean) rm_X12_aSuitor Pre_X12_aSuitor Fn_X12_aSuitor := CON_of (by decide) rfl rfl (sa_X12_aSuitor l) vc_X12_aSuitor
