/-! PART 45: the model: sayings, afters, likings, weekly, fair; a part; a valley's text -/

/-- a NAME told ahead that is taken: its number is one of those -/
theorem pOl_in {m : MM} {b c t : Nat} (h : (pOl m b c t).1 = true) : ∃ k, k < c ∧ (pOl m b c t).2.1 54 0 = upd (m.1 54 0) t (nI k) := by
  unfold pOl at h ⊢
  split
  · rename_i h1
    rw [if_pos h1] at h
    by_cases h2 : fhA m b c = -1
    · rw [if_pos h2] at h
      exact absurd h (show ¬ (false = true) from Bool.false_ne_true)
    · rw [if_neg h2]
      rcases fsI_in (fun k => m.2.1 55 0 (b + k) = nmV m) c 0 with ⟨e, -⟩ | ⟨k, -, hk, e, -⟩
      · exact absurd e h2
      · refine ⟨k, by omega, ?_⟩
        show upd (m.1 54 0) t (fhA m b c) = _
        rw [show fhA m b c = nI k from e]
  · rename_i h1
    rw [if_neg h1] at h
    exact absurd h (show ¬ (false = true) from Bool.false_ne_true)
theorem ww54 (m : MM) (c : Int32) : (pWW m c).2.1 54 0 = m.1 54 0 := by
  unfold pWW
  split
  · rfl
  · exact fa54 _ _
def syC (m : MM) : PR := pNu m (2120 + 4 * (m.1 54 0 2547).toNatClampNeg + (m.1 54 0 2548).toNatClampNeg) 0 99
def syB (m : MM) : PR := pBd (pOl m 84 (m.1 54 0 2041).toNatClampNeg 2548) syC
def syA1 (m : MM) : PR := pBd (pWW m 15) syB
def pSy (m : MM) : PR := pBd (pOl (ahM m) 88 (m.1 54 0 2042).toNatClampNeg 2547) syA1

--tpl ⟨_, _, _, (by assumption), rfl⟩ || bI ((pSy {m}).1 = true) || (pSy {m}).2
def Pre_X12_aSaying : PreT := fun m as => ∃ ns nm nt, PJ m ns nm nt ∧ as = [vR 12 0]
def Fn_X12_aSaying : FnT := fun m _ => (some (vI (bI ((pSy m).1 = true))), (pSy m).2)
abbrev y_X12_aSaying : MethodName := ⟨"GivenUpModel", "aSaying", "()Z"⟩
def P_X12_aSaying : List StpT := [s_ic (2547), s_istore 1, s_aload 0, s_callV 12 0 Pre_X12_ahead Fn_X12_ahead, s_aload 0, s_ic (88), s_aload 0, s_getR 12 0 54, s_ic (2042), s_iald, s_iload 1, s_callV 12 3 Pre_X12_oldOne Fn_X12_oldOne, s_ifeq 51, s_aload 0, s_ldS 1, s_ic (15), s_callV 12 2 Pre_X12_wantWord Fn_X12_wantWord, s_ifeq 51, s_aload 0, s_ic (84), s_aload 0, s_getR 12 0 54, s_ic (2041), s_iald, s_iload 1, s_ic (1), s_iadd, s_callV 12 3 Pre_X12_oldOne Fn_X12_oldOne, s_ifeq 51, s_aload 0, s_ic (2120), s_ic (4), s_aload 0, s_getR 12 0 54, s_iload 1, s_iald, s_imul, s_iadd, s_aload 0, s_getR 12 0 54, s_iload 1, s_ic (1), s_iadd, s_iald, s_iadd, s_ic (0), s_ic (99), s_callV 12 3 Pre_X12_number Fn_X12_number, s_ifeq 51, s_ic (1), s_goto 52, s_ic (0), s_zret]
def pc_X12_aSaying : Nat → Nat := fun i => [0, 3, 4, 5, 8, 9, 11, 12, 15, 18, 19, 20, 23, 26, 27, 29, 31, 34, 37, 38, 40, 41, 44, 47, 48, 49, 50, 51, 54, 57, 58, 61, 62, 63, 66, 67, 68, 69, 70, 71, 74, 75, 76, 77, 78, 79, 80, 82, 85, 88, 89, 92, 93].getD i 0
def dl_X12_aSaying : List (Nat × Instr × Nat) := [(0, .sipush 2547, 3), (3, .istore_n 1, 1), (4, .aload_n 0, 1), (5, .invokevirtual 163, 3), (8, .aload_n 0, 1), (9, .bipush 88, 2), (11, .aload_n 0, 1), (12, .getfield 7, 3), (15, .sipush 2042, 3), (18, .iaload, 1), (19, .iload_n 1, 1), (20, .invokevirtual 203, 3), (23, .ifCond .eq 69, 3), (26, .aload_n 0, 1), (27, .ldc 180, 2), (29, .bipush 15, 2), (31, .invokevirtual 199, 3), (34, .ifCond .eq 58, 3), (37, .aload_n 0, 1), (38, .bipush 84, 2), (40, .aload_n 0, 1), (41, .getfield 7, 3), (44, .sipush 2041, 3), (47, .iaload, 1), (48, .iload_n 1, 1), (49, .iconst 1, 1), (50, .iadd, 1), (51, .invokevirtual 203, 3), (54, .ifCond .eq 38, 3), (57, .aload_n 0, 1), (58, .sipush 2120, 3), (61, .iconst 4, 1), (62, .aload_n 0, 1), (63, .getfield 7, 3), (66, .iload_n 1, 1), (67, .iaload, 1), (68, .imul, 1), (69, .iadd, 1), (70, .aload_n 0, 1), (71, .getfield 7, 3), (74, .iload_n 1, 1), (75, .iconst 1, 1), (76, .iadd, 1), (77, .iaload, 1), (78, .iadd, 1), (79, .iconst 0, 1), (80, .bipush 99, 2), (82, .invokevirtual 196, 3), (85, .ifCond .eq 7, 3), (88, .iconst 1, 1), (89, .goto 4, 3), (92, .iconst 0, 1), (93, .ireturn, 1)]
theorem dc_X12_aSaying : DEC prog_14_method_44_code pc_X12_aSaying dl_X12_aSaying := DEC_of (by decide +kernel)
abbrev rm_X12_aSaying : Room := { frames := 8, cells := 0, slots := 0, locals := 176 }
set_option maxRecDepth 20000 in
theorem sa_X12_aSaying (l : Launch) : SNDALL l prog_14_method_44_code "GivenUpModel" 2 (some .boolean) rm_X12_aSaying P_X12_aSaying pc_X12_aSaying := fun p e s m args below meth c cells slots Q D dA ad A RR hC hR => by
  have hM := RTX_room (R := rm_X12_aSaying) hR
  exact ⟨st_sipush hC (n := 0) (x := 2547) (dc_X12_aSaying 0 (0, .sipush 2547, 3) rfl rfl) rfl (by decide),
    st_istore_n hC (n := 1) (k := 1) (dc_X12_aSaying 1 (3, .istore_n 1, 1) rfl rfl) rfl rfl (by decide),
    st_aload_n hC (n := 2) (k := 0) (dc_X12_aSaying 2 (4, .aload_n 0, 1) rfl rfl) rfl rfl,
    st_callV hC (n := 3) (k := 12) (na := 0) (con_X12_ahead l) (dc_X12_aSaying 3 (5, .invokevirtual 163, 3) rfl rfl) rfl wd_1742 wd_160 (by decide) ⟨rfl, rfl, by decide, by decide⟩ hM wd_1739 wd_1741 wd_55 clf_12,
    st_aload_n hC (n := 4) (k := 0) (dc_X12_aSaying 4 (8, .aload_n 0, 1) rfl rfl) rfl rfl,
    st_bipush hC (n := 5) (x := 88) (dc_X12_aSaying 5 (9, .bipush 88, 2) rfl rfl) rfl (by decide),
    st_aload_n hC (n := 6) (k := 0) (dc_X12_aSaying 6 (11, .aload_n 0, 1) rfl rfl) rfl rfl,
    st_getR hC (n := 7) (k := 12) (j := 0) (dc_X12_aSaying 7 (12, .getfield 7, 3) rfl rfl) rfl clf_12 (by decide) rfl (by decide) wd_1552,
    st_sipush hC (n := 8) (x := 2042) (dc_X12_aSaying 8 (15, .sipush 2042, 3) rfl rfl) rfl (by decide),
    st_iald hC (n := 9) (dc_X12_aSaying 9 (18, .iaload, 1) rfl rfl) rfl,
    st_iload_n hC (n := 10) (k := 1) (dc_X12_aSaying 10 (19, .iload_n 1, 1) rfl rfl) rfl rfl,
    st_callV hC (n := 11) (k := 12) (na := 3) (con_X12_oldOne l) (dc_X12_aSaying 11 (20, .invokevirtual 203, 3) rfl rfl) rfl wd_1817 wd_160 (by decide) ⟨rfl, rfl, by decide, by decide⟩ hM wd_1814 wd_1816 wd_71 clf_12,
    st_ifeq hC (n := 12) (dc_X12_aSaying 12 (23, .ifCond .eq 69, 3) rfl rfl) rfl (by decide),
    st_aload_n hC (n := 13) (k := 0) (dc_X12_aSaying 13 (26, .aload_n 0, 1) rfl rfl) rfl rfl,
    st_ldS1 hC (n := 14) (dc_X12_aSaying 14 (27, .ldc 180, 2) rfl rfl) rfl rfl,
    st_bipush hC (n := 15) (x := 15) (dc_X12_aSaying 15 (29, .bipush 15, 2) rfl rfl) rfl (by decide),
    st_callV hC (n := 16) (k := 12) (na := 2) (con_X12_wantWord l) (dc_X12_aSaying 16 (31, .invokevirtual 199, 3) rfl rfl) rfl wd_1809 wd_160 (by decide) ⟨rfl, rfl, by decide, by decide⟩ hM wd_1806 wd_1808 wd_69 clf_12,
    st_ifeq hC (n := 17) (dc_X12_aSaying 17 (34, .ifCond .eq 58, 3) rfl rfl) rfl (by decide),
    st_aload_n hC (n := 18) (k := 0) (dc_X12_aSaying 18 (37, .aload_n 0, 1) rfl rfl) rfl rfl,
    st_bipush hC (n := 19) (x := 84) (dc_X12_aSaying 19 (38, .bipush 84, 2) rfl rfl) rfl (by decide),
    st_aload_n hC (n := 20) (k := 0) (dc_X12_aSaying 20 (40, .aload_n 0, 1) rfl rfl) rfl rfl,
    st_getR hC (n := 21) (k := 12) (j := 0) (dc_X12_aSaying 21 (41, .getfield 7, 3) rfl rfl) rfl clf_12 (by decide) rfl (by decide) wd_1552,
    st_sipush hC (n := 22) (x := 2041) (dc_X12_aSaying 22 (44, .sipush 2041, 3) rfl rfl) rfl (by decide),
    st_iald hC (n := 23) (dc_X12_aSaying 23 (47, .iaload, 1) rfl rfl) rfl,
    st_iload_n hC (n := 24) (k := 1) (dc_X12_aSaying 24 (48, .iload_n 1, 1) rfl rfl) rfl rfl,
    st_iconst hC (n := 25) (x := 1) (dc_X12_aSaying 25 (49, .iconst 1, 1) rfl rfl) rfl (by decide),
    st_iadd hC (n := 26) (dc_X12_aSaying 26 (50, .iadd, 1) rfl rfl) rfl,
    st_callV hC (n := 27) (k := 12) (na := 3) (con_X12_oldOne l) (dc_X12_aSaying 27 (51, .invokevirtual 203, 3) rfl rfl) rfl wd_1817 wd_160 (by decide) ⟨rfl, rfl, by decide, by decide⟩ hM wd_1814 wd_1816 wd_71 clf_12,
    st_ifeq hC (n := 28) (dc_X12_aSaying 28 (54, .ifCond .eq 38, 3) rfl rfl) rfl (by decide),
    st_aload_n hC (n := 29) (k := 0) (dc_X12_aSaying 29 (57, .aload_n 0, 1) rfl rfl) rfl rfl,
    st_sipush hC (n := 30) (x := 2120) (dc_X12_aSaying 30 (58, .sipush 2120, 3) rfl rfl) rfl (by decide),
    st_iconst hC (n := 31) (x := 4) (dc_X12_aSaying 31 (61, .iconst 4, 1) rfl rfl) rfl (by decide),
    st_aload_n hC (n := 32) (k := 0) (dc_X12_aSaying 32 (62, .aload_n 0, 1) rfl rfl) rfl rfl,
    st_getR hC (n := 33) (k := 12) (j := 0) (dc_X12_aSaying 33 (63, .getfield 7, 3) rfl rfl) rfl clf_12 (by decide) rfl (by decide) wd_1552,
    st_iload_n hC (n := 34) (k := 1) (dc_X12_aSaying 34 (66, .iload_n 1, 1) rfl rfl) rfl rfl,
    st_iald hC (n := 35) (dc_X12_aSaying 35 (67, .iaload, 1) rfl rfl) rfl,
    st_imul hC (n := 36) (dc_X12_aSaying 36 (68, .imul, 1) rfl rfl) rfl,
    st_iadd hC (n := 37) (dc_X12_aSaying 37 (69, .iadd, 1) rfl rfl) rfl,
    st_aload_n hC (n := 38) (k := 0) (dc_X12_aSaying 38 (70, .aload_n 0, 1) rfl rfl) rfl rfl,
    st_getR hC (n := 39) (k := 12) (j := 0) (dc_X12_aSaying 39 (71, .getfield 7, 3) rfl rfl) rfl clf_12 (by decide) rfl (by decide) wd_1552,
    st_iload_n hC (n := 40) (k := 1) (dc_X12_aSaying 40 (74, .iload_n 1, 1) rfl rfl) rfl rfl,
    st_iconst hC (n := 41) (x := 1) (dc_X12_aSaying 41 (75, .iconst 1, 1) rfl rfl) rfl (by decide),
    st_iadd hC (n := 42) (dc_X12_aSaying 42 (76, .iadd, 1) rfl rfl) rfl,
    st_iald hC (n := 43) (dc_X12_aSaying 43 (77, .iaload, 1) rfl rfl) rfl,
    st_iadd hC (n := 44) (dc_X12_aSaying 44 (78, .iadd, 1) rfl rfl) rfl,
    st_iconst hC (n := 45) (x := 0) (dc_X12_aSaying 45 (79, .iconst 0, 1) rfl rfl) rfl (by decide),
    st_bipush hC (n := 46) (x := 99) (dc_X12_aSaying 46 (80, .bipush 99, 2) rfl rfl) rfl (by decide),
    st_callV hC (n := 47) (k := 12) (na := 3) (con_X12_number l) (dc_X12_aSaying 47 (82, .invokevirtual 196, 3) rfl rfl) rfl wd_1801 wd_160 (by decide) ⟨rfl, rfl, by decide, by decide⟩ hM wd_1798 wd_1800 wd_67 clf_12,
    st_ifeq hC (n := 48) (dc_X12_aSaying 48 (85, .ifCond .eq 7, 3) rfl rfl) rfl (by decide),
    st_iconst hC (n := 49) (x := 1) (dc_X12_aSaying 49 (88, .iconst 1, 1) rfl rfl) rfl (by decide),
    st_goto hC (n := 50) (dc_X12_aSaying 50 (89, .goto 4, 3) rfl rfl) (by decide),
    st_iconst hC (n := 51) (x := 0) (dc_X12_aSaying 51 (92, .iconst 0, 1) rfl rfl) rfl (by decide),
    st_zret hC (n := 52) hR (dc_X12_aSaying 52 (93, .ireturn, 1) rfl rfl), trivial⟩
set_option maxRecDepth 8000 in
theorem vc_X12_aSaying : VC P_X12_aSaying 2 Pre_X12_aSaying Fn_X12_aSaying := by
  rintro mm as hom hoa ⟨ns, nm, nt, hJ, rfl⟩
  refine ⟨Nat.le_of_ble_eq_true rfl, fun X h => ?_⟩
  have h2 : mm.1 54 0 2042 = nI nt := hJ.2.2.2.1
  have hnt : nt ≤ 12 := hJ.2.2.2.2
  have hnm : nm ≤ 4 := hJ.2.2.1.2
  have ent : (nI nt).toNatClampNeg = nt := nI_clamp (by omega)
  have enm : (nI nm).toNatClampNeg = nm := nI_clamp (by omega)
  have e47 : (nI 2547).toNatClampNeg = 2547 := nI_clamp (by omega)
  have i48 : nI 2547 + 1 = nI 2548 := nI_1 _
  have e48 : (nI 2547 + 1).toNatClampNeg = 2548 := by rw [i48]; exact nI_clamp (by omega)
  replace h : RUN P_X12_aSaying (RT (pSy mm)) X := h
  have hp : pSy mm = pBd (pOl (ahM mm) 88 nt 2547) syA1 := by unfold pSy; rw [h2, ent]
  rw [hp] at h
  clear hp
  have s3 : ∀ M p (k d : Nat), PJ M ns nm nt → M.1 54 0 2547 = nI k → M.1 54 0 2548 = nI d → k < 12 → d < 4 → p = syC M → RUN P_X12_aSaying (RT p) X → X 29 [some (vR 12 0), some (vI (nI 2547))] [] (M) := by
    intro M p k d hM hk hd hk12 hd4 hp h
    unfold syC at hp
    rw [hk, hd, nI_clamp (by omega), nI_clamp (by omega)] at hp
    have ex : 2120 + 4 * nI k + nI d = nI (2120 + 4 * k + d) := by simp (disch := omega) only [li, pk_mul, nI_add, nI_clamp]
    have en : (nI (2120 + 4 * k + d)).toNatClampNeg = 2120 + 4 * k + d := nI_clamp (by omega)
    show X 29 [some (vR 12 0), some (vI (nI 2547))] [] M
    refine h (fun _ => false) 3000 29 _ _ _ ?_
    refine And.intro (show inb (nI 2547) (alen 54) = true from (inb_o 3060 rfl rfl rfl (by omega))) ?_
    refine And.intro (show inb ((nI 2547) + 1) (alen 54) = true from (inb_o 3060 (j := 2548) rfl rfl i48 (by omega))) ?_
    refine And.intro (show Pre_X12_number M [vR 12 0, vI ((2120 + (4 * (M.1 54 0 ((nI 2547).toNatClampNeg)))) + (M.1 54 0 (((nI 2547) + 1).toNatClampNeg))), vI 0, vI 99] from ⟨hM.1, 2120 + 4 * k + d, 0, 99, by omega, by rw [e47, e48, hk, hd, ex]⟩) ?_
    refine br_c (fun b48 => ?_) (fun b48 => ?_)
    · -- 48: bI ((pNu M ((2120 + (4 * (M.1 54 0 ((nI 2547).toNatClampNeg)))) + (M.1 54 0 (((nI 2547) + 1).toNatClampNeg))).toNatClampNeg 0 99).1 = true) = 0 taken
      replace b48 : ¬ ((pNu M ((2120 + (4 * (M.1 54 0 ((nI 2547).toNatClampNeg)))) + (M.1 54 0 (((nI 2547) + 1).toNatClampNeg))).toNatClampNeg 0 99).1 = true) := bI_0.mp b48
      (try simp only [e47, e48, hk, hd, ex, en] at b48)
      refine And.intro (Or.inl rfl) ?_
      show ((some (vI 0) : Option MV), (pNu M ((2120 + (4 * (M.1 54 0 ((nI 2547).toNatClampNeg)))) + (M.1 54 0 (((nI 2547) + 1).toNatClampNeg))).toNatClampNeg 0 99).2) = _
      (try simp only [e47, e48, hk, hd, ex, en])
      exact PR_f (by rw [hp]; exact Prod.ext (pr_n b48) rfl)
    · -- 48: bI ((pNu M ((2120 + (4 * (M.1 54 0 ((nI 2547).toNatClampNeg)))) + (M.1 54 0 (((nI 2547) + 1).toNatClampNeg))).toNatClampNeg 0 99).1 = true) = 0 on
      replace b48 : (pNu M ((2120 + (4 * (M.1 54 0 ((nI 2547).toNatClampNeg)))) + (M.1 54 0 (((nI 2547) + 1).toNatClampNeg))).toNatClampNeg 0 99).1 = true := bI_n0.mp b48
      (try simp only [e47, e48, hk, hd, ex, en] at b48)
      refine And.intro (Or.inr rfl) ?_
      show ((some (vI 1) : Option MV), (pNu M ((2120 + (4 * (M.1 54 0 ((nI 2547).toNatClampNeg)))) + (M.1 54 0 (((nI 2547) + 1).toNatClampNeg))).toNatClampNeg 0 99).2) = _
      (try simp only [e47, e48, hk, hd, ex, en])
      exact PR_t (by rw [hp]; exact Prod.ext b48 rfl)
  have s2 : ∀ M p (k : Nat), PJ M ns nm nt → M.1 54 0 2547 = nI k → k < 12 → p = syB M → RUN P_X12_aSaying (RT p) X → X 18 [some (vR 12 0), some (vI (nI 2547))] [] (M) := by
    intro M p k hM hk hk12 hp h
    have h1 : M.1 54 0 2041 = nI nm := hM.2.2.1.1
    unfold syB at hp
    rw [h1, enm] at hp
    show X 18 [some (vR 12 0), some (vI (nI 2547))] [] M
    refine h (fun i => Nat.beq i 29) 3000 18 _ _ _ ?_
    refine And.intro (show inb 2041 (alen 54) = true from rfl) ?_
    refine And.intro (show Pre_X12_oldOne M [vR 12 0, vI 84, vI (M.1 54 0 2041), vI ((nI 2547) + 1)] from ⟨hM.1, 84, nm, 2548, by omega, by omega, by rw [h1, i48]; rfl⟩) ?_
    refine br_c (fun b28 => ?_) (fun b28 => ?_)
    · -- 28: bI ((pOl M 84 (M.1 54 0 2041).toNatClampNeg ((nI 2547) + 1).toNatClampNeg).1 = true) = 0 taken
      replace b28 : ¬ ((pOl M 84 (M.1 54 0 2041).toNatClampNeg ((nI 2547) + 1).toNatClampNeg).1 = true) := bI_0.mp b28
      (try simp only [e47, e48, h1, enm] at b28)
      refine And.intro (Or.inl rfl) ?_
      show ((some (vI 0) : Option MV), (pOl M 84 (M.1 54 0 2041).toNatClampNeg ((nI 2547) + 1).toNatClampNeg).2) = _
      (try simp only [e47, e48, h1, enm])
      exact PR_f (by rw [hp, pBd_f b28])
    · -- 28: bI ((pOl M 84 (M.1 54 0 2041).toNatClampNeg ((nI 2547) + 1).toNatClampNeg).1 = true) = 0 on
      replace b28 : (pOl M 84 (M.1 54 0 2041).toNatClampNeg ((nI 2547) + 1).toNatClampNeg).1 = true := bI_n0.mp b28
      (try simp only [e47, e48, h1, enm] at b28)
      show X 29 [some (vR 12 0), some (vI (nI 2547))] [] ((pOl M 84 (M.1 54 0 2041).toNatClampNeg ((nI 2547) + 1).toNatClampNeg).2)
      (try simp only [e47, e48, h1, enm])
      obtain ⟨d, hd, e⟩ := pOl_in b28
      exact s3 _ _ k d (PJ_ol hM (by omega)) (by rw [e, upd_ne (by decide)]; exact hk) (by rw [e]; exact upd_eq) hk12 (by omega) (by rw [hp, pBd_t b28]) h
  have s1 : ∀ M p, PJ M ns nm nt → p = pBd (pOl M 88 nt 2547) syA1 → RUN P_X12_aSaying (RT p) X → X 4 [some (vR 12 0), some (vI (nI 2547))] [] (M) := by
    intro M p hM hp h
    have h1 : M.1 54 0 2042 = nI nt := hM.2.2.2.1
    unfold syA1 at hp
    show X 4 [some (vR 12 0), some (vI (nI 2547))] [] M
    refine h (fun i => Nat.beq i 18) 3000 4 _ _ _ ?_
    refine And.intro (show inb 2042 (alen 54) = true from rfl) ?_
    refine And.intro (show Pre_X12_oldOne M [vR 12 0, vI 88, vI (M.1 54 0 2042), vI (nI 2547)] from ⟨hM.1, 88, nt, 2547, by omega, by omega, by rw [h1]; rfl⟩) ?_
    refine br_c (fun b12 => ?_) (fun b12 => ?_)
    · -- 12: bI ((pOl M 88 (M.1 54 0 2042).toNatClampNeg (nI 2547).toNatClampNeg).1 = true) = 0 taken
      replace b12 : ¬ ((pOl M 88 (M.1 54 0 2042).toNatClampNeg (nI 2547).toNatClampNeg).1 = true) := bI_0.mp b12
      (try simp only [e47, h1, ent] at b12)
      refine And.intro (Or.inl rfl) ?_
      show ((some (vI 0) : Option MV), (pOl M 88 (M.1 54 0 2042).toNatClampNeg (nI 2547).toNatClampNeg).2) = _
      (try simp only [e47, h1, ent])
      exact PR_f (by rw [hp, pBd_f b12])
    · -- 12: bI ((pOl M 88 (M.1 54 0 2042).toNatClampNeg (nI 2547).toNatClampNeg).1 = true) = 0 on
      replace b12 : (pOl M 88 (M.1 54 0 2042).toNatClampNeg (nI 2547).toNatClampNeg).1 = true := bI_n0.mp b12
      (try simp only [e47, h1, ent] at b12)
      refine And.intro (show Pre_X12_wantWord ((pOl M 88 (M.1 54 0 2042).toNatClampNeg (nI 2547).toNatClampNeg).2) [vR 12 0, vR 72 1, vI 15] from ⟨by rw [e47, h1, ent]; exact (PJ_ol hM (by decide)).1, _, rfl⟩) ?_
      refine br_c (fun b17 => ?_) (fun b17 => ?_)
      · -- 17: bI ((pWW ((pOl M 88 (M.1 54 0 2042).toNatClampNeg (nI 2547).toNatClampNeg).2) 15).1 = true) = 0 taken
        replace b17 : ¬ ((pWW ((pOl M 88 (M.1 54 0 2042).toNatClampNeg (nI 2547).toNatClampNeg).2) 15).1 = true) := bI_0.mp b17
        (try simp only [e47, h1, ent] at b17)
        refine And.intro (Or.inl rfl) ?_
        show ((some (vI 0) : Option MV), (pWW ((pOl M 88 (M.1 54 0 2042).toNatClampNeg (nI 2547).toNatClampNeg).2) 15).2) = _
        (try simp only [e47, h1, ent])
        exact PR_f (by rw [hp, pBd_t b12, pBd_f b17])
      · -- 17: bI ((pWW ((pOl M 88 (M.1 54 0 2042).toNatClampNeg (nI 2547).toNatClampNeg).2) 15).1 = true) = 0 on
        replace b17 : (pWW ((pOl M 88 (M.1 54 0 2042).toNatClampNeg (nI 2547).toNatClampNeg).2) 15).1 = true := bI_n0.mp b17
        (try simp only [e47, h1, ent] at b17)
        show X 18 [some (vR 12 0), some (vI (nI 2547))] [] ((pWW ((pOl M 88 (M.1 54 0 2042).toNatClampNeg (nI 2547).toNatClampNeg).2) 15).2)
        (try simp only [e47, h1, ent])
        obtain ⟨k, hk, e⟩ := pOl_in b12
        exact s2 _ _ k (PJ_ww (PJ_ol hM (by decide))) (by rw [ww54, e]; exact upd_eq) (by omega) (by rw [hp, pBd_t b12, pBd_t b17]) h
  show X 0 [some (vR 12 0), none] [] mm
  refine h (fun i => Nat.beq i 4) 3000 0 _ _ _ ?_
  refine And.intro (show Pre_X12_ahead mm [vR 12 0] from (TXo_pre hJ.1)) ?_
  show X 4 [some (vR 12 0), some (vI 2547)] [] (ahM mm)
  exact s1 _ _ (PJ_ah hJ) rfl h
theorem con_X12_aSaying (l : Launch) : CON l y_X12_aSaying prog_14_method_44_code 2 (some .boolean) rm_X12_aSaying Pre_X12_aSaying Fn_X12_aSaying := CON_of (by decide) rfl rfl (sa_X12_aSaying l) vc_X12_aSaying
def lkC (m : MM) : PR := pNu m (2168 + 4 * (m.1 54 0 2547).toNatClampNeg + (m.1 54 0 2548).toNatClampNeg) 0 99
def lkB (m : MM) : PR := pBd (pOl m 84 (m.1 54 0 2041).toNatClampNeg 2548) lkC
def pLk (m : MM) : PR := pBd (pOl (ahM m) 80 (m.1 54 0 2040).toNatClampNeg 2547) lkB

--tpl ⟨_, _, _, (by assumption), rfl⟩ || bI ((pLk {m}).1 = true) || (pLk {m}).2
def Pre_X12_aLiking : PreT := fun m as => ∃ ns nm nt, PJ m ns nm nt ∧ as = [vR 12 0]
def Fn_X12_aLiking : FnT := fun m _ => (some (vI (bI ((pLk m).1 = true))), (pLk m).2)
abbrev y_X12_aLiking : MethodName := ⟨"GivenUpModel", "aLiking", "()Z"⟩
def P_X12_aLiking : List StpT := [s_ic (2547), s_istore 1, s_aload 0, s_callV 12 0 Pre_X12_ahead Fn_X12_ahead, s_aload 0, s_ic (80), s_aload 0, s_getR 12 0 54, s_ic (2040), s_iald, s_iload 1, s_callV 12 3 Pre_X12_oldOne Fn_X12_oldOne, s_ifeq 46, s_aload 0, s_ic (84), s_aload 0, s_getR 12 0 54, s_ic (2041), s_iald, s_iload 1, s_ic (1), s_iadd, s_callV 12 3 Pre_X12_oldOne Fn_X12_oldOne, s_ifeq 46, s_aload 0, s_ic (2168), s_ic (4), s_aload 0, s_getR 12 0 54, s_iload 1, s_iald, s_imul, s_iadd, s_aload 0, s_getR 12 0 54, s_iload 1, s_ic (1), s_iadd, s_iald, s_iadd, s_ic (0), s_ic (99), s_callV 12 3 Pre_X12_number Fn_X12_number, s_ifeq 46, s_ic (1), s_goto 47, s_ic (0), s_zret]
def pc_X12_aLiking : Nat → Nat := fun i => [0, 3, 4, 5, 8, 9, 11, 12, 15, 18, 19, 20, 23, 26, 27, 29, 30, 33, 36, 37, 38, 39, 40, 43, 46, 47, 50, 51, 52, 55, 56, 57, 58, 59, 60, 63, 64, 65, 66, 67, 68, 69, 71, 74, 77, 78, 81, 82].getD i 0
def dl_X12_aLiking : List (Nat × Instr × Nat) := [(0, .sipush 2547, 3), (3, .istore_n 1, 1), (4, .aload_n 0, 1), (5, .invokevirtual 163, 3), (8, .aload_n 0, 1), (9, .bipush 80, 2), (11, .aload_n 0, 1), (12, .getfield 7, 3), (15, .sipush 2040, 3), (18, .iaload, 1), (19, .iload_n 1, 1), (20, .invokevirtual 203, 3), (23, .ifCond .eq 58, 3), (26, .aload_n 0, 1), (27, .bipush 84, 2), (29, .aload_n 0, 1), (30, .getfield 7, 3), (33, .sipush 2041, 3), (36, .iaload, 1), (37, .iload_n 1, 1), (38, .iconst 1, 1), (39, .iadd, 1), (40, .invokevirtual 203, 3), (43, .ifCond .eq 38, 3), (46, .aload_n 0, 1), (47, .sipush 2168, 3), (50, .iconst 4, 1), (51, .aload_n 0, 1), (52, .getfield 7, 3), (55, .iload_n 1, 1), (56, .iaload, 1), (57, .imul, 1), (58, .iadd, 1), (59, .aload_n 0, 1), (60, .getfield 7, 3), (63, .iload_n 1, 1), (64, .iconst 1, 1), (65, .iadd, 1), (66, .iaload, 1), (67, .iadd, 1), (68, .iconst 0, 1), (69, .bipush 99, 2), (71, .invokevirtual 196, 3), (74, .ifCond .eq 7, 3), (77, .iconst 1, 1), (78, .goto 4, 3), (81, .iconst 0, 1), (82, .ireturn, 1)]
theorem dc_X12_aLiking : DEC prog_14_method_46_code pc_X12_aLiking dl_X12_aLiking := DEC_of (by decide +kernel)
abbrev rm_X12_aLiking : Room := { frames := 8, cells := 0, slots := 0, locals := 176 }
set_option maxRecDepth 20000 in
theorem sa_X12_aLiking (l : Launch) : SNDALL l prog_14_method_46_code "GivenUpModel" 2 (some .boolean) rm_X12_aLiking P_X12_aLiking pc_X12_aLiking := fun p e s m args below meth c cells slots Q D dA ad A RR hC hR => by
  have hM := RTX_room (R := rm_X12_aLiking) hR
  exact ⟨st_sipush hC (n := 0) (x := 2547) (dc_X12_aLiking 0 (0, .sipush 2547, 3) rfl rfl) rfl (by decide),
    st_istore_n hC (n := 1) (k := 1) (dc_X12_aLiking 1 (3, .istore_n 1, 1) rfl rfl) rfl rfl (by decide),
    st_aload_n hC (n := 2) (k := 0) (dc_X12_aLiking 2 (4, .aload_n 0, 1) rfl rfl) rfl rfl,
    st_callV hC (n := 3) (k := 12) (na := 0) (con_X12_ahead l) (dc_X12_aLiking 3 (5, .invokevirtual 163, 3) rfl rfl) rfl wd_1742 wd_160 (by decide) ⟨rfl, rfl, by decide, by decide⟩ hM wd_1739 wd_1741 wd_55 clf_12,
    st_aload_n hC (n := 4) (k := 0) (dc_X12_aLiking 4 (8, .aload_n 0, 1) rfl rfl) rfl rfl,
    st_bipush hC (n := 5) (x := 80) (dc_X12_aLiking 5 (9, .bipush 80, 2) rfl rfl) rfl (by decide),
    st_aload_n hC (n := 6) (k := 0) (dc_X12_aLiking 6 (11, .aload_n 0, 1) rfl rfl) rfl rfl,
    st_getR hC (n := 7) (k := 12) (j := 0) (dc_X12_aLiking 7 (12, .getfield 7, 3) rfl rfl) rfl clf_12 (by decide) rfl (by decide) wd_1552,
    st_sipush hC (n := 8) (x := 2040) (dc_X12_aLiking 8 (15, .sipush 2040, 3) rfl rfl) rfl (by decide),
    st_iald hC (n := 9) (dc_X12_aLiking 9 (18, .iaload, 1) rfl rfl) rfl,
    st_iload_n hC (n := 10) (k := 1) (dc_X12_aLiking 10 (19, .iload_n 1, 1) rfl rfl) rfl rfl,
    st_callV hC (n := 11) (k := 12) (na := 3) (con_X12_oldOne l) (dc_X12_aLiking 11 (20, .invokevirtual 203, 3) rfl rfl) rfl wd_1817 wd_160 (by decide) ⟨rfl, rfl, by decide, by decide⟩ hM wd_1814 wd_1816 wd_71 clf_12,
    st_ifeq hC (n := 12) (dc_X12_aLiking 12 (23, .ifCond .eq 58, 3) rfl rfl) rfl (by decide),
    st_aload_n hC (n := 13) (k := 0) (dc_X12_aLiking 13 (26, .aload_n 0, 1) rfl rfl) rfl rfl,
    st_bipush hC (n := 14) (x := 84) (dc_X12_aLiking 14 (27, .bipush 84, 2) rfl rfl) rfl (by decide),
    st_aload_n hC (n := 15) (k := 0) (dc_X12_aLiking 15 (29, .aload_n 0, 1) rfl rfl) rfl rfl,
    st_getR hC (n := 16) (k := 12) (j := 0) (dc_X12_aLiking 16 (30, .getfield 7, 3) rfl rfl) rfl clf_12 (by decide) rfl (by decide) wd_1552,
    st_sipush hC (n := 17) (x := 2041) (dc_X12_aLiking 17 (33, .sipush 2041, 3) rfl rfl) rfl (by decide),
    st_iald hC (n := 18) (dc_X12_aLiking 18 (36, .iaload, 1) rfl rfl) rfl,
    st_iload_n hC (n := 19) (k := 1) (dc_X12_aLiking 19 (37, .iload_n 1, 1) rfl rfl) rfl rfl,
    st_iconst hC (n := 20) (x := 1) (dc_X12_aLiking 20 (38, .iconst 1, 1) rfl rfl) rfl (by decide),
    st_iadd hC (n := 21) (dc_X12_aLiking 21 (39, .iadd, 1) rfl rfl) rfl,
    st_callV hC (n := 22) (k := 12) (na := 3) (con_X12_oldOne l) (dc_X12_aLiking 22 (40, .invokevirtual 203, 3) rfl rfl) rfl wd_1817 wd_160 (by decide) ⟨rfl, rfl, by decide, by decide⟩ hM wd_1814 wd_1816 wd_71 clf_12,
    st_ifeq hC (n := 23) (dc_X12_aLiking 23 (43, .ifCond .eq 38, 3) rfl rfl) rfl (by decide),
    st_aload_n hC (n := 24) (k := 0) (dc_X12_aLiking 24 (46, .aload_n 0, 1) rfl rfl) rfl rfl,
    st_sipush hC (n := 25) (x := 2168) (dc_X12_aLiking 25 (47, .sipush 2168, 3) rfl rfl) rfl (by decide),
    st_iconst hC (n := 26) (x := 4) (dc_X12_aLiking 26 (50, .iconst 4, 1) rfl rfl) rfl (by decide),
    st_aload_n hC (n := 27) (k := 0) (dc_X12_aLiking 27 (51, .aload_n 0, 1) rfl rfl) rfl rfl,
    st_getR hC (n := 28) (k := 12) (j := 0) (dc_X12_aLiking 28 (52, .getfield 7, 3) rfl rfl) rfl clf_12 (by decide) rfl (by decide) wd_1552,
    st_iload_n hC (n := 29) (k := 1) (dc_X12_aLiking 29 (55, .iload_n 1, 1) rfl rfl) rfl rfl,
    st_iald hC (n := 30) (dc_X12_aLiking 30 (56, .iaload, 1) rfl rfl) rfl,
    st_imul hC (n := 31) (dc_X12_aLiking 31 (57, .imul, 1) rfl rfl) rfl,
    st_iadd hC (n := 32) (dc_X12_aLiking 32 (58, .iadd, 1) rfl rfl) rfl,
    st_aload_n hC (n := 33) (k := 0) (dc_X12_aLiking 33 (59, .aload_n 0, 1) rfl rfl) rfl rfl,
    st_getR hC (n := 34) (k := 12) (j := 0) (dc_X12_aLiking 34 (60, .getfield 7, 3) rfl rfl) rfl clf_12 (by decide) rfl (by decide) wd_1552,
    st_iload_n hC (n := 35) (k := 1) (dc_X12_aLiking 35 (63, .iload_n 1, 1) rfl rfl) rfl rfl,
    st_iconst hC (n := 36) (x := 1) (dc_X12_aLiking 36 (64, .iconst 1, 1) rfl rfl) rfl (by decide),
    st_iadd hC (n := 37) (dc_X12_aLiking 37 (65, .iadd, 1) rfl rfl) rfl,
    st_iald hC (n := 38) (dc_X12_aLiking 38 (66, .iaload, 1) rfl rfl) rfl,
    st_iadd hC (n := 39) (dc_X12_aLiking 39 (67, .iadd, 1) rfl rfl) rfl,
    st_iconst hC (n := 40) (x := 0) (dc_X12_aLiking 40 (68, .iconst 0, 1) rfl rfl) rfl (by decide),
    st_bipush hC (n := 41) (x := 99) (dc_X12_aLiking 41 (69, .bipush 99, 2) rfl rfl) rfl (by decide),
    st_callV hC (n := 42) (k := 12) (na := 3) (con_X12_number l) (dc_X12_aLiking 42 (71, .invokevirtual 196, 3) rfl rfl) rfl wd_1801 wd_160 (by decide) ⟨rfl, rfl, by decide, by decide⟩ hM wd_1798 wd_1800 wd_67 clf_12,
    st_ifeq hC (n := 43) (dc_X12_aLiking 43 (74, .ifCond .eq 7, 3) rfl rfl) rfl (by decide),
    st_iconst hC (n := 44) (x := 1) (dc_X12_aLiking 44 (77, .iconst 1, 1) rfl rfl) rfl (by decide),
    st_goto hC (n := 45) (dc_X12_aLiking 45 (78, .goto 4, 3) rfl rfl) (by decide),
    st_iconst hC (n := 46) (x := 0) (dc_X12_aLiking 46 (81, .iconst 0, 1) rfl rfl) rfl (by decide),
    st_zret hC (n := 47) hR (dc_X12_aLiking 47 (82, .ireturn, 1) rfl rfl), trivial⟩
set_option maxRecDepth 8000 in
theorem vc_X12_aLiking : VC P_X12_aLiking 2 Pre_X12_aLiking Fn_X12_aLiking := by
  rintro mm as hom hoa ⟨ns, nm, nt, hJ, rfl⟩
  refine ⟨Nat.le_of_ble_eq_true rfl, fun X h => ?_⟩
  have h2 : mm.1 54 0 2040 = nI ns := hJ.2.1.1
  have hns : ns ≤ 4 := hJ.2.1.2
  have hnm : nm ≤ 4 := hJ.2.2.1.2
  have ens : (nI ns).toNatClampNeg = ns := nI_clamp (by omega)
  have enm : (nI nm).toNatClampNeg = nm := nI_clamp (by omega)
  have e47 : (nI 2547).toNatClampNeg = 2547 := nI_clamp (by omega)
  have i48 : nI 2547 + 1 = nI 2548 := nI_1 _
  have e48 : (nI 2547 + 1).toNatClampNeg = 2548 := by rw [i48]; exact nI_clamp (by omega)
  replace h : RUN P_X12_aLiking (RT (pLk mm)) X := h
  have hp : pLk mm = pBd (pOl (ahM mm) 80 ns 2547) lkB := by unfold pLk; rw [h2, ens]
  rw [hp] at h
  clear hp
  have s3 : ∀ M p (k d : Nat), PJ M ns nm nt → M.1 54 0 2547 = nI k → M.1 54 0 2548 = nI d → k < 4 → d < 4 → p = lkC M → RUN P_X12_aLiking (RT p) X → X 24 [some (vR 12 0), some (vI (nI 2547))] [] (M) := by
    intro M p k d hM hk hd hk12 hd4 hp h
    unfold lkC at hp
    rw [hk, hd, nI_clamp (by omega), nI_clamp (by omega)] at hp
    have ex : 2168 + 4 * nI k + nI d = nI (2168 + 4 * k + d) := by simp (disch := omega) only [li, pk_mul, nI_add, nI_clamp]
    have en : (nI (2168 + 4 * k + d)).toNatClampNeg = 2168 + 4 * k + d := nI_clamp (by omega)
    show X 24 [some (vR 12 0), some (vI (nI 2547))] [] M
    refine h (fun _ => false) 3000 24 _ _ _ ?_
    refine And.intro (show inb (nI 2547) (alen 54) = true from (inb_o 3060 rfl rfl rfl (by omega))) ?_
    refine And.intro (show inb ((nI 2547) + 1) (alen 54) = true from (inb_o 3060 (j := 2548) rfl rfl i48 (by omega))) ?_
    refine And.intro (show Pre_X12_number M [vR 12 0, vI ((2168 + (4 * (M.1 54 0 ((nI 2547).toNatClampNeg)))) + (M.1 54 0 (((nI 2547) + 1).toNatClampNeg))), vI 0, vI 99] from ⟨hM.1, 2168 + 4 * k + d, 0, 99, by omega, by rw [e47, e48, hk, hd, ex]⟩) ?_
    refine br_c (fun b43 => ?_) (fun b43 => ?_)
    · -- 43: bI ((pNu M ((2168 + (4 * (M.1 54 0 ((nI 2547).toNatClampNeg)))) + (M.1 54 0 (((nI 2547) + 1).toNatClampNeg))).toNatClampNeg 0 99).1 = true) = 0 taken
      replace b43 : ¬ ((pNu M ((2168 + (4 * (M.1 54 0 ((nI 2547).toNatClampNeg)))) + (M.1 54 0 (((nI 2547) + 1).toNatClampNeg))).toNatClampNeg 0 99).1 = true) := bI_0.mp b43
      (try simp only [e47, e48, hk, hd, ex, en] at b43)
      refine And.intro (Or.inl rfl) ?_
      show ((some (vI 0) : Option MV), (pNu M ((2168 + (4 * (M.1 54 0 ((nI 2547).toNatClampNeg)))) + (M.1 54 0 (((nI 2547) + 1).toNatClampNeg))).toNatClampNeg 0 99).2) = _
      (try simp only [e47, e48, hk, hd, ex, en])
      exact PR_f (by rw [hp]; exact Prod.ext (pr_n b43) rfl)
    · -- 43: bI ((pNu M ((2168 + (4 * (M.1 54 0 ((nI 2547).toNatClampNeg)))) + (M.1 54 0 (((nI 2547) + 1).toNatClampNeg))).toNatClampNeg 0 99).1 = true) = 0 on
      replace b43 : (pNu M ((2168 + (4 * (M.1 54 0 ((nI 2547).toNatClampNeg)))) + (M.1 54 0 (((nI 2547) + 1).toNatClampNeg))).toNatClampNeg 0 99).1 = true := bI_n0.mp b43
      (try simp only [e47, e48, hk, hd, ex, en] at b43)
      refine And.intro (Or.inr rfl) ?_
      show ((some (vI 1) : Option MV), (pNu M ((2168 + (4 * (M.1 54 0 ((nI 2547).toNatClampNeg)))) + (M.1 54 0 (((nI 2547) + 1).toNatClampNeg))).toNatClampNeg 0 99).2) = _
      (try simp only [e47, e48, hk, hd, ex, en])
      exact PR_t (by rw [hp]; exact Prod.ext b43 rfl)
  have s2 : ∀ M p (k : Nat), PJ M ns nm nt → M.1 54 0 2547 = nI k → k < 4 → p = lkB M → RUN P_X12_aLiking (RT p) X → X 13 [some (vR 12 0), some (vI (nI 2547))] [] (M) := by
    intro M p k hM hk hk12 hp h
    have h1 : M.1 54 0 2041 = nI nm := hM.2.2.1.1
    unfold lkB at hp
    rw [h1, enm] at hp
    show X 13 [some (vR 12 0), some (vI (nI 2547))] [] M
    refine h (fun i => Nat.beq i 24) 3000 13 _ _ _ ?_
    refine And.intro (show inb 2041 (alen 54) = true from rfl) ?_
    refine And.intro (show Pre_X12_oldOne M [vR 12 0, vI 84, vI (M.1 54 0 2041), vI ((nI 2547) + 1)] from ⟨hM.1, 84, nm, 2548, by omega, by omega, by rw [h1, i48]; rfl⟩) ?_
    refine br_c (fun b23 => ?_) (fun b23 => ?_)
    · -- 23: bI ((pOl M 84 (M.1 54 0 2041).toNatClampNeg ((nI 2547) + 1).toNatClampNeg).1 = true) = 0 taken
      replace b23 : ¬ ((pOl M 84 (M.1 54 0 2041).toNatClampNeg ((nI 2547) + 1).toNatClampNeg).1 = true) := bI_0.mp b23
      (try simp only [e47, e48, h1, enm] at b23)
      refine And.intro (Or.inl rfl) ?_
      show ((some (vI 0) : Option MV), (pOl M 84 (M.1 54 0 2041).toNatClampNeg ((nI 2547) + 1).toNatClampNeg).2) = _
      (try simp only [e47, e48, h1, enm])
      exact PR_f (by rw [hp, pBd_f b23])
    · -- 23: bI ((pOl M 84 (M.1 54 0 2041).toNatClampNeg ((nI 2547) + 1).toNatClampNeg).1 = true) = 0 on
      replace b23 : (pOl M 84 (M.1 54 0 2041).toNatClampNeg ((nI 2547) + 1).toNatClampNeg).1 = true := bI_n0.mp b23
      (try simp only [e47, e48, h1, enm] at b23)
      show X 24 [some (vR 12 0), some (vI (nI 2547))] [] ((pOl M 84 (M.1 54 0 2041).toNatClampNeg ((nI 2547) + 1).toNatClampNeg).2)
      (try simp only [e47, e48, h1, enm])
      obtain ⟨d, hd, e⟩ := pOl_in b23
      exact s3 _ _ k d (PJ_ol hM (by omega)) (by rw [e, upd_ne (by decide)]; exact hk) (by rw [e]; exact upd_eq) hk12 (by omega) (by rw [hp, pBd_t b23]) h
  have s1 : ∀ M p, PJ M ns nm nt → p = pBd (pOl M 80 ns 2547) lkB → RUN P_X12_aLiking (RT p) X → X 4 [some (vR 12 0), some (vI (nI 2547))] [] (M) := by
    intro M p hM hp h
    have h1 : M.1 54 0 2040 = nI ns := hM.2.1.1
    show X 4 [some (vR 12 0), some (vI (nI 2547))] [] M
    refine h (fun i => Nat.beq i 13) 3000 4 _ _ _ ?_
    refine And.intro (show inb 2040 (alen 54) = true from rfl) ?_
    refine And.intro (show Pre_X12_oldOne M [vR 12 0, vI 80, vI (M.1 54 0 2040), vI (nI 2547)] from ⟨hM.1, 80, ns, 2547, by omega, by omega, by rw [h1]; rfl⟩) ?_
    refine br_c (fun b12 => ?_) (fun b12 => ?_)
    · -- 12: bI ((pOl M 80 (M.1 54 0 2040).toNatClampNeg (nI 2547).toNatClampNeg).1 = true) = 0 taken
      replace b12 : ¬ ((pOl M 80 (M.1 54 0 2040).toNatClampNeg (nI 2547).toNatClampNeg).1 = true) := bI_0.mp b12
      (try simp only [e47, h1, ens] at b12)
      refine And.intro (Or.inl rfl) ?_
      show ((some (vI 0) : Option MV), (pOl M 80 (M.1 54 0 2040).toNatClampNeg (nI 2547).toNatClampNeg).2) = _
      (try simp only [e47, h1, ens])
      exact PR_f (by rw [hp, pBd_f b12])
    · -- 12: bI ((pOl M 80 (M.1 54 0 2040).toNatClampNeg (nI 2547).toNatClampNeg).1 = true) = 0 on
      replace b12 : (pOl M 80 (M.1 54 0 2040).toNatClampNeg (nI 2547).toNatClampNeg).1 = true := bI_n0.mp b12
      (try simp only [e47, h1, ens] at b12)
      show X 13 [some (vR 12 0), some (vI (nI 2547))] [] ((pOl M 80 (M.1 54 0 2040).toNatClampNeg (nI 2547).toNatClampNeg).2)
      (try simp only [e47, h1, ens])
      obtain ⟨k, hk, e⟩ := pOl_in b12
      exact s2 _ _ k (PJ_ol hM (by decide)) (by rw [e]; exact upd_eq) (by omega) (by rw [hp, pBd_t b12]) h
  show X 0 [some (vR 12 0), none] [] mm
  refine h (fun i => Nat.beq i 4) 3000 0 _ _ _ ?_
  refine And.intro (show Pre_X12_ahead mm [vR 12 0] from (TXo_pre hJ.1)) ?_
  show X 4 [some (vR 12 0), some (vI 2547)] [] (ahM mm)
  exact s1 _ _ (PJ_ah hJ) rfl h
theorem con_X12_aLiking (l : Launch) : CON l y_X12_aLiking prog_14_method_46_code 2 (some .boolean) rm_X12_aLiking Pre_X12_aLiking Fn_X12_aLiking := CON_of (by decide) rfl rfl (sa_X12_aLiking l) vc_X12_aLiking
/-- afters: that a THING is not after itself, nor one of another SUITOR -/
abbrev afP (m : MM) (nt : Nat) : Prop := nmP m ∧ ¬ fhA m 88 nt = -1 ∧ (m.1 54 0 2547 = fhA m 88 nt ∨ ¬ m.1 54 0 (2084 + 3 * (m.1 54 0 2547).toNatClampNeg) = m.1 54 0 (2084 + 3 * (fhA m 88 nt).toNatClampNeg))
def afE (a : Nat) (m : MM) : MM := mI (mI m 54 0 (2086 + 3 * a) (m.1 54 0 (2086 + 3 * a) ||| 1 <<< (m.1 54 0 2548 &&& 31))) 54 0 2043 (m.1 54 0 2043 + 1)
def afC (a : Nat) (m : MM) : PR := (true, afE a m)
def afB (m : MM) : PR := if afP m (m.1 54 0 2042).toNatClampNeg then (false, faM m 5) else pBd (pOl m 88 (m.1 54 0 2042).toNatClampNeg 2548) (afC (m.1 54 0 2547).toNatClampNeg)
def pAf (m : MM) : PR := if m.1 54 0 2043 = 12 then (false, faM m 6) else pBd (pOl (ahM m) 88 (m.1 54 0 2042).toNatClampNeg 2547) afB

--tpl ⟨_, _, _, (by assumption), rfl⟩ || bI ((pAf {m}).1 = true) || (pAf {m}).2
def Pre_X12_anAfter : PreT := fun m as => ∃ ns nm nt, PJ m ns nm nt ∧ as = [vR 12 0]
def Fn_X12_anAfter : FnT := fun m _ => (some (vI (bI ((pAf m).1 = true))), (pAf m).2)
abbrev y_X12_anAfter : MethodName := ⟨"GivenUpModel", "anAfter", "()Z"⟩
def P_X12_anAfter : List StpT := [s_ic (2547), s_istore 1, s_aload 0, s_getR 12 0 54, s_ic (2043), s_iald, s_ic (12), s_icne 12, s_aload 0, s_ic (6), s_callV 12 1 Pre_X12_fails Fn_X12_fails, s_zret, s_aload 0, s_callV 12 0 Pre_X12_ahead Fn_X12_ahead, s_aload 0, s_ic (88), s_aload 0, s_getR 12 0 54, s_ic (2042), s_iald, s_iload 1, s_callV 12 3 Pre_X12_oldOne Fn_X12_oldOne, s_ifne 25, s_ic (0), s_zret, s_aload 0, s_getR 12 0 54, s_iload 1, s_iald, s_istore 2, s_aload 0, s_ldS 1, s_callV 12 1 Pre_X12_isName Fn_X12_isName, s_ifeq 69, s_aload 0, s_ic (88), s_aload 0, s_getR 12 0 54, s_ic (2042), s_iald, s_callV 12 2 Pre_X12_findHere Fn_X12_findHere, s_istore 3, s_iload 3, s_ic (-1), s_iceq 69, s_iload 2, s_iload 3, s_iceq 65, s_aload 0, s_getR 12 0 54, s_ic (2084), s_ic (3), s_iload 2, s_imul, s_iadd, s_iald, s_aload 0, s_getR 12 0 54, s_ic (2084), s_ic (3), s_iload 3, s_imul, s_iadd, s_iald, s_iceq 69, s_aload 0, s_ic (5), s_callV 12 1 Pre_X12_fails Fn_X12_fails, s_zret, s_aload 0, s_ic (88), s_aload 0, s_getR 12 0 54, s_ic (2042), s_iald, s_iload 1, s_ic (1), s_iadd, s_callV 12 3 Pre_X12_oldOne Fn_X12_oldOne, s_ifne 82, s_ic (0), s_zret, s_aload 0, s_getR 12 0 54, s_ic (2084), s_ic (3), s_iload 2, s_imul, s_iadd, s_ic (2), s_iadd, s_dup2, s_iald, s_ic (1), s_aload 0, s_getR 12 0 54, s_iload 1, s_ic (1), s_iadd, s_iald, s_ishl, s_ior, s_iast, s_aload 0, s_getR 12 0 54, s_ic (2043), s_dup2, s_iald, s_ic (1), s_iadd, s_iast, s_ic (1), s_zret]
def pc_X12_anAfter : Nat → Nat := fun i => [0, 3, 4, 5, 8, 11, 12, 14, 17, 18, 20, 23, 24, 25, 28, 29, 31, 32, 35, 38, 39, 40, 43, 46, 47, 48, 49, 52, 53, 54, 55, 56, 58, 61, 64, 65, 67, 68, 71, 74, 75, 78, 79, 80, 81, 84, 85, 86, 89, 90, 93, 96, 97, 98, 99, 100, 101, 102, 105, 108, 109, 110, 111, 112, 113, 116, 117, 118, 121, 122, 123, 125, 126, 129, 132, 133, 134, 135, 136, 139, 142, 143, 144, 145, 148, 151, 152, 153, 154, 155, 156, 157, 158, 159, 160, 161, 164, 165, 166, 167, 168, 169, 170, 171, 172, 175, 178, 179, 180, 181, 182, 183, 184].getD i 0
def dl_X12_anAfter : List (Nat × Instr × Nat) := [(0, .sipush 2547, 3), (3, .istore_n 1, 1), (4, .aload_n 0, 1), (5, .getfield 7, 3), (8, .sipush 2043, 3), (11, .iaload, 1), (12, .bipush 12, 2), (14, .if_icmp .ne 10, 3), (17, .aload_n 0, 1), (18, .bipush 6, 2), (20, .invokevirtual 169, 3), (23, .ireturn, 1), (24, .aload_n 0, 1), (25, .invokevirtual 163, 3), (28, .aload_n 0, 1), (29, .bipush 88, 2), (31, .aload_n 0, 1), (32, .getfield 7, 3), (35, .sipush 2042, 3), (38, .iaload, 1), (39, .iload_n 1, 1), (40, .invokevirtual 203, 3), (43, .ifCond .ne 5, 3), (46, .iconst 0, 1), (47, .ireturn, 1), (48, .aload_n 0, 1), (49, .getfield 7, 3), (52, .iload_n 1, 1), (53, .iaload, 1), (54, .istore_n 2, 1), (55, .aload_n 0, 1), (56, .ldc 180, 2), (58, .invokevirtual 182, 3), (61, .ifCond .eq 61, 3), (64, .aload_n 0, 1), (65, .bipush 88, 2), (67, .aload_n 0, 1), (68, .getfield 7, 3), (71, .sipush 2042, 3), (74, .iaload, 1), (75, .invokevirtual 186, 3), (78, .istore_n 3, 1), (79, .iload_n 3, 1), (80, .iconst (-1), 1), (81, .if_icmp .eq 41, 3), (84, .iload_n 2, 1), (85, .iload_n 3, 1), (86, .if_icmp .eq 30, 3), (89, .aload_n 0, 1), (90, .getfield 7, 3), (93, .sipush 2084, 3), (96, .iconst 3, 1), (97, .iload_n 2, 1), (98, .imul, 1), (99, .iadd, 1), (100, .iaload, 1), (101, .aload_n 0, 1), (102, .getfield 7, 3), (105, .sipush 2084, 3), (108, .iconst 3, 1), (109, .iload_n 3, 1), (110, .imul, 1), (111, .iadd, 1), (112, .iaload, 1), (113, .if_icmp .eq 9, 3), (116, .aload_n 0, 1), (117, .iconst 5, 1), (118, .invokevirtual 169, 3), (121, .ireturn, 1), (122, .aload_n 0, 1), (123, .bipush 88, 2), (125, .aload_n 0, 1), (126, .getfield 7, 3), (129, .sipush 2042, 3), (132, .iaload, 1), (133, .iload_n 1, 1), (134, .iconst 1, 1), (135, .iadd, 1), (136, .invokevirtual 203, 3), (139, .ifCond .ne 5, 3), (142, .iconst 0, 1), (143, .ireturn, 1), (144, .aload_n 0, 1), (145, .getfield 7, 3), (148, .sipush 2084, 3), (151, .iconst 3, 1), (152, .iload_n 2, 1), (153, .imul, 1), (154, .iadd, 1), (155, .iconst 2, 1), (156, .iadd, 1), (157, .dup2, 1), (158, .iaload, 1), (159, .iconst 1, 1), (160, .aload_n 0, 1), (161, .getfield 7, 3), (164, .iload_n 1, 1), (165, .iconst 1, 1), (166, .iadd, 1), (167, .iaload, 1), (168, .ishl, 1), (169, .ior, 1), (170, .iastore, 1), (171, .aload_n 0, 1), (172, .getfield 7, 3), (175, .sipush 2043, 3), (178, .dup2, 1), (179, .iaload, 1), (180, .iconst 1, 1), (181, .iadd, 1), (182, .iastore, 1), (183, .iconst 1, 1), (184, .ireturn, 1)]
theorem dc_X12_anAfter : DEC prog_14_method_45_code pc_X12_anAfter dl_X12_anAfter := DEC_of (by decide +kernel)
abbrev rm_X12_anAfter : Room := { frames := 8, cells := 0, slots := 0, locals := 176 }
set_option maxRecDepth 20000 in
theorem sa_X12_anAfter (l : Launch) : SNDALL l prog_14_method_45_code "GivenUpModel" 4 (some .boolean) rm_X12_anAfter P_X12_anAfter pc_X12_anAfter := fun p e s m args below meth c cells slots Q D dA ad A RR hC hR => by
  have hM := RTX_room (R := rm_X12_anAfter) hR
  exact ⟨st_sipush hC (n := 0) (x := 2547) (dc_X12_anAfter 0 (0, .sipush 2547, 3) rfl rfl) rfl (by decide),
    st_istore_n hC (n := 1) (k := 1) (dc_X12_anAfter 1 (3, .istore_n 1, 1) rfl rfl) rfl rfl (by decide),
    st_aload_n hC (n := 2) (k := 0) (dc_X12_anAfter 2 (4, .aload_n 0, 1) rfl rfl) rfl rfl,
    st_getR hC (n := 3) (k := 12) (j := 0) (dc_X12_anAfter 3 (5, .getfield 7, 3) rfl rfl) rfl clf_12 (by decide) rfl (by decide) wd_1552,
    st_sipush hC (n := 4) (x := 2043) (dc_X12_anAfter 4 (8, .sipush 2043, 3) rfl rfl) rfl (by decide),
    st_iald hC (n := 5) (dc_X12_anAfter 5 (11, .iaload, 1) rfl rfl) rfl,
    st_bipush hC (n := 6) (x := 12) (dc_X12_anAfter 6 (12, .bipush 12, 2) rfl rfl) rfl (by decide),
    st_icne hC (n := 7) (dc_X12_anAfter 7 (14, .if_icmp .ne 10, 3) rfl rfl) rfl (by decide),
    st_aload_n hC (n := 8) (k := 0) (dc_X12_anAfter 8 (17, .aload_n 0, 1) rfl rfl) rfl rfl,
    st_bipush hC (n := 9) (x := 6) (dc_X12_anAfter 9 (18, .bipush 6, 2) rfl rfl) rfl (by decide),
    st_callV hC (n := 10) (k := 12) (na := 1) (con_X12_fails l) (dc_X12_anAfter 10 (20, .invokevirtual 169, 3) rfl rfl) rfl wd_1781 wd_160 (by decide) ⟨rfl, rfl, by decide, by decide⟩ hM wd_1778 wd_1780 wd_62 clf_12,
    st_zret hC (n := 11) hR (dc_X12_anAfter 11 (23, .ireturn, 1) rfl rfl),
    st_aload_n hC (n := 12) (k := 0) (dc_X12_anAfter 12 (24, .aload_n 0, 1) rfl rfl) rfl rfl,
    st_callV hC (n := 13) (k := 12) (na := 0) (con_X12_ahead l) (dc_X12_anAfter 13 (25, .invokevirtual 163, 3) rfl rfl) rfl wd_1742 wd_160 (by decide) ⟨rfl, rfl, by decide, by decide⟩ hM wd_1739 wd_1741 wd_55 clf_12,
    st_aload_n hC (n := 14) (k := 0) (dc_X12_anAfter 14 (28, .aload_n 0, 1) rfl rfl) rfl rfl,
    st_bipush hC (n := 15) (x := 88) (dc_X12_anAfter 15 (29, .bipush 88, 2) rfl rfl) rfl (by decide),
    st_aload_n hC (n := 16) (k := 0) (dc_X12_anAfter 16 (31, .aload_n 0, 1) rfl rfl) rfl rfl,
    st_getR hC (n := 17) (k := 12) (j := 0) (dc_X12_anAfter 17 (32, .getfield 7, 3) rfl rfl) rfl clf_12 (by decide) rfl (by decide) wd_1552,
    st_sipush hC (n := 18) (x := 2042) (dc_X12_anAfter 18 (35, .sipush 2042, 3) rfl rfl) rfl (by decide),
    st_iald hC (n := 19) (dc_X12_anAfter 19 (38, .iaload, 1) rfl rfl) rfl,
    st_iload_n hC (n := 20) (k := 1) (dc_X12_anAfter 20 (39, .iload_n 1, 1) rfl rfl) rfl rfl,
    st_callV hC (n := 21) (k := 12) (na := 3) (con_X12_oldOne l) (dc_X12_anAfter 21 (40, .invokevirtual 203, 3) rfl rfl) rfl wd_1817 wd_160 (by decide) ⟨rfl, rfl, by decide, by decide⟩ hM wd_1814 wd_1816 wd_71 clf_12,
    st_ifne hC (n := 22) (dc_X12_anAfter 22 (43, .ifCond .ne 5, 3) rfl rfl) rfl (by decide),
    st_iconst hC (n := 23) (x := 0) (dc_X12_anAfter 23 (46, .iconst 0, 1) rfl rfl) rfl (by decide),
    st_zret hC (n := 24) hR (dc_X12_anAfter 24 (47, .ireturn, 1) rfl rfl),
    st_aload_n hC (n := 25) (k := 0) (dc_X12_anAfter 25 (48, .aload_n 0, 1) rfl rfl) rfl rfl,
    st_getR hC (n := 26) (k := 12) (j := 0) (dc_X12_anAfter 26 (49, .getfield 7, 3) rfl rfl) rfl clf_12 (by decide) rfl (by decide) wd_1552,
    st_iload_n hC (n := 27) (k := 1) (dc_X12_anAfter 27 (52, .iload_n 1, 1) rfl rfl) rfl rfl,
    st_iald hC (n := 28) (dc_X12_anAfter 28 (53, .iaload, 1) rfl rfl) rfl,
    st_istore_n hC (n := 29) (k := 2) (dc_X12_anAfter 29 (54, .istore_n 2, 1) rfl rfl) rfl rfl (by decide),
    st_aload_n hC (n := 30) (k := 0) (dc_X12_anAfter 30 (55, .aload_n 0, 1) rfl rfl) rfl rfl,
    st_ldS1 hC (n := 31) (dc_X12_anAfter 31 (56, .ldc 180, 2) rfl rfl) rfl rfl,
    st_callV hC (n := 32) (k := 12) (na := 1) (con_X12_isName l) (dc_X12_anAfter 32 (58, .invokevirtual 182, 3) rfl rfl) rfl wd_1785 wd_160 (by decide) ⟨rfl, rfl, by decide, by decide⟩ hM wd_1782 wd_1784 wd_63 clf_12,
    st_ifeq hC (n := 33) (dc_X12_anAfter 33 (61, .ifCond .eq 61, 3) rfl rfl) rfl (by decide),
    st_aload_n hC (n := 34) (k := 0) (dc_X12_anAfter 34 (64, .aload_n 0, 1) rfl rfl) rfl rfl,
    st_bipush hC (n := 35) (x := 88) (dc_X12_anAfter 35 (65, .bipush 88, 2) rfl rfl) rfl (by decide),
    st_aload_n hC (n := 36) (k := 0) (dc_X12_anAfter 36 (67, .aload_n 0, 1) rfl rfl) rfl rfl,
    st_getR hC (n := 37) (k := 12) (j := 0) (dc_X12_anAfter 37 (68, .getfield 7, 3) rfl rfl) rfl clf_12 (by decide) rfl (by decide) wd_1552,
    st_sipush hC (n := 38) (x := 2042) (dc_X12_anAfter 38 (71, .sipush 2042, 3) rfl rfl) rfl (by decide),
    st_iald hC (n := 39) (dc_X12_anAfter 39 (74, .iaload, 1) rfl rfl) rfl,
    st_callV hC (n := 40) (k := 12) (na := 2) (con_X12_findHere l) (dc_X12_anAfter 40 (75, .invokevirtual 186, 3) rfl rfl) rfl wd_1789 wd_160 (by decide) ⟨rfl, rfl, by decide, by decide⟩ hM wd_1786 wd_1788 wd_64 clf_12,
    st_istore_n hC (n := 41) (k := 3) (dc_X12_anAfter 41 (78, .istore_n 3, 1) rfl rfl) rfl rfl (by decide),
    st_iload_n hC (n := 42) (k := 3) (dc_X12_anAfter 42 (79, .iload_n 3, 1) rfl rfl) rfl rfl,
    st_iconst hC (n := 43) (x := (-1)) (dc_X12_anAfter 43 (80, .iconst (-1), 1) rfl rfl) rfl (by decide),
    st_iceq hC (n := 44) (dc_X12_anAfter 44 (81, .if_icmp .eq 41, 3) rfl rfl) rfl (by decide),
    st_iload_n hC (n := 45) (k := 2) (dc_X12_anAfter 45 (84, .iload_n 2, 1) rfl rfl) rfl rfl,
    st_iload_n hC (n := 46) (k := 3) (dc_X12_anAfter 46 (85, .iload_n 3, 1) rfl rfl) rfl rfl,
    st_iceq hC (n := 47) (dc_X12_anAfter 47 (86, .if_icmp .eq 30, 3) rfl rfl) rfl (by decide),
    st_aload_n hC (n := 48) (k := 0) (dc_X12_anAfter 48 (89, .aload_n 0, 1) rfl rfl) rfl rfl,
    st_getR hC (n := 49) (k := 12) (j := 0) (dc_X12_anAfter 49 (90, .getfield 7, 3) rfl rfl) rfl clf_12 (by decide) rfl (by decide) wd_1552,
    st_sipush hC (n := 50) (x := 2084) (dc_X12_anAfter 50 (93, .sipush 2084, 3) rfl rfl) rfl (by decide),
    st_iconst hC (n := 51) (x := 3) (dc_X12_anAfter 51 (96, .iconst 3, 1) rfl rfl) rfl (by decide),
    st_iload_n hC (n := 52) (k := 2) (dc_X12_anAfter 52 (97, .iload_n 2, 1) rfl rfl) rfl rfl,
    st_imul hC (n := 53) (dc_X12_anAfter 53 (98, .imul, 1) rfl rfl) rfl,
    st_iadd hC (n := 54) (dc_X12_anAfter 54 (99, .iadd, 1) rfl rfl) rfl,
    st_iald hC (n := 55) (dc_X12_anAfter 55 (100, .iaload, 1) rfl rfl) rfl,
    st_aload_n hC (n := 56) (k := 0) (dc_X12_anAfter 56 (101, .aload_n 0, 1) rfl rfl) rfl rfl,
    st_getR hC (n := 57) (k := 12) (j := 0) (dc_X12_anAfter 57 (102, .getfield 7, 3) rfl rfl) rfl clf_12 (by decide) rfl (by decide) wd_1552,
    st_sipush hC (n := 58) (x := 2084) (dc_X12_anAfter 58 (105, .sipush 2084, 3) rfl rfl) rfl (by decide),
    st_iconst hC (n := 59) (x := 3) (dc_X12_anAfter 59 (108, .iconst 3, 1) rfl rfl) rfl (by decide),
    st_iload_n hC (n := 60) (k := 3) (dc_X12_anAfter 60 (109, .iload_n 3, 1) rfl rfl) rfl rfl,
    st_imul hC (n := 61) (dc_X12_anAfter 61 (110, .imul, 1) rfl rfl) rfl,
    st_iadd hC (n := 62) (dc_X12_anAfter 62 (111, .iadd, 1) rfl rfl) rfl,
    st_iald hC (n := 63) (dc_X12_anAfter 63 (112, .iaload, 1) rfl rfl) rfl,
    st_iceq hC (n := 64) (dc_X12_anAfter 64 (113, .if_icmp .eq 9, 3) rfl rfl) rfl (by decide),
    st_aload_n hC (n := 65) (k := 0) (dc_X12_anAfter 65 (116, .aload_n 0, 1) rfl rfl) rfl rfl,
    st_iconst hC (n := 66) (x := 5) (dc_X12_anAfter 66 (117, .iconst 5, 1) rfl rfl) rfl (by decide),
    st_callV hC (n := 67) (k := 12) (na := 1) (con_X12_fails l) (dc_X12_anAfter 67 (118, .invokevirtual 169, 3) rfl rfl) rfl wd_1781 wd_160 (by decide) ⟨rfl, rfl, by decide, by decide⟩ hM wd_1778 wd_1780 wd_62 clf_12,
    st_zret hC (n := 68) hR (dc_X12_anAfter 68 (121, .ireturn, 1) rfl rfl),
    st_aload_n hC (n := 69) (k := 0) (dc_X12_anAfter 69 (122, .aload_n 0, 1) rfl rfl) rfl rfl,
    st_bipush hC (n := 70) (x := 88) (dc_X12_anAfter 70 (123, .bipush 88, 2) rfl rfl) rfl (by decide),
    st_aload_n hC (n := 71) (k := 0) (dc_X12_anAfter 71 (125, .aload_n 0, 1) rfl rfl) rfl rfl,
    st_getR hC (n := 72) (k := 12) (j := 0) (dc_X12_anAfter 72 (126, .getfield 7, 3) rfl rfl) rfl clf_12 (by decide) rfl (by decide) wd_1552,
    st_sipush hC (n := 73) (x := 2042) (dc_X12_anAfter 73 (129, .sipush 2042, 3) rfl rfl) rfl (by decide),
    st_iald hC (n := 74) (dc_X12_anAfter 74 (132, .iaload, 1) rfl rfl) rfl,
    st_iload_n hC (n := 75) (k := 1) (dc_X12_anAfter 75 (133, .iload_n 1, 1) rfl rfl) rfl rfl,
    st_iconst hC (n := 76) (x := 1) (dc_X12_anAfter 76 (134, .iconst 1, 1) rfl rfl) rfl (by decide),
    st_iadd hC (n := 77) (dc_X12_anAfter 77 (135, .iadd, 1) rfl rfl) rfl,
    st_callV hC (n := 78) (k := 12) (na := 3) (con_X12_oldOne l) (dc_X12_anAfter 78 (136, .invokevirtual 203, 3) rfl rfl) rfl wd_1817 wd_160 (by decide) ⟨rfl, rfl, by decide, by decide⟩ hM wd_1814 wd_1816 wd_71 clf_12,
    st_ifne hC (n := 79) (dc_X12_anAfter 79 (139, .ifCond .ne 5, 3) rfl rfl) rfl (by decide),
    st_iconst hC (n := 80) (x := 0) (dc_X12_anAfter 80 (142, .iconst 0, 1) rfl rfl) rfl (by decide),
    st_zret hC (n := 81) hR (dc_X12_anAfter 81 (143, .ireturn, 1) rfl rfl),
    st_aload_n hC (n := 82) (k := 0) (dc_X12_anAfter 82 (144, .aload_n 0, 1) rfl rfl) rfl rfl,
    st_getR hC (n := 83) (k := 12) (j := 0) (dc_X12_anAfter 83 (145, .getfield 7, 3) rfl rfl) rfl clf_12 (by decide) rfl (by decide) wd_1552,
    st_sipush hC (n := 84) (x := 2084) (dc_X12_anAfter 84 (148, .sipush 2084, 3) rfl rfl) rfl (by decide),
    st_iconst hC (n := 85) (x := 3) (dc_X12_anAfter 85 (151, .iconst 3, 1) rfl rfl) rfl (by decide),
    st_iload_n hC (n := 86) (k := 2) (dc_X12_anAfter 86 (152, .iload_n 2, 1) rfl rfl) rfl rfl,
    st_imul hC (n := 87) (dc_X12_anAfter 87 (153, .imul, 1) rfl rfl) rfl,
    st_iadd hC (n := 88) (dc_X12_anAfter 88 (154, .iadd, 1) rfl rfl) rfl,
    st_iconst hC (n := 89) (x := 2) (dc_X12_anAfter 89 (155, .iconst 2, 1) rfl rfl) rfl (by decide),
    st_iadd hC (n := 90) (dc_X12_anAfter 90 (156, .iadd, 1) rfl rfl) rfl,
    st_dup2 hC (n := 91) (dc_X12_anAfter 91 (157, .dup2, 1) rfl rfl) rfl,
    st_iald hC (n := 92) (dc_X12_anAfter 92 (158, .iaload, 1) rfl rfl) rfl,
    st_iconst hC (n := 93) (x := 1) (dc_X12_anAfter 93 (159, .iconst 1, 1) rfl rfl) rfl (by decide),
    st_aload_n hC (n := 94) (k := 0) (dc_X12_anAfter 94 (160, .aload_n 0, 1) rfl rfl) rfl rfl,
    st_getR hC (n := 95) (k := 12) (j := 0) (dc_X12_anAfter 95 (161, .getfield 7, 3) rfl rfl) rfl clf_12 (by decide) rfl (by decide) wd_1552,
    st_iload_n hC (n := 96) (k := 1) (dc_X12_anAfter 96 (164, .iload_n 1, 1) rfl rfl) rfl rfl,
    st_iconst hC (n := 97) (x := 1) (dc_X12_anAfter 97 (165, .iconst 1, 1) rfl rfl) rfl (by decide),
    st_iadd hC (n := 98) (dc_X12_anAfter 98 (166, .iadd, 1) rfl rfl) rfl,
    st_iald hC (n := 99) (dc_X12_anAfter 99 (167, .iaload, 1) rfl rfl) rfl,
    st_ishl hC (n := 100) (dc_X12_anAfter 100 (168, .ishl, 1) rfl rfl) rfl,
    st_ior hC (n := 101) (dc_X12_anAfter 101 (169, .ior, 1) rfl rfl) rfl,
    st_iast hC (n := 102) (dc_X12_anAfter 102 (170, .iastore, 1) rfl rfl) rfl,
    st_aload_n hC (n := 103) (k := 0) (dc_X12_anAfter 103 (171, .aload_n 0, 1) rfl rfl) rfl rfl,
    st_getR hC (n := 104) (k := 12) (j := 0) (dc_X12_anAfter 104 (172, .getfield 7, 3) rfl rfl) rfl clf_12 (by decide) rfl (by decide) wd_1552,
    st_sipush hC (n := 105) (x := 2043) (dc_X12_anAfter 105 (175, .sipush 2043, 3) rfl rfl) rfl (by decide),
    st_dup2 hC (n := 106) (dc_X12_anAfter 106 (178, .dup2, 1) rfl rfl) rfl,
    st_iald hC (n := 107) (dc_X12_anAfter 107 (179, .iaload, 1) rfl rfl) rfl,
    st_iconst hC (n := 108) (x := 1) (dc_X12_anAfter 108 (180, .iconst 1, 1) rfl rfl) rfl (by decide),
    st_iadd hC (n := 109) (dc_X12_anAfter 109 (181, .iadd, 1) rfl rfl) rfl,
    st_iast hC (n := 110) (dc_X12_anAfter 110 (182, .iastore, 1) rfl rfl) rfl,
    st_iconst hC (n := 111) (x := 1) (dc_X12_anAfter 111 (183, .iconst 1, 1) rfl rfl) rfl (by decide),
    st_zret hC (n := 112) hR (dc_X12_anAfter 112 (184, .ireturn, 1) rfl rfl), trivial⟩
set_option maxRecDepth 8000 in
theorem vc_X12_anAfter : VC P_X12_anAfter 4 Pre_X12_anAfter Fn_X12_anAfter := by
  rintro mm as hom hoa ⟨ns, nm, nt, hJ, rfl⟩
  refine ⟨Nat.le_of_ble_eq_true rfl, fun X h => ?_⟩
  have h2 : mm.1 54 0 2042 = nI nt := hJ.2.2.2.1
  have hnt : nt ≤ 12 := hJ.2.2.2.2
  have ent : (nI nt).toNatClampNeg = nt := nI_clamp (by omega)
  have e47 : (nI 2547).toNatClampNeg = 2547 := nI_clamp (by omega)
  have i48 : nI 2547 + 1 = nI 2548 := nI_1 _
  have e48 : (nI 2547 + 1).toNatClampNeg = 2548 := by rw [i48]; exact nI_clamp (by omega)
  replace h : RUN P_X12_anAfter (RT (pAf mm)) X := h
  have hp : pAf mm = if mm.1 54 0 2043 = 12 then (false, faM mm 6) else pBd (pOl (ahM mm) 88 nt 2547) afB := by unfold pAf; rw [h2, ent]
  rw [hp] at h
  clear hp
  have s4 : ∀ M p (a : Nat) L3, p = afC a M → a < 12 → RUN P_X12_anAfter (RT p) X → X 82 [some (vR 12 0), some (vI (nI 2547)), some (vI (nI a)), L3] [] (M) := by
    intro M p a L3 hp ha h
    have ex : (2084 + 3 * nI a + 2).toNatClampNeg = 2086 + 3 * a := by simp (disch := omega) only [li, pk_mul, nI_add, nI_clamp]; omega
    have e43 : upd (M.1 54 0) (2086 + 3 * a) (M.1 54 0 (2086 + 3 * a) ||| 1 <<< (M.1 54 0 2548 &&& 31)) 2043 = M.1 54 0 2043 := upd_ne (by omega)
    have ib : inb (2084 + 3 * nI a + 2) (alen 54) = true := inb_o 3060 rfl rfl (show 2084 + 3 * nI a + 2 = nI (2084 + 3 * a + 2) by simp (disch := omega) only [li, pk_mul, nI_add, nI_clamp]) (by omega)
    show X 82 [some (vR 12 0), some (vI (nI 2547)), some (vI (nI a)), L3] [] M
    refine h (fun _ => false) 3000 82 _ _ _ ?_
    refine And.intro (show inb ((2084 + (3 * (nI a))) + 2) (alen 54) = true from ib) ?_
    refine And.intro (show inb ((nI 2547) + 1) (alen 54) = true from (inb_o 3060 (j := 2548) rfl rfl i48 (by omega))) ?_
    refine And.intro (show inb ((2084 + (3 * (nI a))) + 2) (alen 54) = true from ib) ?_
    refine And.intro (show inb 2043 (alen 54) = true from rfl) ?_
    refine And.intro (show inb 2043 (alen 54) = true from rfl) ?_
    refine And.intro (Or.inr rfl) ?_
    show ((some (vI 1) : Option MV), mRow (mRow M 54 0 (upd (M.1 54 0) ((2084 + (3 * (nI a))) + 2).toNatClampNeg ((M.1 54 0 (((2084 + (3 * (nI a))) + 2).toNatClampNeg)) ||| (1 <<< ((M.1 54 0 (((nI 2547) + 1).toNatClampNeg)) &&& 31))))) 54 0 (upd (upd (M.1 54 0) ((2084 + (3 * (nI a))) + 2).toNatClampNeg ((M.1 54 0 (((2084 + (3 * (nI a))) + 2).toNatClampNeg)) ||| (1 <<< ((M.1 54 0 (((nI 2547) + 1).toNatClampNeg)) &&& 31)))) 2043 (((upd (M.1 54 0) ((2084 + (3 * (nI a))) + 2).toNatClampNeg ((M.1 54 0 (((2084 + (3 * (nI a))) + 2).toNatClampNeg)) ||| (1 <<< ((M.1 54 0 (((nI 2547) + 1).toNatClampNeg)) &&& 31)))) 2043) + 1))) = _
    (try simp only [ex, e47, e48])
    rw [e43]
    exact PR_t hp
  have s3 : ∀ M p (a : Nat) L3, PJ M ns nm nt → p = pBd (pOl M 88 nt 2548) (afC a) → a < 12 → RUN P_X12_anAfter (RT p) X → X 69 [some (vR 12 0), some (vI (nI 2547)), some (vI (nI a)), L3] [] (M) := by
    intro M p a L3 hM hp ha h
    have h1 : M.1 54 0 2042 = nI nt := hM.2.2.2.1
    show X 69 [some (vR 12 0), some (vI (nI 2547)), some (vI (nI a)), L3] [] M
    refine h (fun i => Nat.beq i 82) 3000 69 _ _ _ ?_
    refine And.intro (show inb 2042 (alen 54) = true from rfl) ?_
    refine And.intro (show Pre_X12_oldOne M [vR 12 0, vI 88, vI (M.1 54 0 2042), vI ((nI 2547) + 1)] from ⟨hM.1, 88, nt, 2548, by omega, by omega, by rw [h1, i48]; rfl⟩) ?_
    refine brn_c (fun b79 => ?_) (fun b79 => ?_)
    · -- 79: bI ((pOl M 88 (M.1 54 0 2042).toNatClampNeg ((nI 2547) + 1).toNatClampNeg).1 = true) = 0 taken
      replace b79 : (pOl M 88 (M.1 54 0 2042).toNatClampNeg ((nI 2547) + 1).toNatClampNeg).1 = true := bI_n0.mp b79
      (try simp only [e47, h1, ent, e48] at b79)
      show X 82 [some (vR 12 0), some (vI (nI 2547)), some (vI (nI a)), L3] [] ((pOl M 88 (M.1 54 0 2042).toNatClampNeg ((nI 2547) + 1).toNatClampNeg).2)
      (try simp only [e47, h1, ent, e48])
      exact s4 _ _ a _ (by rw [hp, pBd_t b79]) ha h
    · -- 79: bI ((pOl M 88 (M.1 54 0 2042).toNatClampNeg ((nI 2547) + 1).toNatClampNeg).1 = true) = 0 on
      replace b79 : ¬ ((pOl M 88 (M.1 54 0 2042).toNatClampNeg ((nI 2547) + 1).toNatClampNeg).1 = true) := bI_0.mp b79
      (try simp only [e47, h1, ent, e48] at b79)
      refine And.intro (Or.inl rfl) ?_
      show ((some (vI 0) : Option MV), (pOl M 88 (M.1 54 0 2042).toNatClampNeg ((nI 2547) + 1).toNatClampNeg).2) = _
      (try simp only [e47, h1, ent, e48])
      exact PR_f (by rw [hp, pBd_f b79])
  have s2 : ∀ M p (a : Nat), PJ M ns nm nt → M.1 54 0 2547 = nI a → a < nt → p = afB M → RUN P_X12_anAfter (RT p) X → X 25 [some (vR 12 0), some (vI (nI 2547)), none, none] [] (M) := by
    intro M p a hM ha ha12 hp h
    have h1 : M.1 54 0 2042 = nI nt := hM.2.2.2.1
    have ean : (nI a).toNatClampNeg = a := nI_clamp (by omega)
    unfold afB at hp
    have ec : afC (M.1 54 0 2547).toNatClampNeg = afC a := by rw [ha, ean]
    rw [h1, ent, ec] at hp
    have bad : afP M nt → ∀ L3, X 65 [some (vR 12 0), some (vI (nI 2547)), some (vI (nI a)), L3] [] (M) := by
      intro hc L3
      rw [if_pos hc] at hp
      show X 65 [some (vR 12 0), some (vI (nI 2547)), some (vI (nI a)), L3] [] M
      refine h (fun _ => false) 3000 65 _ _ _ ?_
      refine And.intro (show Pre_X12_fails M [vR 12 0, vI 5] from ⟨_, rfl⟩) ?_
      refine And.intro (Or.inl rfl) ?_
      show ((some (vI 0) : Option MV), faM M 5) = _
      exact PR_f hp
    have good : ¬ afP M nt → ∀ L3, X 69 [some (vR 12 0), some (vI (nI 2547)), some (vI (nI a)), L3] [] (M) := by
      intro hc L3
      rw [if_neg hc] at hp
      exact s3 M p a L3 hM hp (by omega) h
    have two : nmP M → ¬ fhA M 88 nt = -1 → X 45 [some (vR 12 0), some (vI (nI 2547)), some (vI (nI a)), some (vI (fhA M 88 nt))] [] (M) := by
      intro hn hf
      obtain ⟨b, hb, eb⟩ : ∃ b, b < nt ∧ fhA M 88 nt = nI b := by
        rcases fsI_in (fun k => M.2.1 55 0 (88 + k) = nmV M) nt 0 with ⟨e, -⟩ | ⟨k, -, hk, e, -⟩
        · exact absurd e hf
        · exact ⟨k, by omega, e⟩
      have ebn : (nI b).toNatClampNeg = b := nI_clamp (by omega)
      have x1 : (2084 + 3 * nI a).toNatClampNeg = 2084 + 3 * a := by simp (disch := omega) only [li, pk_mul, nI_add, nI_clamp]
      have x2 : (2084 + 3 * nI b).toNatClampNeg = 2084 + 3 * b := by simp (disch := omega) only [li, pk_mul, nI_add, nI_clamp]
      rw [eb]
      show X 45 [some (vR 12 0), some (vI (nI 2547)), some (vI (nI a)), some (vI (nI b))] [] M
      refine h (fun i => Nat.beq i 65 || Nat.beq i 69) 3000 45 _ _ _ ?_
      refine br_c (fun b47 => ?_) (fun b47 => ?_)
      · -- 47: nI a = nI b taken
        replace b47 : nI a = nI b := b47
        (try simp only [x1, x2] at b47)
        show X 65 [some (vR 12 0), some (vI (nI 2547)), some (vI (nI a)), some (vI (nI b))] [] M
        (try simp only [x1, x2])
        exact bad ⟨hn, hf, Or.inl (by rw [ha, eb]; exact b47)⟩ _
      · -- 47: nI a = nI b on
        replace b47 : ¬ (nI a = nI b) := b47
        (try simp only [x1, x2] at b47)
        refine And.intro (show inb (2084 + (3 * (nI a))) (alen 54) = true from (inb_o 3060 rfl rfl (show 2084 + (3 * (nI a)) = nI (2084 + (3 * ( a))) by simp (disch := omega) only [li, pk_mul, nI_add, nI_clamp]) (by omega))) ?_
        refine And.intro (show inb (2084 + (3 * (nI b))) (alen 54) = true from (inb_o 3060 rfl rfl (show 2084 + (3 * (nI b)) = nI (2084 + (3 * ( b))) by simp (disch := omega) only [li, pk_mul, nI_add, nI_clamp]) (by omega))) ?_
        refine br_c (fun b64 => ?_) (fun b64 => ?_)
        · -- 64: M.1 54 0 ((2084 + (3 * (nI a))).toNatClampNeg) = M.1 54 0 ((2084 + (3 * (nI b))).toNatClampNeg) taken
          replace b64 : M.1 54 0 ((2084 + (3 * (nI a))).toNatClampNeg) = M.1 54 0 ((2084 + (3 * (nI b))).toNatClampNeg) := b64
          (try simp only [x1, x2] at b64)
          show X 69 [some (vR 12 0), some (vI (nI 2547)), some (vI (nI a)), some (vI (nI b))] [] M
          (try simp only [x1, x2])
          exact good (fun z => z.2.2.elim (fun y => b47 (by rw [ha, eb] at y; exact y)) (fun y => y (by rw [ha, eb, ean, ebn]; exact b64))) _
        · -- 64: M.1 54 0 ((2084 + (3 * (nI a))).toNatClampNeg) = M.1 54 0 ((2084 + (3 * (nI b))).toNatClampNeg) on
          replace b64 : ¬ (M.1 54 0 ((2084 + (3 * (nI a))).toNatClampNeg) = M.1 54 0 ((2084 + (3 * (nI b))).toNatClampNeg)) := b64
          (try simp only [x1, x2] at b64)
          show X 65 [some (vR 12 0), some (vI (nI 2547)), some (vI (nI a)), some (vI (nI b))] [] M
          (try simp only [x1, x2])
          exact bad ⟨hn, hf, Or.inr (by rw [ha, eb, ean, ebn]; exact b64)⟩ _
    show X 25 [some (vR 12 0), some (vI (nI 2547)), none, none] [] M
    refine h (fun i => Nat.beq i 45 || Nat.beq i 69) 3000 25 _ _ _ ?_
    refine And.intro (show inb (nI 2547) (alen 54) = true from (inb_o 3060 rfl rfl rfl (by omega))) ?_
    refine And.intro (show Pre_X12_isName M [vR 12 0, vR 72 1] from ⟨hM.1, rfl⟩) ?_
    refine br_c (fun b33 => ?_) (fun b33 => ?_)
    · -- 33: bI (nmP M) = 0 taken
      replace b33 : ¬ (nmP M) := bI_0.mp b33
      (try simp only [e47, ha, h1, ent] at b33)
      show X 69 [some (vR 12 0), some (vI (nI 2547)), some (vI (M.1 54 0 ((nI 2547).toNatClampNeg))), none] [] M
      (try simp only [e47, ha, h1, ent])
      exact good (fun z => b33 z.1) _
    · -- 33: bI (nmP M) = 0 on
      replace b33 : nmP M := bI_n0.mp b33
      (try simp only [e47, ha, h1, ent] at b33)
      refine And.intro (show inb 2042 (alen 54) = true from rfl) ?_
      refine And.intro (show Pre_X12_findHere M [vR 12 0, vI 88, vI (M.1 54 0 2042)] from ⟨hM.1, 88, nt, by omega, by rw [h1]; rfl⟩) ?_
      refine br_c (fun b44 => ?_) (fun b44 => ?_)
      · -- 44: fhA M 88 (M.1 54 0 2042).toNatClampNeg = (-1) taken
        replace b44 : fhA M 88 (M.1 54 0 2042).toNatClampNeg = (-1) := b44
        (try simp only [e47, ha, h1, ent] at b44)
        show X 69 [some (vR 12 0), some (vI (nI 2547)), some (vI (M.1 54 0 ((nI 2547).toNatClampNeg))), some (vI (fhA M 88 (M.1 54 0 2042).toNatClampNeg))] [] M
        (try simp only [e47, ha, h1, ent])
        exact good (fun z => z.2.1 b44) _
      · -- 44: fhA M 88 (M.1 54 0 2042).toNatClampNeg = (-1) on
        replace b44 : ¬ (fhA M 88 (M.1 54 0 2042).toNatClampNeg = (-1)) := b44
        (try simp only [e47, ha, h1, ent] at b44)
        show X 45 [some (vR 12 0), some (vI (nI 2547)), some (vI (M.1 54 0 ((nI 2547).toNatClampNeg))), some (vI (fhA M 88 (M.1 54 0 2042).toNatClampNeg))] [] M
        (try simp only [e47, ha, h1, ent])
        exact two b33 b44
  have s1 : ∀ M p, PJ M ns nm nt → p = pBd (pOl M 88 nt 2547) afB → RUN P_X12_anAfter (RT p) X → X 14 [some (vR 12 0), some (vI (nI 2547)), none, none] [] (M) := by
    intro M p hM hp h
    have h1 : M.1 54 0 2042 = nI nt := hM.2.2.2.1
    show X 14 [some (vR 12 0), some (vI (nI 2547)), none, none] [] M
    refine h (fun i => Nat.beq i 25) 3000 14 _ _ _ ?_
    refine And.intro (show inb 2042 (alen 54) = true from rfl) ?_
    refine And.intro (show Pre_X12_oldOne M [vR 12 0, vI 88, vI (M.1 54 0 2042), vI (nI 2547)] from ⟨hM.1, 88, nt, 2547, by omega, by omega, by rw [h1]; rfl⟩) ?_
    refine brn_c (fun b22 => ?_) (fun b22 => ?_)
    · -- 22: bI ((pOl M 88 (M.1 54 0 2042).toNatClampNeg (nI 2547).toNatClampNeg).1 = true) = 0 taken
      replace b22 : (pOl M 88 (M.1 54 0 2042).toNatClampNeg (nI 2547).toNatClampNeg).1 = true := bI_n0.mp b22
      (try simp only [e47, h1, ent] at b22)
      show X 25 [some (vR 12 0), some (vI (nI 2547)), none, none] [] ((pOl M 88 (M.1 54 0 2042).toNatClampNeg (nI 2547).toNatClampNeg).2)
      (try simp only [e47, h1, ent])
      obtain ⟨k, hk, e⟩ := pOl_in b22
      exact s2 _ _ k (PJ_ol hM (by decide)) (by rw [e]; exact upd_eq) hk (by rw [hp, pBd_t b22]) h
    · -- 22: bI ((pOl M 88 (M.1 54 0 2042).toNatClampNeg (nI 2547).toNatClampNeg).1 = true) = 0 on
      replace b22 : ¬ ((pOl M 88 (M.1 54 0 2042).toNatClampNeg (nI 2547).toNatClampNeg).1 = true) := bI_0.mp b22
      (try simp only [e47, h1, ent] at b22)
      refine And.intro (Or.inl rfl) ?_
      show ((some (vI 0) : Option MV), (pOl M 88 (M.1 54 0 2042).toNatClampNeg (nI 2547).toNatClampNeg).2) = _
      (try simp only [e47, h1, ent])
      exact PR_f (by rw [hp, pBd_f b22])
  show X 0 [some (vR 12 0), none, none, none] [] mm
  refine h (fun i => Nat.beq i 14) 3000 0 _ _ _ ?_
  refine And.intro (show inb 2043 (alen 54) = true from rfl) ?_
  refine brn_c (fun b7 => ?_) (fun b7 => ?_)
  · -- 7: mm.1 54 0 2043 = 12 taken
    replace b7 : ¬ (mm.1 54 0 2043 = 12) := b7
    refine And.intro (show Pre_X12_ahead mm [vR 12 0] from (TXo_pre hJ.1)) ?_
    show X 14 [some (vR 12 0), some (vI 2547), none, none] [] (ahM mm)
    exact s1 _ _ (PJ_ah hJ) (if_neg b7) h
  · -- 7: mm.1 54 0 2043 = 12 on
    replace b7 : mm.1 54 0 2043 = 12 := b7
    refine And.intro (show Pre_X12_fails mm [vR 12 0, vI 6] from ⟨_, rfl⟩) ?_
    refine And.intro (Or.inl rfl) ?_
    show ((some (vI 0) : Option MV), faM mm 6) = _
    exact PR_f (if_pos b7)
theorem con_X12_anAfter (l : Launch) : CON l y_X12_anAfter prog_14_method_45_code 4 (some .boolean) rm_X12_anAfter Pre_X12_anAfter Fn_X12_anAfter := CON_of (by decide) rfl rfl (sa_X12_anAfter l) vc_X12_anAfter
def onQ (k m1 : Int32) (m : MM) : PR := if k = m1 then pNu m 2044 1 9 else pNu m 2045 1 20
def pOn (m : MM) (k : Int32) : PR := if (m.1 12 0 20 >>> (k &&& 31)) &&& 1 = 1 then (false, faM m 5) else onQ k 6 (ahM (mI m 12 0 20 (m.1 12 0 20 ||| 1 <<< (k &&& 31))))

--tpl ⟨_, _, _, _, (by assumption), rfl⟩ || bI ((pOn {m} {1}).1 = true) || (pOn {m} {1}).2
def Pre_X12_once : PreT := fun m as => ∃ ns nm nt, ∃ k : Int32, PJ m ns nm nt ∧ as = [vR 12 0, vI k]
def Fn_X12_once : FnT := fun m as => match as with
  | [_, Sum.inl k] => (some (vI (bI ((pOn m k).1 = true))), (pOn m k).2)
  | _ => (none, m)
abbrev y_X12_once : MethodName := ⟨"GivenUpModel", "once", "(I)Z"⟩
def P_X12_once : List StpT := [s_aload 0, s_getI 12 20, s_iload 1, s_ishr, s_ic (1), s_iand, s_ic (1), s_icne 12, s_aload 0, s_ic (5), s_callV 12 1 Pre_X12_fails Fn_X12_fails, s_zret, s_aload 0, s_dup, s_getI 12 20, s_ic (1), s_iload 1, s_ishl, s_ior, s_putI 12 20, s_aload 0, s_callV 12 0 Pre_X12_ahead Fn_X12_ahead, s_iload 1, s_ic (6), s_icne 31, s_aload 0, s_ic (2044), s_ic (1), s_ic (9), s_callV 12 3 Pre_X12_number Fn_X12_number, s_goto 36, s_aload 0, s_ic (2045), s_ic (1), s_ic (20), s_callV 12 3 Pre_X12_number Fn_X12_number, s_zret]
def pc_X12_once : Nat → Nat := fun i => [0, 1, 4, 5, 6, 7, 8, 9, 12, 13, 14, 17, 18, 19, 20, 23, 24, 25, 26, 27, 30, 31, 34, 35, 37, 40, 41, 44, 45, 47, 50, 53, 54, 57, 58, 60, 63].getD i 0
def dl_X12_once : List (Nat × Instr × Nat) := [(0, .aload_n 0, 1), (1, .getfield 206, 3), (4, .iload_n 1, 1), (5, .ishr, 1), (6, .iconst 1, 1), (7, .iand, 1), (8, .iconst 1, 1), (9, .if_icmp .ne 9, 3), (12, .aload_n 0, 1), (13, .iconst 5, 1), (14, .invokevirtual 169, 3), (17, .ireturn, 1), (18, .aload_n 0, 1), (19, .dup, 1), (20, .getfield 206, 3), (23, .iconst 1, 1), (24, .iload_n 1, 1), (25, .ishl, 1), (26, .ior, 1), (27, .putfield 206, 3), (30, .aload_n 0, 1), (31, .invokevirtual 163, 3), (34, .iload_n 1, 1), (35, .bipush 6, 2), (37, .if_icmp .ne 16, 3), (40, .aload_n 0, 1), (41, .sipush 2044, 3), (44, .iconst 1, 1), (45, .bipush 9, 2), (47, .invokevirtual 196, 3), (50, .goto 13, 3), (53, .aload_n 0, 1), (54, .sipush 2045, 3), (57, .iconst 1, 1), (58, .bipush 20, 2), (60, .invokevirtual 196, 3), (63, .ireturn, 1)]
theorem dc_X12_once : DEC prog_14_method_47_code pc_X12_once dl_X12_once := DEC_of (by decide +kernel)
abbrev rm_X12_once : Room := { frames := 3, cells := 0, slots := 0, locals := 65 }
set_option maxRecDepth 20000 in
theorem sa_X12_once (l : Launch) : SNDALL l prog_14_method_47_code "GivenUpModel" 2 (some .boolean) rm_X12_once P_X12_once pc_X12_once := fun p e s m args below meth c cells slots Q D dA ad A RR hC hR => by
  have hM := RTX_room (R := rm_X12_once) hR
  exact ⟨st_aload_n hC (n := 0) (k := 0) (dc_X12_once 0 (0, .aload_n 0, 1) rfl rfl) rfl rfl,
    st_getI hC (n := 1) (k := 12) (j := 20) (dc_X12_once 1 (1, .getfield 206, 3) rfl rfl) rfl clf_12 (by decide) rfl wd_1572,
    st_iload_n hC (n := 2) (k := 1) (dc_X12_once 2 (4, .iload_n 1, 1) rfl rfl) rfl rfl,
    st_ishr hC (n := 3) (dc_X12_once 3 (5, .ishr, 1) rfl rfl) rfl,
    st_iconst hC (n := 4) (x := 1) (dc_X12_once 4 (6, .iconst 1, 1) rfl rfl) rfl (by decide),
    st_iand hC (n := 5) (dc_X12_once 5 (7, .iand, 1) rfl rfl) rfl,
    st_iconst hC (n := 6) (x := 1) (dc_X12_once 6 (8, .iconst 1, 1) rfl rfl) rfl (by decide),
    st_icne hC (n := 7) (dc_X12_once 7 (9, .if_icmp .ne 9, 3) rfl rfl) rfl (by decide),
    st_aload_n hC (n := 8) (k := 0) (dc_X12_once 8 (12, .aload_n 0, 1) rfl rfl) rfl rfl,
    st_iconst hC (n := 9) (x := 5) (dc_X12_once 9 (13, .iconst 5, 1) rfl rfl) rfl (by decide),
    st_callV hC (n := 10) (k := 12) (na := 1) (con_X12_fails l) (dc_X12_once 10 (14, .invokevirtual 169, 3) rfl rfl) rfl wd_1781 wd_160 (by decide) ⟨rfl, rfl, by decide, by decide⟩ hM wd_1778 wd_1780 wd_62 clf_12,
    st_zret hC (n := 11) hR (dc_X12_once 11 (17, .ireturn, 1) rfl rfl),
    st_aload_n hC (n := 12) (k := 0) (dc_X12_once 12 (18, .aload_n 0, 1) rfl rfl) rfl rfl,
    st_dup hC (n := 13) (dc_X12_once 13 (19, .dup, 1) rfl rfl) rfl,
    st_getI hC (n := 14) (k := 12) (j := 20) (dc_X12_once 14 (20, .getfield 206, 3) rfl rfl) rfl clf_12 (by decide) rfl wd_1572,
    st_iconst hC (n := 15) (x := 1) (dc_X12_once 15 (23, .iconst 1, 1) rfl rfl) rfl (by decide),
    st_iload_n hC (n := 16) (k := 1) (dc_X12_once 16 (24, .iload_n 1, 1) rfl rfl) rfl rfl,
    st_ishl hC (n := 17) (dc_X12_once 17 (25, .ishl, 1) rfl rfl) rfl,
    st_ior hC (n := 18) (dc_X12_once 18 (26, .ior, 1) rfl rfl) rfl,
    st_putI hC (n := 19) (k := 12) (j := 20) (dc_X12_once 19 (27, .putfield 206, 3) rfl rfl) rfl clf_12 (by decide) rfl rfl rfl wd_1572,
    st_aload_n hC (n := 20) (k := 0) (dc_X12_once 20 (30, .aload_n 0, 1) rfl rfl) rfl rfl,
    st_callV hC (n := 21) (k := 12) (na := 0) (con_X12_ahead l) (dc_X12_once 21 (31, .invokevirtual 163, 3) rfl rfl) rfl wd_1742 wd_160 (by decide) ⟨rfl, rfl, by decide, by decide⟩ hM wd_1739 wd_1741 wd_55 clf_12,
    st_iload_n hC (n := 22) (k := 1) (dc_X12_once 22 (34, .iload_n 1, 1) rfl rfl) rfl rfl,
    st_bipush hC (n := 23) (x := 6) (dc_X12_once 23 (35, .bipush 6, 2) rfl rfl) rfl (by decide),
    st_icne hC (n := 24) (dc_X12_once 24 (37, .if_icmp .ne 16, 3) rfl rfl) rfl (by decide),
    st_aload_n hC (n := 25) (k := 0) (dc_X12_once 25 (40, .aload_n 0, 1) rfl rfl) rfl rfl,
    st_sipush hC (n := 26) (x := 2044) (dc_X12_once 26 (41, .sipush 2044, 3) rfl rfl) rfl (by decide),
    st_iconst hC (n := 27) (x := 1) (dc_X12_once 27 (44, .iconst 1, 1) rfl rfl) rfl (by decide),
    st_bipush hC (n := 28) (x := 9) (dc_X12_once 28 (45, .bipush 9, 2) rfl rfl) rfl (by decide),
    st_callV hC (n := 29) (k := 12) (na := 3) (con_X12_number l) (dc_X12_once 29 (47, .invokevirtual 196, 3) rfl rfl) rfl wd_1801 wd_160 (by decide) ⟨rfl, rfl, by decide, by decide⟩ hM wd_1798 wd_1800 wd_67 clf_12,
    st_goto hC (n := 30) (dc_X12_once 30 (50, .goto 13, 3) rfl rfl) (by decide),
    st_aload_n hC (n := 31) (k := 0) (dc_X12_once 31 (53, .aload_n 0, 1) rfl rfl) rfl rfl,
    st_sipush hC (n := 32) (x := 2045) (dc_X12_once 32 (54, .sipush 2045, 3) rfl rfl) rfl (by decide),
    st_iconst hC (n := 33) (x := 1) (dc_X12_once 33 (57, .iconst 1, 1) rfl rfl) rfl (by decide),
    st_bipush hC (n := 34) (x := 20) (dc_X12_once 34 (58, .bipush 20, 2) rfl rfl) rfl (by decide),
    st_callV hC (n := 35) (k := 12) (na := 3) (con_X12_number l) (dc_X12_once 35 (60, .invokevirtual 196, 3) rfl rfl) rfl wd_1801 wd_160 (by decide) ⟨rfl, rfl, by decide, by decide⟩ hM wd_1798 wd_1800 wd_67 clf_12,
    st_zret hC (n := 36) hR (dc_X12_once 36 (63, .ireturn, 1) rfl rfl), trivial⟩
set_option maxRecDepth 8000 in
theorem vc_X12_once : VC P_X12_once 2 Pre_X12_once Fn_X12_once := by
  rintro mm as hom hoa ⟨ns, nm, nt, k, hJ, rfl⟩
  refine ⟨Nat.le_of_ble_eq_true rfl, fun X h => ?_⟩
  replace h : RUN P_X12_once (RT (pOn mm k)) X := h
  have s1 : ∀ M p, PJ M ns nm nt → p = onQ k 6 M → RUN P_X12_once (RT p) X → X 22 [some (vR 12 0), some (vI (k))] [] (M) := by
    intro M p hM hp h
    show X 22 [some (vR 12 0), some (vI k)] [] M
    refine h (fun _ => false) 3000 22 _ _ _ ?_
    refine brn_c (fun b24 => ?_) (fun b24 => ?_)
    · -- 24: k = 6 taken
      replace b24 : ¬ (k = 6) := b24
      refine And.intro (show Pre_X12_number M [vR 12 0, vI 2045, vI 1, vI 20] from ⟨hM.1, 2045, 1, 20, by omega, rfl⟩) ?_
      refine And.intro bI_in ?_
      show ((some (vI (bI ((pNu M 2045 1 20).1 = true))) : Option MV), (pNu M 2045 1 20).2) = _
      exact PR_q (hp.trans (if_neg b24))
    · -- 24: k = 6 on
      replace b24 : k = 6 := b24
      refine And.intro (show Pre_X12_number M [vR 12 0, vI 2044, vI 1, vI 9] from ⟨hM.1, 2044, 1, 9, by omega, rfl⟩) ?_
      refine And.intro bI_in ?_
      show ((some (vI (bI ((pNu M 2044 1 9).1 = true))) : Option MV), (pNu M 2044 1 9).2) = _
      exact PR_q (hp.trans (if_pos b24))
  show X 0 [some (vR 12 0), some (vI k)] [] mm
  refine h (fun i => Nat.beq i 22) 3000 0 _ _ _ ?_
  refine brn_c (fun b7 => ?_) (fun b7 => ?_)
  · -- 7: ((mm.1 12 0 20) >>> (k &&& 31)) &&& 1 = 1 taken
    replace b7 : ¬ (((mm.1 12 0 20) >>> (k &&& 31)) &&& 1 = 1) := b7
    refine And.intro (show Pre_X12_ahead (mI mm 12 0 20 ((mm.1 12 0 20) ||| (1 <<< (k &&& 31)))) [vR 12 0] from (TXo_pre hJ.1)) ?_
    show X 22 [some (vR 12 0), some (vI k)] [] (ahM (mI mm 12 0 20 ((mm.1 12 0 20) ||| (1 <<< (k &&& 31)))))
    exact s1 _ _ (PJ_ah (PJ_12 hJ)) (if_neg b7) h
  · -- 7: ((mm.1 12 0 20) >>> (k &&& 31)) &&& 1 = 1 on
    replace b7 : ((mm.1 12 0 20) >>> (k &&& 31)) &&& 1 = 1 := b7
    refine And.intro (show Pre_X12_fails mm [vR 12 0, vI 5] from ⟨_, rfl⟩) ?_
    refine And.intro (Or.inl rfl) ?_
    show ((some (vI 0) : Option MV), faM mm 5) = _
    exact PR_f (if_pos b7)
theorem con_X12_once (l : Launch) : CON l y_X12_once prog_14_method_47_code 2 (some .boolean) rm_X12_once Pre_X12_once Fn_X12_once := CON_of (by decide) rfl rfl (sa_X12_once l) vc_X12_once
