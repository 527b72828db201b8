/-! PART 47: the model: a part, a whole text of a valley -/

theorem GT_suT {m : MM} (h : TXo m) : GT m (pSu m).2 := GT_bd (GT_nwf (GT_r h)) (fun _ h => GT_suA h)
theorem GT_maT {m : MM} (h : TXo m) : GT m (pMa m).2 := GT_bd (GT_nwf (GT_r h)) (fun _ h => GT_maA h)
theorem GT_tgT {m : MM} (h : TXo m) : GT m (pTg m).2 := GT_bd (GT_nwf (GT_r h)) (fun _ h => GT_tgA h)

--tpl ⟨(by assumption), rfl⟩ || bI ((pVp {m}).1 = true) || (pVp {m}).2
def Pre_X12_valleyPart : PreT := fun m as => PI m ∧ as = [vR 12 0]
def Fn_X12_valleyPart : FnT := fun m _ => (some (vI (bI ((pVp m).1 = true))), (pVp m).2)
abbrev y_X12_valleyPart : MethodName := ⟨"GivenUpModel", "valleyPart", "()Z"⟩
def P_X12_valleyPart : List StpT := [s_aload 0, s_ldS 1, s_callV 12 1 Pre_X12_inWords Fn_X12_inWords, s_sw (tsw (0) [4, 8, 12, 16, 20, 24, 28, 33]) 38, s_aload 0, s_callV 12 0 Pre_X12_aSuitor Fn_X12_aSuitor, s_istore 1, s_goto 42, s_aload 0, s_callV 12 0 Pre_X12_aMaid Fn_X12_aMaid, s_istore 1, s_goto 42, s_aload 0, s_callV 12 0 Pre_X12_aThing Fn_X12_aThing, s_istore 1, s_goto 42, s_aload 0, s_callV 12 0 Pre_X12_aSaying Fn_X12_aSaying, s_istore 1, s_goto 42, s_aload 0, s_callV 12 0 Pre_X12_anAfter Fn_X12_anAfter, s_istore 1, s_goto 42, s_aload 0, s_callV 12 0 Pre_X12_aLiking Fn_X12_aLiking, s_istore 1, s_goto 42, s_aload 0, s_ic (6), s_callV 12 1 Pre_X12_once Fn_X12_once, s_istore 1, s_goto 42, s_aload 0, s_ic (7), s_callV 12 1 Pre_X12_once Fn_X12_once, s_istore 1, s_goto 42, s_aload 0, s_ic (2), s_callV 12 1 Pre_X12_fails Fn_X12_fails, s_zret, s_iload 1, s_ifeq 50, s_aload 0, s_ic (59), s_callV 12 1 Pre_X12_wantSign Fn_X12_wantSign, s_ifeq 50, s_ic (1), s_goto 51, s_ic (0), s_zret]
def pc_X12_valleyPart : Nat → Nat := fun i => [0, 1, 3, 6, 52, 53, 56, 57, 60, 61, 64, 65, 68, 69, 72, 73, 76, 77, 80, 81, 84, 85, 88, 89, 92, 93, 96, 97, 100, 101, 103, 106, 107, 110, 111, 113, 116, 117, 120, 121, 122, 125, 126, 127, 130, 131, 133, 136, 139, 140, 143, 144].getD i 0
def dl_X12_valleyPart : List (Nat × Instr × Nat) := [(0, .aload_n 0, 1), (1, .ldc 180, 2), (3, .invokevirtual 172, 3), (6, .tableswitch 114 0 7 #[46, 54, 62, 70, 78, 86, 94, 104], 46), (52, .aload_n 0, 1), (53, .invokevirtual 209, 3), (56, .istore_n 1, 1), (57, .goto 69, 3), (60, .aload_n 0, 1), (61, .invokevirtual 213, 3), (64, .istore_n 1, 1), (65, .goto 61, 3), (68, .aload_n 0, 1), (69, .invokevirtual 216, 3), (72, .istore_n 1, 1), (73, .goto 53, 3), (76, .aload_n 0, 1), (77, .invokevirtual 219, 3), (80, .istore_n 1, 1), (81, .goto 45, 3), (84, .aload_n 0, 1), (85, .invokevirtual 222, 3), (88, .istore_n 1, 1), (89, .goto 37, 3), (92, .aload_n 0, 1), (93, .invokevirtual 225, 3), (96, .istore_n 1, 1), (97, .goto 29, 3), (100, .aload_n 0, 1), (101, .bipush 6, 2), (103, .invokevirtual 228, 3), (106, .istore_n 1, 1), (107, .goto 19, 3), (110, .aload_n 0, 1), (111, .bipush 7, 2), (113, .invokevirtual 228, 3), (116, .istore_n 1, 1), (117, .goto 9, 3), (120, .aload_n 0, 1), (121, .iconst 2, 1), (122, .invokevirtual 169, 3), (125, .ireturn, 1), (126, .iload_n 1, 1), (127, .ifCond .eq 16, 3), (130, .aload_n 0, 1), (131, .bipush 59, 2), (133, .invokevirtual 231, 3), (136, .ifCond .eq 7, 3), (139, .iconst 1, 1), (140, .goto 4, 3), (143, .iconst 0, 1), (144, .ireturn, 1)]
theorem dc_X12_valleyPart : DEC prog_14_method_48_code pc_X12_valleyPart dl_X12_valleyPart := DEC_of (by decide +kernel)
abbrev rm_X12_valleyPart : Room := { frames := 9, cells := 0, slots := 0, locals := 199 }
set_option maxRecDepth 20000 in
theorem sa_X12_valleyPart (l : Launch) : SNDALL l prog_14_method_48_code "GivenUpModel" 2 (some .boolean) rm_X12_valleyPart P_X12_valleyPart pc_X12_valleyPart := fun p e s m args below meth c cells slots Q D dA ad A RR hC hR => by
  have hM := RTX_room (R := rm_X12_valleyPart) hR
  exact ⟨st_aload_n hC (n := 0) (k := 0) (dc_X12_valleyPart 0 (0, .aload_n 0, 1) rfl rfl) rfl rfl,
    st_ldS1 hC (n := 1) (dc_X12_valleyPart 1 (1, .ldc 180, 2) rfl rfl) rfl rfl,
    st_callV hC (n := 2) (k := 12) (na := 1) (con_X12_inWords l) (dc_X12_valleyPart 2 (3, .invokevirtual 172, 3) rfl rfl) rfl wd_1767 wd_160 (by decide) ⟨rfl, rfl, by decide, by decide⟩ hM wd_1764 wd_1766 wd_59 clf_12,
    st_table hC (n := 3) (ts := [4, 8, 12, 16, 20, 24, 28, 33]) (dc_X12_valleyPart 3 (6, .tableswitch 114 0 7 #[46, 54, 62, 70, 78, 86, 94, 104], 46) rfl rfl) (by decide) (by decide) (by decide) (by decide) (swt_of _ _ _ (by decide +kernel)),
    st_aload_n hC (n := 4) (k := 0) (dc_X12_valleyPart 4 (52, .aload_n 0, 1) rfl rfl) rfl rfl,
    st_callV hC (n := 5) (k := 12) (na := 0) (con_X12_aSuitor l) (dc_X12_valleyPart 5 (53, .invokevirtual 209, 3) rfl rfl) rfl wd_1773 wd_160 (by decide) ⟨rfl, rfl, by decide, by decide⟩ hM wd_1770 wd_1772 wd_60 clf_12,
    st_istore_n hC (n := 6) (k := 1) (dc_X12_valleyPart 6 (56, .istore_n 1, 1) rfl rfl) rfl rfl (by decide),
    st_goto hC (n := 7) (dc_X12_valleyPart 7 (57, .goto 69, 3) rfl rfl) (by decide),
    st_aload_n hC (n := 8) (k := 0) (dc_X12_valleyPart 8 (60, .aload_n 0, 1) rfl rfl) rfl rfl,
    st_callV hC (n := 9) (k := 12) (na := 0) (con_X12_aMaid l) (dc_X12_valleyPart 9 (61, .invokevirtual 213, 3) rfl rfl) rfl wd_1805 wd_160 (by decide) ⟨rfl, rfl, by decide, by decide⟩ hM wd_1802 wd_1804 wd_68 clf_12,
    st_istore_n hC (n := 10) (k := 1) (dc_X12_valleyPart 10 (64, .istore_n 1, 1) rfl rfl) rfl rfl (by decide),
    st_goto hC (n := 11) (dc_X12_valleyPart 11 (65, .goto 61, 3) rfl rfl) (by decide),
    st_aload_n hC (n := 12) (k := 0) (dc_X12_valleyPart 12 (68, .aload_n 0, 1) rfl rfl) rfl rfl,
    st_callV hC (n := 13) (k := 12) (na := 0) (con_X12_aThing l) (dc_X12_valleyPart 13 (69, .invokevirtual 216, 3) rfl rfl) rfl wd_1813 wd_160 (by decide) ⟨rfl, rfl, by decide, by decide⟩ hM wd_1810 wd_1812 wd_70 clf_12,
    st_istore_n hC (n := 14) (k := 1) (dc_X12_valleyPart 14 (72, .istore_n 1, 1) rfl rfl) rfl rfl (by decide),
    st_goto hC (n := 15) (dc_X12_valleyPart 15 (73, .goto 53, 3) rfl rfl) (by decide),
    st_aload_n hC (n := 16) (k := 0) (dc_X12_valleyPart 16 (76, .aload_n 0, 1) rfl rfl) rfl rfl,
    st_callV hC (n := 17) (k := 12) (na := 0) (con_X12_aSaying l) (dc_X12_valleyPart 17 (77, .invokevirtual 219, 3) rfl rfl) rfl wd_1821 wd_160 (by decide) ⟨rfl, rfl, by decide, by decide⟩ hM wd_1818 wd_1820 wd_72 clf_12,
    st_istore_n hC (n := 18) (k := 1) (dc_X12_valleyPart 18 (80, .istore_n 1, 1) rfl rfl) rfl rfl (by decide),
    st_goto hC (n := 19) (dc_X12_valleyPart 19 (81, .goto 45, 3) rfl rfl) (by decide),
    st_aload_n hC (n := 20) (k := 0) (dc_X12_valleyPart 20 (84, .aload_n 0, 1) rfl rfl) rfl rfl,
    st_callV hC (n := 21) (k := 12) (na := 0) (con_X12_anAfter l) (dc_X12_valleyPart 21 (85, .invokevirtual 222, 3) rfl rfl) rfl wd_1825 wd_160 (by decide) ⟨rfl, rfl, by decide, by decide⟩ hM wd_1822 wd_1824 wd_73 clf_12,
    st_istore_n hC (n := 22) (k := 1) (dc_X12_valleyPart 22 (88, .istore_n 1, 1) rfl rfl) rfl rfl (by decide),
    st_goto hC (n := 23) (dc_X12_valleyPart 23 (89, .goto 37, 3) rfl rfl) (by decide),
    st_aload_n hC (n := 24) (k := 0) (dc_X12_valleyPart 24 (92, .aload_n 0, 1) rfl rfl) rfl rfl,
    st_callV hC (n := 25) (k := 12) (na := 0) (con_X12_aLiking l) (dc_X12_valleyPart 25 (93, .invokevirtual 225, 3) rfl rfl) rfl wd_1829 wd_160 (by decide) ⟨rfl, rfl, by decide, by decide⟩ hM wd_1826 wd_1828 wd_74 clf_12,
    st_istore_n hC (n := 26) (k := 1) (dc_X12_valleyPart 26 (96, .istore_n 1, 1) rfl rfl) rfl rfl (by decide),
    st_goto hC (n := 27) (dc_X12_valleyPart 27 (97, .goto 29, 3) rfl rfl) (by decide),
    st_aload_n hC (n := 28) (k := 0) (dc_X12_valleyPart 28 (100, .aload_n 0, 1) rfl rfl) rfl rfl,
    st_bipush hC (n := 29) (x := 6) (dc_X12_valleyPart 29 (101, .bipush 6, 2) rfl rfl) rfl (by decide),
    st_callV hC (n := 30) (k := 12) (na := 1) (con_X12_once l) (dc_X12_valleyPart 30 (103, .invokevirtual 228, 3) rfl rfl) rfl wd_1833 wd_160 (by decide) ⟨rfl, rfl, by decide, by decide⟩ hM wd_1830 wd_1832 wd_75 clf_12,
    st_istore_n hC (n := 31) (k := 1) (dc_X12_valleyPart 31 (106, .istore_n 1, 1) rfl rfl) rfl rfl (by decide),
    st_goto hC (n := 32) (dc_X12_valleyPart 32 (107, .goto 19, 3) rfl rfl) (by decide),
    st_aload_n hC (n := 33) (k := 0) (dc_X12_valleyPart 33 (110, .aload_n 0, 1) rfl rfl) rfl rfl,
    st_bipush hC (n := 34) (x := 7) (dc_X12_valleyPart 34 (111, .bipush 7, 2) rfl rfl) rfl (by decide),
    st_callV hC (n := 35) (k := 12) (na := 1) (con_X12_once l) (dc_X12_valleyPart 35 (113, .invokevirtual 228, 3) rfl rfl) rfl wd_1833 wd_160 (by decide) ⟨rfl, rfl, by decide, by decide⟩ hM wd_1830 wd_1832 wd_75 clf_12,
    st_istore_n hC (n := 36) (k := 1) (dc_X12_valleyPart 36 (116, .istore_n 1, 1) rfl rfl) rfl rfl (by decide),
    st_goto hC (n := 37) (dc_X12_valleyPart 37 (117, .goto 9, 3) rfl rfl) (by decide),
    st_aload_n hC (n := 38) (k := 0) (dc_X12_valleyPart 38 (120, .aload_n 0, 1) rfl rfl) rfl rfl,
    st_iconst hC (n := 39) (x := 2) (dc_X12_valleyPart 39 (121, .iconst 2, 1) rfl rfl) rfl (by decide),
    st_callV hC (n := 40) (k := 12) (na := 1) (con_X12_fails l) (dc_X12_valleyPart 40 (122, .invokevirtual 169, 3) rfl rfl) rfl wd_1781 wd_160 (by decide) ⟨rfl, rfl, by decide, by decide⟩ hM wd_1778 wd_1780 wd_62 clf_12,
    st_zret hC (n := 41) hR (dc_X12_valleyPart 41 (125, .ireturn, 1) rfl rfl),
    st_iload_n hC (n := 42) (k := 1) (dc_X12_valleyPart 42 (126, .iload_n 1, 1) rfl rfl) rfl rfl,
    st_ifeq hC (n := 43) (dc_X12_valleyPart 43 (127, .ifCond .eq 16, 3) rfl rfl) rfl (by decide),
    st_aload_n hC (n := 44) (k := 0) (dc_X12_valleyPart 44 (130, .aload_n 0, 1) rfl rfl) rfl rfl,
    st_bipush hC (n := 45) (x := 59) (dc_X12_valleyPart 45 (131, .bipush 59, 2) rfl rfl) rfl (by decide),
    st_callV hC (n := 46) (k := 12) (na := 1) (con_X12_wantSign l) (dc_X12_valleyPart 46 (133, .invokevirtual 231, 3) rfl rfl) rfl wd_1837 wd_160 (by decide) ⟨rfl, rfl, by decide, by decide⟩ hM wd_1834 wd_1836 wd_76 clf_12,
    st_ifeq hC (n := 47) (dc_X12_valleyPart 47 (136, .ifCond .eq 7, 3) rfl rfl) rfl (by decide),
    st_iconst hC (n := 48) (x := 1) (dc_X12_valleyPart 48 (139, .iconst 1, 1) rfl rfl) rfl (by decide),
    st_goto hC (n := 49) (dc_X12_valleyPart 49 (140, .goto 4, 3) rfl rfl) (by decide),
    st_iconst hC (n := 50) (x := 0) (dc_X12_valleyPart 50 (143, .iconst 0, 1) rfl rfl) rfl (by decide),
    st_zret hC (n := 51) hR (dc_X12_valleyPart 51 (144, .ireturn, 1) rfl rfl), trivial⟩
set_option maxRecDepth 8000 in
theorem vc_X12_valleyPart : VC P_X12_valleyPart 2 Pre_X12_valleyPart Fn_X12_valleyPart := by
  rintro mm as hom hoa ⟨⟨ns, nm, nt, hJ⟩, rfl⟩
  refine ⟨Nat.le_of_ble_eq_true rfl, fun X h => ?_⟩
  replace h : RUN P_X12_valleyPart (RT (pVp mm)) X := h
  have fin : ∀ q : PR, pVp mm = pBd q sgE → TXo q.2 → X 42 [some (vR 12 0), some (vI (bI (q.1 = true)))] [] (q.2) := by
    intro q hq hT
    rw [hq] at h
    clear hq
    have bad : ∀ M, pBd q sgE = (false, M) → X 50 [some (vR 12 0), some (vI (bI (q.1 = true)))] [] (M) := by
      intro M hc
      show X 50 [some (vR 12 0), some (vI (bI (q.1 = true)))] [] M
      refine h (fun _ => false) 3000 50 _ _ _ ?_
      refine And.intro (Or.inl rfl) ?_
      show ((some (vI 0) : Option MV), M) = _
      exact PR_f hc
    show X 42 [some (vR 12 0), some (vI (bI (q.1 = true)))] [] q.2
    refine h (fun i => Nat.beq i 50) 3000 42 _ _ _ ?_
    refine br_c (fun b43 => ?_) (fun b43 => ?_)
    · -- 43: bI (q.1 = true) = 0 taken
      replace b43 : ¬ (q.1 = true) := bI_0.mp b43
      show X 50 [some (vR 12 0), some (vI (bI (q.1 = true)))] [] q.2
      exact bad _ (pBd_f b43)
    · -- 43: bI (q.1 = true) = 0 on
      replace b43 : q.1 = true := bI_n0.mp b43
      refine And.intro (show Pre_X12_wantSign q.2 [vR 12 0, vI 59] from ⟨hT, _, rfl⟩) ?_
      refine br_c (fun b47 => ?_) (fun b47 => ?_)
      · -- 47: bI ((pSg (q.2) 59).1 = true) = 0 taken
        replace b47 : ¬ ((pSg (q.2) 59).1 = true) := bI_0.mp b47
        show X 50 [some (vR 12 0), some (vI (bI (q.1 = true)))] [] ((pSg (q.2) 59).2)
        exact bad _ (by rw [pBd_t b43]; exact Prod.ext (pr_n b47) rfl)
      · -- 47: bI ((pSg (q.2) 59).1 = true) = 0 on
        replace b47 : (pSg (q.2) 59).1 = true := bI_n0.mp b47
        refine And.intro (Or.inr rfl) ?_
        show ((some (vI 1) : Option MV), (pSg (q.2) 59).2) = _
        exact PR_t (by rw [pBd_t b43]; exact Prod.ext b47 rfl)
  show X 0 [some (vR 12 0), none] [] mm
  refine h (fun i => Nat.beq i 42) 3000 0 _ _ _ ?_
  refine And.intro (show Pre_X12_inWords mm [vR 12 0, vR 72 1] from ⟨hJ.1, rfl⟩) ?_
  refine And.intro ⟨fun b3 => ?_, fun b3 => ?_, fun b3 => ?_, fun b3 => ?_, fun b3 => ?_, fun b3 => ?_, fun b3 => ?_, fun b3 => ?_, trivial⟩ ?_
  · replace b3 : kyA mm = 0 := b3
    refine And.intro (show Pre_X12_aSuitor mm [vR 12 0] from ⟨ns, nm, nt, hJ, rfl⟩) ?_
    show X 42 [some (vR 12 0), some (vI (bI ((pSu mm).1 = true)))] [] ((pSu mm).2)
    refine fin _ (by unfold pVp; rw [b3]; rfl) ?_
    first | exact (GT_suT hJ.1).1 | exact (GT_maT hJ.1).1 | exact (GT_tgT hJ.1).1 | exact (PJ_sy hJ).1 | exact (PJ_af hJ).1 | exact (PJ_lk hJ).1 | exact (PJ_on hJ).1
  · replace b3 : kyA mm = 1 := b3
    refine And.intro (show Pre_X12_aMaid mm [vR 12 0] from ⟨ns, nm, nt, hJ, rfl⟩) ?_
    show X 42 [some (vR 12 0), some (vI (bI ((pMa mm).1 = true)))] [] ((pMa mm).2)
    refine fin _ (by unfold pVp; rw [b3]; rfl) ?_
    first | exact (GT_suT hJ.1).1 | exact (GT_maT hJ.1).1 | exact (GT_tgT hJ.1).1 | exact (PJ_sy hJ).1 | exact (PJ_af hJ).1 | exact (PJ_lk hJ).1 | exact (PJ_on hJ).1
  · replace b3 : kyA mm = 2 := b3
    refine And.intro (show Pre_X12_aThing mm [vR 12 0] from ⟨ns, nm, nt, hJ, rfl⟩) ?_
    show X 42 [some (vR 12 0), some (vI (bI ((pTg mm).1 = true)))] [] ((pTg mm).2)
    refine fin _ (by unfold pVp; rw [b3]; rfl) ?_
    first | exact (GT_suT hJ.1).1 | exact (GT_maT hJ.1).1 | exact (GT_tgT hJ.1).1 | exact (PJ_sy hJ).1 | exact (PJ_af hJ).1 | exact (PJ_lk hJ).1 | exact (PJ_on hJ).1
  · replace b3 : kyA mm = 3 := b3
    refine And.intro (show Pre_X12_aSaying mm [vR 12 0] from ⟨ns, nm, nt, hJ, rfl⟩) ?_
    show X 42 [some (vR 12 0), some (vI (bI ((pSy mm).1 = true)))] [] ((pSy mm).2)
    refine fin _ (by unfold pVp; rw [b3]; rfl) ?_
    first | exact (GT_suT hJ.1).1 | exact (GT_maT hJ.1).1 | exact (GT_tgT hJ.1).1 | exact (PJ_sy hJ).1 | exact (PJ_af hJ).1 | exact (PJ_lk hJ).1 | exact (PJ_on hJ).1
  · replace b3 : kyA mm = 4 := b3
    refine And.intro (show Pre_X12_anAfter mm [vR 12 0] from ⟨ns, nm, nt, hJ, rfl⟩) ?_
    show X 42 [some (vR 12 0), some (vI (bI ((pAf mm).1 = true)))] [] ((pAf mm).2)
    refine fin _ (by unfold pVp; rw [b3]; rfl) ?_
    first | exact (GT_suT hJ.1).1 | exact (GT_maT hJ.1).1 | exact (GT_tgT hJ.1).1 | exact (PJ_sy hJ).1 | exact (PJ_af hJ).1 | exact (PJ_lk hJ).1 | exact (PJ_on hJ).1
  · replace b3 : kyA mm = 5 := b3
    refine And.intro (show Pre_X12_aLiking mm [vR 12 0] from ⟨ns, nm, nt, hJ, rfl⟩) ?_
    show X 42 [some (vR 12 0), some (vI (bI ((pLk mm).1 = true)))] [] ((pLk mm).2)
    refine fin _ (by unfold pVp; rw [b3]; rfl) ?_
    first | exact (GT_suT hJ.1).1 | exact (GT_maT hJ.1).1 | exact (GT_tgT hJ.1).1 | exact (PJ_sy hJ).1 | exact (PJ_af hJ).1 | exact (PJ_lk hJ).1 | exact (PJ_on hJ).1
  · replace b3 : kyA mm = 6 := b3
    refine And.intro (show Pre_X12_once mm [vR 12 0, vI 6] from ⟨ns, nm, nt, 6, hJ, rfl⟩) ?_
    show X 42 [some (vR 12 0), some (vI (bI ((pOn mm 6).1 = true)))] [] ((pOn mm 6).2)
    refine fin _ (by unfold pVp; rw [b3]; rfl) ?_
    first | exact (GT_suT hJ.1).1 | exact (GT_maT hJ.1).1 | exact (GT_tgT hJ.1).1 | exact (PJ_sy hJ).1 | exact (PJ_af hJ).1 | exact (PJ_lk hJ).1 | exact (PJ_on hJ).1
  · replace b3 : kyA mm = 7 := b3
    refine And.intro (show Pre_X12_once mm [vR 12 0, vI 7] from ⟨ns, nm, nt, 7, hJ, rfl⟩) ?_
    show X 42 [some (vR 12 0), some (vI (bI ((pOn mm 7).1 = true)))] [] ((pOn mm 7).2)
    refine fin _ (by unfold pVp; rw [b3]; rfl) ?_
    first | exact (GT_suT hJ.1).1 | exact (GT_maT hJ.1).1 | exact (GT_tgT hJ.1).1 | exact (PJ_sy hJ).1 | exact (PJ_af hJ).1 | exact (PJ_lk hJ).1 | exact (PJ_on hJ).1
  · intro b3
    have n3_0 : ¬ kyA mm = 0 := b3 (0, 4) (by decide)
    have n3_1 : ¬ kyA mm = 1 := b3 (1, 8) (by decide)
    have n3_2 : ¬ kyA mm = 2 := b3 (2, 12) (by decide)
    have n3_3 : ¬ kyA mm = 3 := b3 (3, 16) (by decide)
    have n3_4 : ¬ kyA mm = 4 := b3 (4, 20) (by decide)
    have n3_5 : ¬ kyA mm = 5 := b3 (5, 24) (by decide)
    have n3_6 : ¬ kyA mm = 6 := b3 (6, 28) (by decide)
    have n3_7 : ¬ kyA mm = 7 := b3 (7, 33) (by decide)
    refine And.intro (show Pre_X12_fails mm [vR 12 0, vI 2] from ⟨_, rfl⟩) ?_
    refine And.intro (Or.inl rfl) ?_
    show ((some (vI 0) : Option MV), faM mm 2) = _
    exact PR_f (by unfold pVp; rw [if_neg n3_0, if_neg n3_1, if_neg n3_2, if_neg n3_3, if_neg n3_4, if_neg n3_5, if_neg n3_6, if_neg n3_7])
theorem con_X12_valleyPart (l : Launch) : CON l y_X12_valleyPart prog_14_method_48_code 2 (some .boolean) rm_X12_valleyPart Pre_X12_valleyPart Fn_X12_valleyPart := CON_of (by decide) rfl rfl (sa_X12_valleyPart l) vc_X12_valleyPart
/-- the whole text -/
def vlL : Nat → MM → MM
  | 0, m => m
  | f + 1, m => if m.1 12 0 12 = 0 then m else if (pVp m).1 = true then vlL f (pVp m).2 else (pVp m).2
def cp54 (m : MM) : MM := mRow m 54 0 (fun j => if j < 510 then m.1 54 0 (2040 + j) else m.1 54 0 j)
def cp55 (m : MM) : MM := mRowL m 55 0 (fun j => if j < 20 then m.2.1 55 0 (80 + j) else m.2.1 55 0 j)
def vlE (m : MM) : MM := mite (m.1 12 0 18 = 0) (cp55 (cp54 m)) m
def vlB (m : MM) (k : Nat) : MM := mI (mRow (bgM m k) 54 0 (plR (m.1 54 0) 2040)) 12 0 20 0
def vlR (m : MM) (k : Nat) : Option MV × MM := tnR (vlE (vlL 901 (vlB m k))) ((vlE (vlL 901 (vlB m k))).1 54 0 2)
theorem PJ_vlB {m : MM} {k : Nat} (hk : k ≤ 900) : PJ (vlB m k) 0 0 0 := by
  have hT : TXo (bgM m k) := TXo_tk (S := k) rfl hk (by
    show tkS _ (nI k).toNatClampNeg (0 : Int32).toNatClampNeg ≤ k
    rw [nI_clamp (by omega)]
    exact tkS_le _ (Nat.zero_le _))
  refine ⟨hT, ⟨?_, by omega⟩, ⟨?_, by omega⟩, ⟨?_, by omega⟩⟩
  · show plR (m.1 54 0) 2040 2040 = _
    unfold plR
    rw [upd_ne (by decide), upd_ne (by decide), upd_ne (by decide)]
    rfl
  · show plR (m.1 54 0) 2040 2041 = _
    unfold plR
    rw [upd_ne (by decide), upd_ne (by decide), upd_ne (by decide)]
    rfl
  · show plR (m.1 54 0) 2040 2042 = _
    unfold plR
    rw [upd_ne (by decide), upd_ne (by decide), upd_ne (by decide)]
    rfl
/-- the TOKEN is none only at the end -/
def TKo (m : MM) : Prop := m.1 12 0 12 = 0 ∨ txs m < txe m
theorem TKo_tk {m : MM} {S s : Nat} (hS : m.1 12 0 11 = nI S) (hS9 : S ≤ 900) (hs : s ≤ S) : TKo (tkM m s) := by
  have hSn : (m.1 12 0 11).toNatClampNeg = S := by rw [hS]; exact nI_clamp (by omega)
  unfold TKo txs txe
  show tkK (m.1 60 0) (m.1 12 0 11).toNatClampNeg s = 0 ∨ (nI s).toNatClampNeg < (nI (tkE (m.1 60 0) (m.1 12 0 11).toNatClampNeg s)).toNatClampNeg
  rw [hSn]
  have h3 := tkE_le (m.1 60 0) hs
  have h4 := tkE_gt (m.1 60 0) S s
  rw [nI_clamp (by omega), nI_clamp (by omega)]
  exact h4
theorem TKo_ah {m : MM} (h : TXo m) : TKo (ahM m) := by
  obtain ⟨S, s, e, hS, hS9, hs, he, hse, heS⟩ := h
  have hSn : (m.1 12 0 11).toNatClampNeg = S := by rw [hS]; exact nI_clamp (by omega)
  refine TKo_tk hS hS9 ?_
  rw [hSn, he, nI_clamp (by omega)]
  exact tkS_le _ heS
theorem TKo_vlB {m : MM} {k : Nat} (hk : k ≤ 900) : TKo (vlB m k) := TKo_tk (m := bgF (bgT m k)) (S := k) rfl hk (by
    show tkS _ (nI k).toNatClampNeg (0 : Int32).toNatClampNeg ≤ k
    rw [nI_clamp (by omega)]
    exact tkS_le _ (Nat.zero_le _))
theorem txs_le {m : MM} (h : TXo m) : txs m ≤ 900 := by
  obtain ⟨S, s, e, hS, hS9, hs, he, hse, heS⟩ := h
  show (m.1 12 0 13).toNatClampNeg ≤ 900
  rw [hs, nI_clamp (by omega)]
  omega
theorem pSg_ah {m : MM} {c : Int32} (h : (pSg m c).1 = true) : pSg m c = (true, ahM m) := by
  unfold pSg at h ⊢
  split
  · rfl
  · rename_i h1; rw [if_neg h1] at h; exact no_ft h
theorem pVp_tk {m : MM} (h : PI m) (hp : (pVp m).1 = true) : TKo (pVp m).2 := by
  obtain ⟨ns, nm, nt, hJ⟩ := h
  suffices z : ∀ p, p = pVp m → p.1 = true → TKo p.2 from z _ rfl hp
  clear hp
  intro p e hp
  have key : ∀ q : PR, TXo q.2 → p = pBd q sgE → TKo p.2 := by
    intro q hq hpq
    rw [hpq] at hp ⊢
    have h1 := pBd_1 hp
    have h2 := pBd_2 hp
    rw [pBd_t h1]
    unfold sgE at h2 ⊢
    rw [pSg_ah h2]
    exact TKo_ah hq
  unfold pVp at e
  split at e
  · exact key _ (GT_suT hJ.1).1 e
  split at e
  · exact key _ (GT_maT hJ.1).1 e
  split at e
  · exact key _ (GT_tgT hJ.1).1 e
  split at e
  · exact key _ (PJ_sy hJ).1 e
  split at e
  · exact key _ (PJ_af hJ).1 e
  split at e
  · exact key _ (PJ_lk hJ).1 e
  split at e
  · exact key _ (PJ_on hJ).1 e
  split at e
  · exact key _ (PJ_on hJ).1 e
  · subst e; exact no_ft hp
/-- more steps don't matter -/
theorem vlL_st {m : MM} (h : PI m) (h0 : ¬ m.1 12 0 12 = 0) (ht : TKo m) (hp : (pVp m).1 = true) : txs m < txs (pVp m).2 := by
  have h1 := (pVp_ok h hp).2.2.2
  obtain ⟨ns, nm, nt, hJ⟩ := h
  have h2 := txs_ah hJ.1
  have h3 := ht.resolve_left h0
  omega

def cpA (o : Nat → Int32) (i : Nat) : Nat → Int32 := fun j => if j < i then o (2040 + j) else o j
theorem cpA_s (o : Nat → Int32) (i : Nat) : upd (cpA o i) i (o (2040 + i)) = cpA o (i + 1) := by
  funext j
  unfold upd cpA
  by_cases h : j = i
  · subst h
    rw [if_pos rfl, if_pos (by omega)]
  · rw [if_neg h]
    by_cases h2 : j < i
    · rw [if_pos h2, if_pos (by omega)]
    · rw [if_neg h2, if_neg (by omega)]
theorem cpA_r (o : Nat → Int32) (i : Nat) : cpA o i (2040 + i) = o (2040 + i) := if_neg (by omega)
theorem cpA_0 (o : Nat → Int32) : cpA o 0 = o := by
  funext j
  exact if_neg (by omega)
def cpN (o : Nat → Int64) (i : Nat) : Nat → Int64 := fun j => if j < i then o (80 + j) else o j
theorem cpN_s (o : Nat → Int64) (i : Nat) : vp_updL (cpN o i) i (o (80 + i)) = cpN o (i + 1) := by
  funext j
  unfold vp_updL cpN
  by_cases h : j = i
  · subst h
    rw [if_pos rfl, if_pos (by omega)]
  · rw [if_neg h]
    by_cases h2 : j < i
    · rw [if_pos h2, if_pos (by omega)]
    · rw [if_neg h2, if_neg (by omega)]
theorem cpN_r (o : Nat → Int64) (i : Nat) : cpN o i (80 + i) = o (80 + i) := if_neg (by omega)
theorem cpN_0 (o : Nat → Int64) : cpN o 0 = o := by
  funext j
  exact if_neg (by omega)

--tpl rfl
def Pre_X12_valley : PreT := fun m as => ∃ (t : Nat) (n : Int32), m.1 12 0 10 = nI t ∧ t ≤ 900 ∧ as = [vR 12 0, vI n]
def Fn_X12_valley : FnT := fun m as => match as with
  | [_, Sum.inl n] => if bgP m n 900 then vlR m n.toNatClampNeg else rfM m 1
  | _ => (none, m)
abbrev y_X12_valley : MethodName := ⟨"GivenUpModel", "valley", "(I)I"⟩
def P_X12_valley : List StpT := [s_aload 0, s_iload 1, s_ic (900), s_callV 12 2 Pre_X12_begins Fn_X12_begins, s_ifne 9, s_aload 0, s_ic (1), s_callV 12 1 Pre_X12_refuse Fn_X12_refuse, s_iret, s_aload 0, s_ic (2040), s_callV 12 1 Pre_X12_plain Fn_X12_plain, s_aload 0, s_ic (0), s_putI 12 20, s_ic (1), s_istore 2, s_iload 2, s_ifeq 26, s_aload 0, s_getI 12 12, s_ifeq 26, s_aload 0, s_callV 12 0 Pre_X12_valleyPart Fn_X12_valleyPart, s_istore 2, s_goto 17, s_aload 0, s_getI 12 18, s_ifne 63, s_ic (0), s_istore 3, s_iload 3, s_ic (510), s_icge 46, s_aload 0, s_getR 12 0 54, s_iload 3, s_aload 0, s_getR 12 0 54, s_ic (2040), s_iload 3, s_iadd, s_iald, s_iast, s_iinc 3 (1), s_goto 31, s_ic (0), s_istore 3, s_iload 3, s_ic (20), s_icge 63, s_aload 0, s_getR 12 1 55, s_iload 3, s_aload 0, s_getR 12 1 55, s_ic (80), s_iload 3, s_iadd, s_lald, s_last, s_iinc 3 (1), s_goto 48, s_aload 0, s_aload 0, s_getR 12 0 54, s_ic (2), s_iald, s_callV 12 1 Pre_X12_taken Fn_X12_taken, s_iret]
def pc_X12_valley : Nat → Nat := fun i => [0, 1, 2, 5, 8, 11, 12, 13, 16, 17, 18, 21, 24, 25, 26, 29, 30, 31, 32, 35, 36, 39, 42, 43, 46, 47, 50, 51, 54, 57, 58, 59, 60, 63, 66, 67, 70, 71, 72, 75, 78, 79, 80, 81, 82, 85, 88, 89, 90, 91, 93, 96, 97, 100, 101, 102, 105, 107, 108, 109, 110, 111, 114, 117, 118, 119, 122, 123, 124, 127].getD i 0
def dl_X12_valley : List (Nat × Instr × Nat) := [(0, .aload_n 0, 1), (1, .iload_n 1, 1), (2, .sipush 900, 3), (5, .invokevirtual 234, 3), (8, .ifCond .ne 9, 3), (11, .aload_n 0, 1), (12, .iconst 1, 1), (13, .invokevirtual 87, 3), (16, .ireturn, 1), (17, .aload_n 0, 1), (18, .sipush 2040, 3), (21, .invokevirtual 77, 3), (24, .aload_n 0, 1), (25, .iconst 0, 1), (26, .putfield 206, 3), (29, .iconst 1, 1), (30, .istore_n 2, 1), (31, .iload_n 2, 1), (32, .ifCond .eq 18, 3), (35, .aload_n 0, 1), (36, .getfield 132, 3), (39, .ifCond .eq 11, 3), (42, .aload_n 0, 1), (43, .invokevirtual 238, 3), (46, .istore_n 2, 1), (47, .goto (-16), 3), (50, .aload_n 0, 1), (51, .getfield 157, 3), (54, .ifCond .ne 63, 3), (57, .iconst 0, 1), (58, .istore_n 3, 1), (59, .iload_n 3, 1), (60, .sipush 510, 3), (63, .if_icmp .ge 25, 3), (66, .aload_n 0, 1), (67, .getfield 7, 3), (70, .iload_n 3, 1), (71, .aload_n 0, 1), (72, .getfield 7, 3), (75, .sipush 2040, 3), (78, .iload_n 3, 1), (79, .iadd, 1), (80, .iaload, 1), (81, .iastore, 1), (82, .iinc 3 1, 3), (85, .goto (-26), 3), (88, .iconst 0, 1), (89, .istore_n 3, 1), (90, .iload_n 3, 1), (91, .bipush 20, 2), (93, .if_icmp .ge 24, 3), (96, .aload_n 0, 1), (97, .getfield 13, 3), (100, .iload_n 3, 1), (101, .aload_n 0, 1), (102, .getfield 13, 3), (105, .bipush 80, 2), (107, .iload_n 3, 1), (108, .iadd, 1), (109, .laload, 1), (110, .lastore, 1), (111, .iinc 3 1, 3), (114, .goto (-24), 3), (117, .aload_n 0, 1), (118, .aload_n 0, 1), (119, .getfield 7, 3), (122, .iconst 2, 1), (123, .iaload, 1), (124, .invokevirtual 241, 3), (127, .ireturn, 1)]
theorem dc_X12_valley : DEC prog_14_method_49_code pc_X12_valley dl_X12_valley := DEC_of (by decide +kernel)
abbrev rm_X12_valley : Room := { frames := 10, cells := 0, slots := 0, locals := 220 }
set_option maxRecDepth 20000 in
theorem sa_X12_valley (l : Launch) : SNDALL l prog_14_method_49_code "GivenUpModel" 4 (some .int) rm_X12_valley P_X12_valley pc_X12_valley := fun p e s m args below meth c cells slots Q D dA ad A RR hC hR => by
  have hM := RTX_room (R := rm_X12_valley) hR
  exact ⟨st_aload_n hC (n := 0) (k := 0) (dc_X12_valley 0 (0, .aload_n 0, 1) rfl rfl) rfl rfl,
    st_iload_n hC (n := 1) (k := 1) (dc_X12_valley 1 (1, .iload_n 1, 1) rfl rfl) rfl rfl,
    st_sipush hC (n := 2) (x := 900) (dc_X12_valley 2 (2, .sipush 900, 3) rfl rfl) rfl (by decide),
    st_callV hC (n := 3) (k := 12) (na := 2) (con_X12_begins l) (dc_X12_valley 3 (5, .invokevirtual 234, 3) rfl rfl) rfl wd_1738 wd_160 (by decide) ⟨rfl, rfl, by decide, by decide⟩ hM wd_1735 wd_1737 wd_54 clf_12,
    st_ifne hC (n := 4) (dc_X12_valley 4 (8, .ifCond .ne 9, 3) rfl rfl) rfl (by decide),
    st_aload_n hC (n := 5) (k := 0) (dc_X12_valley 5 (11, .aload_n 0, 1) rfl rfl) rfl rfl,
    st_iconst hC (n := 6) (x := 1) (dc_X12_valley 6 (12, .iconst 1, 1) rfl rfl) rfl (by decide),
    st_callV hC (n := 7) (k := 12) (na := 1) (con_X12_refuse l) (dc_X12_valley 7 (13, .invokevirtual 87, 3) rfl rfl) rfl wd_1758 wd_160 (by decide) ⟨rfl, rfl, by decide, by decide⟩ hM wd_1755 wd_1757 wd_57 clf_12,
    st_iret hC (n := 8) hR (dc_X12_valley 8 (16, .ireturn, 1) rfl rfl),
    st_aload_n hC (n := 9) (k := 0) (dc_X12_valley 9 (17, .aload_n 0, 1) rfl rfl) rfl rfl,
    st_sipush hC (n := 10) (x := 2040) (dc_X12_valley 10 (18, .sipush 2040, 3) rfl rfl) rfl (by decide),
    st_callV hC (n := 11) (k := 12) (na := 1) (con_X12_plain l) (dc_X12_valley 11 (21, .invokevirtual 77, 3) rfl rfl) rfl wd_1551 wd_160 (by decide) ⟨rfl, rfl, by decide, by decide⟩ hM wd_1548 wd_1550 wd_50 clf_12,
    st_aload_n hC (n := 12) (k := 0) (dc_X12_valley 12 (24, .aload_n 0, 1) rfl rfl) rfl rfl,
    st_iconst hC (n := 13) (x := 0) (dc_X12_valley 13 (25, .iconst 0, 1) rfl rfl) rfl (by decide),
    st_putI hC (n := 14) (k := 12) (j := 20) (dc_X12_valley 14 (26, .putfield 206, 3) rfl rfl) rfl clf_12 (by decide) rfl rfl rfl wd_1572,
    st_iconst hC (n := 15) (x := 1) (dc_X12_valley 15 (29, .iconst 1, 1) rfl rfl) rfl (by decide),
    st_istore_n hC (n := 16) (k := 2) (dc_X12_valley 16 (30, .istore_n 2, 1) rfl rfl) rfl rfl (by decide),
    st_iload_n hC (n := 17) (k := 2) (dc_X12_valley 17 (31, .iload_n 2, 1) rfl rfl) rfl rfl,
    st_ifeq hC (n := 18) (dc_X12_valley 18 (32, .ifCond .eq 18, 3) rfl rfl) rfl (by decide),
    st_aload_n hC (n := 19) (k := 0) (dc_X12_valley 19 (35, .aload_n 0, 1) rfl rfl) rfl rfl,
    st_getI hC (n := 20) (k := 12) (j := 12) (dc_X12_valley 20 (36, .getfield 132, 3) rfl rfl) rfl clf_12 (by decide) rfl wd_1564,
    st_ifeq hC (n := 21) (dc_X12_valley 21 (39, .ifCond .eq 11, 3) rfl rfl) rfl (by decide),
    st_aload_n hC (n := 22) (k := 0) (dc_X12_valley 22 (42, .aload_n 0, 1) rfl rfl) rfl rfl,
    st_callV hC (n := 23) (k := 12) (na := 0) (con_X12_valleyPart l) (dc_X12_valley 23 (43, .invokevirtual 238, 3) rfl rfl) rfl wd_1762 wd_160 (by decide) ⟨rfl, rfl, by decide, by decide⟩ hM wd_1759 wd_1761 wd_58 clf_12,
    st_istore_n hC (n := 24) (k := 2) (dc_X12_valley 24 (46, .istore_n 2, 1) rfl rfl) rfl rfl (by decide),
    st_goto hC (n := 25) (dc_X12_valley 25 (47, .goto (-16), 3) rfl rfl) (by decide),
    st_aload_n hC (n := 26) (k := 0) (dc_X12_valley 26 (50, .aload_n 0, 1) rfl rfl) rfl rfl,
    st_getI hC (n := 27) (k := 12) (j := 18) (dc_X12_valley 27 (51, .getfield 157, 3) rfl rfl) rfl clf_12 (by decide) rfl wd_1570,
    st_ifne hC (n := 28) (dc_X12_valley 28 (54, .ifCond .ne 63, 3) rfl rfl) rfl (by decide),
    st_iconst hC (n := 29) (x := 0) (dc_X12_valley 29 (57, .iconst 0, 1) rfl rfl) rfl (by decide),
    st_istore_n hC (n := 30) (k := 3) (dc_X12_valley 30 (58, .istore_n 3, 1) rfl rfl) rfl rfl (by decide),
    st_iload_n hC (n := 31) (k := 3) (dc_X12_valley 31 (59, .iload_n 3, 1) rfl rfl) rfl rfl,
    st_sipush hC (n := 32) (x := 510) (dc_X12_valley 32 (60, .sipush 510, 3) rfl rfl) rfl (by decide),
    st_icge hC (n := 33) (dc_X12_valley 33 (63, .if_icmp .ge 25, 3) rfl rfl) rfl (by decide),
    st_aload_n hC (n := 34) (k := 0) (dc_X12_valley 34 (66, .aload_n 0, 1) rfl rfl) rfl rfl,
    st_getR hC (n := 35) (k := 12) (j := 0) (dc_X12_valley 35 (67, .getfield 7, 3) rfl rfl) rfl clf_12 (by decide) rfl (by decide) wd_1552,
    st_iload_n hC (n := 36) (k := 3) (dc_X12_valley 36 (70, .iload_n 3, 1) rfl rfl) rfl rfl,
    st_aload_n hC (n := 37) (k := 0) (dc_X12_valley 37 (71, .aload_n 0, 1) rfl rfl) rfl rfl,
    st_getR hC (n := 38) (k := 12) (j := 0) (dc_X12_valley 38 (72, .getfield 7, 3) rfl rfl) rfl clf_12 (by decide) rfl (by decide) wd_1552,
    st_sipush hC (n := 39) (x := 2040) (dc_X12_valley 39 (75, .sipush 2040, 3) rfl rfl) rfl (by decide),
    st_iload_n hC (n := 40) (k := 3) (dc_X12_valley 40 (78, .iload_n 3, 1) rfl rfl) rfl rfl,
    st_iadd hC (n := 41) (dc_X12_valley 41 (79, .iadd, 1) rfl rfl) rfl,
    st_iald hC (n := 42) (dc_X12_valley 42 (80, .iaload, 1) rfl rfl) rfl,
    st_iast hC (n := 43) (dc_X12_valley 43 (81, .iastore, 1) rfl rfl) rfl,
    st_iinc hC (n := 44) (x := 1) (dc_X12_valley 44 (82, .iinc 3 1, 3) rfl rfl) rfl (by decide) (by decide),
    st_goto hC (n := 45) (dc_X12_valley 45 (85, .goto (-26), 3) rfl rfl) (by decide),
    st_iconst hC (n := 46) (x := 0) (dc_X12_valley 46 (88, .iconst 0, 1) rfl rfl) rfl (by decide),
    st_istore_n hC (n := 47) (k := 3) (dc_X12_valley 47 (89, .istore_n 3, 1) rfl rfl) rfl rfl (by decide),
    st_iload_n hC (n := 48) (k := 3) (dc_X12_valley 48 (90, .iload_n 3, 1) rfl rfl) rfl rfl,
    st_bipush hC (n := 49) (x := 20) (dc_X12_valley 49 (91, .bipush 20, 2) rfl rfl) rfl (by decide),
    st_icge hC (n := 50) (dc_X12_valley 50 (93, .if_icmp .ge 24, 3) rfl rfl) rfl (by decide),
    st_aload_n hC (n := 51) (k := 0) (dc_X12_valley 51 (96, .aload_n 0, 1) rfl rfl) rfl rfl,
    st_getR hC (n := 52) (k := 12) (j := 1) (dc_X12_valley 52 (97, .getfield 13, 3) rfl rfl) rfl clf_12 (by decide) rfl (by decide) wd_1553,
    st_iload_n hC (n := 53) (k := 3) (dc_X12_valley 53 (100, .iload_n 3, 1) rfl rfl) rfl rfl,
    st_aload_n hC (n := 54) (k := 0) (dc_X12_valley 54 (101, .aload_n 0, 1) rfl rfl) rfl rfl,
    st_getR hC (n := 55) (k := 12) (j := 1) (dc_X12_valley 55 (102, .getfield 13, 3) rfl rfl) rfl clf_12 (by decide) rfl (by decide) wd_1553,
    st_bipush hC (n := 56) (x := 80) (dc_X12_valley 56 (105, .bipush 80, 2) rfl rfl) rfl (by decide),
    st_iload_n hC (n := 57) (k := 3) (dc_X12_valley 57 (107, .iload_n 3, 1) rfl rfl) rfl rfl,
    st_iadd hC (n := 58) (dc_X12_valley 58 (108, .iadd, 1) rfl rfl) rfl,
    st_lald hC (n := 59) (dc_X12_valley 59 (109, .laload, 1) rfl rfl) rfl,
    st_last hC (n := 60) (dc_X12_valley 60 (110, .lastore, 1) rfl rfl) rfl,
    st_iinc hC (n := 61) (x := 1) (dc_X12_valley 61 (111, .iinc 3 1, 3) rfl rfl) rfl (by decide) (by decide),
    st_goto hC (n := 62) (dc_X12_valley 62 (114, .goto (-24), 3) rfl rfl) (by decide),
    st_aload_n hC (n := 63) (k := 0) (dc_X12_valley 63 (117, .aload_n 0, 1) rfl rfl) rfl rfl,
    st_aload_n hC (n := 64) (k := 0) (dc_X12_valley 64 (118, .aload_n 0, 1) rfl rfl) rfl rfl,
    st_getR hC (n := 65) (k := 12) (j := 0) (dc_X12_valley 65 (119, .getfield 7, 3) rfl rfl) rfl clf_12 (by decide) rfl (by decide) wd_1552,
    st_iconst hC (n := 66) (x := 2) (dc_X12_valley 66 (122, .iconst 2, 1) rfl rfl) rfl (by decide),
    st_iald hC (n := 67) (dc_X12_valley 67 (123, .iaload, 1) rfl rfl) rfl,
    st_callV hC (n := 68) (k := 12) (na := 1) (con_X12_taken l) (dc_X12_valley 68 (124, .invokevirtual 241, 3) rfl rfl) rfl wd_1845 wd_160 (by decide) ⟨rfl, rfl, by decide, by decide⟩ hM wd_1842 wd_1844 wd_78 clf_12,
    st_iret hC (n := 69) hR (dc_X12_valley 69 (127, .ireturn, 1) rfl rfl), trivial⟩
set_option maxRecDepth 8000 in
theorem vc_X12_valley : VC P_X12_valley 4 Pre_X12_valley Fn_X12_valley := by
  rintro mm as hom hoa ⟨t, n, ht, ht9, rfl⟩
  refine ⟨Nat.le_of_ble_eq_true rfl, fun X h => ?_⟩
  have hF : Fn_X12_valley mm [vR 12 0, vI n] = if bgP mm n 900 then vlR mm n.toNatClampNeg else rfM mm 1 := rfl
  rw [hF] at h
  suffices z : bgP mm n 900 → X 9 [some (vR 12 0), some (vI (n)), none, none] [] (bgM mm n.toNatClampNeg) by
    show X 0 [some (vR 12 0), some (vI n), none, none] [] mm
    refine h (fun i => Nat.beq i 9) 3000 0 _ _ _ ?_
    refine And.intro (show Pre_X12_begins mm [vR 12 0, vI n, vI 900] from ⟨t, _, _, ht, ht9, rfl⟩) ?_
    refine brn_c (fun b4 => ?_) (fun b4 => ?_)
    · -- 4: bI (bgP mm n 900) = 0 taken
      replace b4 : bgP mm n 900 := bI_n0.mp b4
      show X 9 [some (vR 12 0), some (vI n), none, none] [] (mite (bgP mm n 900) (bgM mm n.toNatClampNeg) mm)
      rw [mite_t b4]
      exact z b4
    · -- 4: bI (bgP mm n 900) = 0 on
      replace b4 : ¬ (bgP mm n 900) := bI_0.mp b4
      refine And.intro (show Pre_X12_refuse (mite (bgP mm n 900) (bgM mm n.toNatClampNeg) mm) [vR 12 0, vI 1] from ⟨_, rfl⟩) ?_
      show ((some (vI (-1)) : Option MV), stM (mite (bgP mm n 900) (bgM mm n.toNatClampNeg) mm) 1) = _
      rw [mite_f b4, if_neg b4]
      exact rfl
  intro hc
  rw [if_pos hc] at h
  obtain ⟨k, hk, rfl⟩ : ∃ k, k ≤ 900 ∧ n = nI k := by
    have h2 := hc.2.1
    rw [ht] at h2
    obtain ⟨k, hk, e⟩ := nI_of2 (n := t) (x := n) (nI_toInt (by omega)) hc.1 (Int32.not_lt.mp h2)
    exact ⟨k, by omega, e⟩
  have ek : (nI k).toNatClampNeg = k := nI_clamp (by omega)
  rw [ek] at h ⊢
  unfold vlR at h
  have hM := PJ_vlB (m := mm) hk
  have hTK : TKo (vlB mm k) := TKo_vlB hk
  have fin : ∀ good, X 26 [some (vR 12 0), some (vI (nI k)), some (vI (good)), none] [] (vlL 901 (vlB mm k)) := by
    intro good
    generalize vlL 901 (vlB mm k) = M at h
    have s63 : ∀ N L3, vlE M = N → X 63 [some (vR 12 0), some (vI (nI k)), some (vI (good)), L3] [] (N) := by
      intro N L3 hN
      rw [hN] at h
      show X 63 [some (vR 12 0), some (vI (nI k)), some (vI good), L3] [] N
      refine h (fun _ => false) 3000 63 _ _ _ ?_
      refine And.intro (show inb 2 (alen 54) = true from rfl) ?_
      refine And.intro (show Pre_X12_taken N [vR 12 0, vI (N.1 54 0 2)] from ⟨_, rfl⟩) ?_
      show ((some (vI (if 0 < N.1 12 0 18 then -1 else (N.1 54 0 2))) : Option MV), (tnR N (N.1 54 0 2)).2) = _
      exact tnR_eq N (N.1 54 0 2)
    have copy : M.1 12 0 18 = 0 → X 29 [some (vR 12 0), some (vI (nI k)), some (vI (good)), none] [] (M) := by
      intro h0
      have hE : vlE M = cp55 (cp54 M) := mite_t h0
      have loopB : ∀ i, i ≤ 20 → X 48 [some (vR 12 0), some (vI (nI k)), some (vI (good)), some (vI (nI i))] [] (mRowL (cp54 M) 55 0 (cpN (M.2.1 55 0) i)) := by
        refine up_ind 20 ?_ (fun i hi ih => ?_)
        ·
          show X 48 [some (vR 12 0), some (vI (nI k)), some (vI good), some (vI (nI 20))] [] (mRowL (cp54 M) 55 0 (cpN (M.2.1 55 0) 20))
          refine h (fun i => Nat.beq i 63) 3000 48 _ _ _ ?_
          refine br_t (Int32.le_refl _) ?_
          show X 63 [some (vR 12 0), some (vI (nI k)), some (vI good), some (vI (nI 20))] [] (mRowL (cp54 M) 55 0 (cpN (M.2.1 55 0) 20))
          exact s63 _ _ hE
        · have ei : (nI i).toNatClampNeg = i := nI_clamp (by omega)
          have e8 : (80 + nI i).toNatClampNeg = 80 + i := by simp (disch := omega) only [li, pk_mul, nI_add, nI_clamp]
          show X 48 [some (vR 12 0), some (vI (nI k)), some (vI good), some (vI (nI i))] [] (mRowL (cp54 M) 55 0 (cpN (M.2.1 55 0) i))
          refine h (fun i => Nat.beq i 48) 3000 48 _ _ _ ?_
          refine br_f (show ¬ nI 20 ≤ nI i from nI_ge hi (by omega)) ?_
          refine And.intro (show inb (80 + (nI i)) (alen 55) = true from (inb_o 120 rfl rfl (show 80 + (nI i) = nI (80 + ( i)) by simp (disch := omega) only [li, pk_mul, nI_add, nI_clamp]) (by omega))) ?_
          refine And.intro (show inb (nI i) (alen 55) = true from (inb_o 120 rfl rfl rfl (by omega))) ?_
          show X 48 [some (vR 12 0), some (vI (nI k)), some (vI good), some (vI ((nI i) + 1))] [] (mRowL (mRowL (cp54 M) 55 0 (cpN (M.2.1 55 0) i)) 55 0 (vp_updL (cpN (M.2.1 55 0) i) (nI i).toNatClampNeg ((cpN (M.2.1 55 0) i) ((80 + (nI i)).toNatClampNeg))))
          rw [ei, e8, cpN_r, mRowL2, cpN_s, nI_1]
          exact ih
      have lB := loopB 0 (by omega)
      rw [cpN_0, show mRowL (cp54 M) 55 0 (M.2.1 55 0) = cp54 M from mRowL_self (cp54 M) 55 0] at lB
      have loopA : ∀ i, i ≤ 510 → X 31 [some (vR 12 0), some (vI (nI k)), some (vI (good)), some (vI (nI i))] [] (mRow M 54 0 (cpA (M.1 54 0) i)) := by
        refine up_ind 510 ?_ (fun i hi ih => ?_)
        ·
          show X 31 [some (vR 12 0), some (vI (nI k)), some (vI good), some (vI (nI 510))] [] (mRow M 54 0 (cpA (M.1 54 0) 510))
          refine h (fun i => Nat.beq i 48) 3000 31 _ _ _ ?_
          refine br_t (Int32.le_refl _) ?_
          show X 48 [some (vR 12 0), some (vI (nI k)), some (vI good), some (vI 0)] [] (mRow M 54 0 (cpA (M.1 54 0) 510))
          exact lB
        · have ei : (nI i).toNatClampNeg = i := nI_clamp (by omega)
          have e8 : (2040 + nI i).toNatClampNeg = 2040 + i := by simp (disch := omega) only [li, pk_mul, nI_add, nI_clamp]
          show X 31 [some (vR 12 0), some (vI (nI k)), some (vI good), some (vI (nI i))] [] (mRow M 54 0 (cpA (M.1 54 0) i))
          refine h (fun i => Nat.beq i 31) 3000 31 _ _ _ ?_
          refine br_f (show ¬ nI 510 ≤ nI i from nI_ge hi (by omega)) ?_
          refine And.intro (show inb (2040 + (nI i)) (alen 54) = true from (inb_o 3060 rfl rfl (show 2040 + (nI i) = nI (2040 + ( i)) by simp (disch := omega) only [li, pk_mul, nI_add, nI_clamp]) (by omega))) ?_
          refine And.intro (show inb (nI i) (alen 54) = true from (inb_o 3060 rfl rfl rfl (by omega))) ?_
          show X 31 [some (vR 12 0), some (vI (nI k)), some (vI good), some (vI ((nI i) + 1))] [] (mRow (mRow M 54 0 (cpA (M.1 54 0) i)) 54 0 (upd (cpA (M.1 54 0) i) (nI i).toNatClampNeg ((cpA (M.1 54 0) i) ((2040 + (nI i)).toNatClampNeg))))
          rw [ei, e8, cpA_r, mRow2, cpA_s, nI_1]
          exact ih
      have lA := loopA 0 (by omega)
      rw [cpA_0, mRow_self] at lA
      show X 29 [some (vR 12 0), some (vI (nI k)), some (vI good), none] [] M
      refine h (fun i => Nat.beq i 31) 3000 29 _ _ _ ?_
      show X 31 [some (vR 12 0), some (vI (nI k)), some (vI good), some (vI 0)] [] M
      exact lA
    show X 26 [some (vR 12 0), some (vI (nI k)), some (vI good), none] [] M
    refine h (fun i => Nat.beq i 29 || Nat.beq i 63) 3000 26 _ _ _ ?_
    refine brn_c (fun b28 => ?_) (fun b28 => ?_)
    · -- 28: M.1 12 0 18 = 0 taken
      replace b28 : ¬ (M.1 12 0 18 = 0) := b28
      show X 63 [some (vR 12 0), some (vI (nI k)), some (vI good), none] [] M
      exact s63 M _ (mite_f b28)
    · -- 28: M.1 12 0 18 = 0 on
      replace b28 : M.1 12 0 18 = 0 := b28
      show X 29 [some (vR 12 0), some (vI (nI k)), some (vI good), none] [] M
      exact copy b28
  have loop : ∀ f M, PI M → TKo M → 900 < f + txs M → (∀ good, X 26 [some (vR 12 0), some (vI (nI k)), some (vI (good)), none] [] (vlL f M)) → X 17 [some (vR 12 0), some (vI (nI k)), some (vI (1)), none] [] (M) := by
    intro f
    induction f with
    | zero =>
      intro M hI hT hf
      obtain ⟨ns, nm, nt, hJ⟩ := hI
      have := txs_le hJ.1
      omega
    | succ f ih =>
      intro M hI hT hf hX
      have hv : vlL (f + 1) M = if M.1 12 0 12 = 0 then M else if (pVp M).1 = true then vlL f (pVp M).2 else (pVp M).2 := rfl
      rw [hv] at hX
      by_cases h0 : M.1 12 0 12 = 0
      · rw [if_pos h0] at hX
        show X 17 [some (vR 12 0), some (vI (nI k)), some (vI 1), none] [] M
        refine h (fun i => Nat.beq i 26) 3000 17 _ _ _ ?_
        refine br_f (by decide) ?_
        refine br_t (h0) ?_
        show X 26 [some (vR 12 0), some (vI (nI k)), some (vI 1), none] [] M
        exact hX 1
      · rw [if_neg h0] at hX
        have next : X 17 [some (vR 12 0), some (vI (nI k)), some (vI (bI ((pVp M).1 = true))), none] [] ((pVp M).2) := by
          by_cases hp : (pVp M).1 = true
          · rw [if_pos hp] at hX
            rw [bI_t hp]
            have h2 := vlL_st hI h0 hT hp
            exact ih _ (pVp_ok hI hp).1 (pVp_tk hI hp) (by omega) hX
          · rw [if_neg hp] at hX
            rw [bI_f hp]
            generalize (pVp M).2 = M' at hX
            show X 17 [some (vR 12 0), some (vI (nI k)), some (vI 0), none] [] M'
            refine h (fun i => Nat.beq i 26) 3000 17 _ _ _ ?_
            refine br_t (rfl) ?_
            show X 26 [some (vR 12 0), some (vI (nI k)), some (vI 0), none] [] M'
            exact hX 0
        show X 17 [some (vR 12 0), some (vI (nI k)), some (vI 1), none] [] M
        refine h (fun i => Nat.beq i 17) 3000 17 _ _ _ ?_
        refine br_f (by decide) ?_
        refine br_f (h0) ?_
        refine And.intro (show Pre_X12_valleyPart M [vR 12 0] from ⟨hI, rfl⟩) ?_
        show X 17 [some (vR 12 0), some (vI (nI k)), some (vI (bI ((pVp M).1 = true))), none] [] ((pVp M).2)
        exact next
  have l0 := loop 901 (vlB mm k) ⟨0, 0, 0, hM⟩ hTK (by omega) fin
  show X 9 [some (vR 12 0), some (vI (nI k)), none, none] [] (bgM mm k)
  refine h (fun i => Nat.beq i 17) 3000 9 _ _ _ ?_
  refine And.intro (show Pre_X12_plain (bgM mm k) [vR 12 0, vI 2040] from ⟨2040, by omega, rfl⟩) ?_
  show X 17 [some (vR 12 0), some (vI (nI k)), some (vI 1), none] [] (mI (mRow (bgM mm k) 54 0 (plR ((bgM mm k).1 54 0) 2040)) 12 0 20 0)
  exact l0
theorem con_X12_valley (l : Launch) : CON l y_X12_valley prog_14_method_49_code 4 (some .int) rm_X12_valley Pre_X12_valley Fn_X12_valley := CON_of (by decide) rfl rfl (sa_X12_valley l) vc_X12_valley
