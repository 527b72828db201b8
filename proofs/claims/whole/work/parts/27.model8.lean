/-! PART 27: the model: of suitors, maids, things; ends, lies, cheats; who is dearest, shares -/

def Pre_X12_suitor : PreT := fun m as => VM m ∧ ∃ x w : Int32, as = [vR 12 0, vI x, vI w]
def suR (m : MM) (x w : Int32) : Option MV × MM := if w = 3 then gvM m (wtA (m.1 54 0) (thA (m.1 54 0) x &&& (m.1 54 0 8 ^^^ -1))) else if w = 4 then gvM m (lsA' (m.1 54 0) x) else if w = 5 then onM m (m.1 54 0 (15 + 4 * x.toNatClampNeg)) else if w = 6 then gvM m (thA (m.1 54 0) x) else gvM m (m.1 54 0 (12 + 4 * x.toNatClampNeg + w.toNatClampNeg))
def Fn_X12_suitor : FnT := fun m as => match as with
  | [_, Sum.inl x, Sum.inl w] => if suP (m.1 54 0) x ∧ ¬ w < 0 ∧ w ≤ 6 then suR m x w else rfM m 1
  | _ => (none, m)
abbrev y_X12_suitor : MethodName := ⟨"GivenUpModel", "suitor", "(II)I"⟩
def P_X12_suitor : List StpT := [s_aload 0, s_iload 1, s_callV 12 1 Pre_X12_isSuitor Fn_X12_isSuitor, s_ifeq 9, s_iload 2, s_iflt 9, s_iload 2, s_ic (6), s_icle 13, s_aload 0, s_ic (1), s_callV 12 1 Pre_X12_refuse Fn_X12_refuse, s_iret, s_iload 1, s_callS 1 Pre_X12_suitorRow Fn_X12_suitorRow, s_istore 3, s_iload 2, s_sw (tsw (3) [18, 33, 39, 48]) 54, s_aload 0, s_aload 0, s_aload 0, s_iload 1, s_callV 12 1 Pre_X12_thingsOf Fn_X12_thingsOf, s_aload 0, s_getR 12 0 54, s_ic (8), s_iald, s_ic (-1), s_ixor, s_iand, s_callV 12 1 Pre_X12_worthOf Fn_X12_worthOf, s_callV 12 1 Pre_X12_gives Fn_X12_gives, s_iret, s_aload 0, s_aload 0, s_iload 1, s_callV 12 1 Pre_X12_lossOf Fn_X12_lossOf, s_callV 12 1 Pre_X12_gives Fn_X12_gives, s_iret, s_aload 0, s_aload 0, s_getR 12 0 54, s_iload 3, s_ic (3), s_iadd, s_iald, s_callV 12 1 Pre_X12_orNone Fn_X12_orNone, s_iret, s_aload 0, s_aload 0, s_iload 1, s_callV 12 1 Pre_X12_thingsOf Fn_X12_thingsOf, s_callV 12 1 Pre_X12_gives Fn_X12_gives, s_iret, s_aload 0, s_aload 0, s_getR 12 0 54, s_iload 3, s_iload 2, s_iadd, s_iald, s_callV 12 1 Pre_X12_gives Fn_X12_gives, s_iret]
def pc_X12_suitor : Nat → Nat := fun i => [0, 1, 2, 5, 8, 9, 12, 13, 15, 18, 19, 20, 23, 24, 25, 28, 29, 30, 60, 61, 62, 63, 64, 67, 68, 71, 73, 74, 75, 76, 77, 80, 83, 84, 85, 86, 87, 90, 93, 94, 95, 96, 99, 100, 101, 102, 103, 106, 107, 108, 109, 110, 113, 116, 117, 118, 119, 122, 123, 124, 125, 126, 129].getD i 0
def dl_X12_suitor : List (Nat × Instr × Nat) := [(0, .aload_n 0, 1), (1, .iload_n 1, 1), (2, .invokevirtual 265, 3), (5, .ifCond .eq 13, 3), (8, .iload_n 2, 1), (9, .ifCond .lt 9, 3), (12, .iload_n 2, 1), (13, .bipush 6, 2), (15, .if_icmp .le 9, 3), (18, .aload_n 0, 1), (19, .iconst 1, 1), (20, .invokevirtual 87, 3), (23, .ireturn, 1), (24, .iload_n 1, 1), (25, .invokestatic 289, 3), (28, .istore_n 3, 1), (29, .iload_n 2, 1), (30, .tableswitch 87 3 6 #[30, 54, 64, 77], 30), (60, .aload_n 0, 1), (61, .aload_n 0, 1), (62, .aload_n 0, 1), (63, .iload_n 1, 1), (64, .invokevirtual 280, 3), (67, .aload_n 0, 1), (68, .getfield 7, 3), (71, .bipush 8, 2), (73, .iaload, 1), (74, .iconst (-1), 1), (75, .ixor, 1), (76, .iand, 1), (77, .invokevirtual 304, 3), (80, .invokevirtual 91, 3), (83, .ireturn, 1), (84, .aload_n 0, 1), (85, .aload_n 0, 1), (86, .iload_n 1, 1), (87, .invokevirtual 307, 3), (90, .invokevirtual 91, 3), (93, .ireturn, 1), (94, .aload_n 0, 1), (95, .aload_n 0, 1), (96, .getfield 7, 3), (99, .iload_n 3, 1), (100, .iconst 3, 1), (101, .iadd, 1), (102, .iaload, 1), (103, .invokevirtual 310, 3), (106, .ireturn, 1), (107, .aload_n 0, 1), (108, .aload_n 0, 1), (109, .iload_n 1, 1), (110, .invokevirtual 280, 3), (113, .invokevirtual 91, 3), (116, .ireturn, 1), (117, .aload_n 0, 1), (118, .aload_n 0, 1), (119, .getfield 7, 3), (122, .iload_n 3, 1), (123, .iload_n 2, 1), (124, .iadd, 1), (125, .iaload, 1), (126, .invokevirtual 91, 3), (129, .ireturn, 1)]
theorem dc_X12_suitor : DEC prog_14_method_76_code pc_X12_suitor dl_X12_suitor := DEC_of (by decide +kernel)
abbrev rm_X12_suitor : Room := { frames := 4, cells := 0, slots := 0, locals := 85 }
set_option maxRecDepth 20000 in
theorem sa_X12_suitor (l : Launch) : SNDALL l prog_14_method_76_code "GivenUpModel" 4 (some .int) rm_X12_suitor P_X12_suitor pc_X12_suitor := fun p e s m args below meth c cells slots Q D dA ad A RR hC hR => by
  have hM := RTX_room (R := rm_X12_suitor) hR
  exact ⟨st_aload_n hC (n := 0) (k := 0) (dc_X12_suitor 0 (0, .aload_n 0, 1) rfl rfl) rfl rfl,
    st_iload_n hC (n := 1) (k := 1) (dc_X12_suitor 1 (1, .iload_n 1, 1) rfl rfl) rfl rfl,
    st_callV hC (n := 2) (k := 12) (na := 1) (con_X12_isSuitor l) (dc_X12_suitor 2 (2, .invokevirtual 265, 3) rfl rfl) rfl wd_1885 wd_160 (by decide) ⟨rfl, rfl, by decide, by decide⟩ hM wd_1882 wd_1884 wd_85 clf_12,
    st_ifeq hC (n := 3) (dc_X12_suitor 3 (5, .ifCond .eq 13, 3) rfl rfl) rfl (by decide),
    st_iload_n hC (n := 4) (k := 2) (dc_X12_suitor 4 (8, .iload_n 2, 1) rfl rfl) rfl rfl,
    st_iflt hC (n := 5) (dc_X12_suitor 5 (9, .ifCond .lt 9, 3) rfl rfl) rfl (by decide),
    st_iload_n hC (n := 6) (k := 2) (dc_X12_suitor 6 (12, .iload_n 2, 1) rfl rfl) rfl rfl,
    st_bipush hC (n := 7) (x := 6) (dc_X12_suitor 7 (13, .bipush 6, 2) rfl rfl) rfl (by decide),
    st_icle hC (n := 8) (dc_X12_suitor 8 (15, .if_icmp .le 9, 3) rfl rfl) rfl (by decide),
    st_aload_n hC (n := 9) (k := 0) (dc_X12_suitor 9 (18, .aload_n 0, 1) rfl rfl) rfl rfl,
    st_iconst hC (n := 10) (x := 1) (dc_X12_suitor 10 (19, .iconst 1, 1) rfl rfl) rfl (by decide),
    st_callV hC (n := 11) (k := 12) (na := 1) (con_X12_refuse l) (dc_X12_suitor 11 (20, .invokevirtual 87, 3) rfl rfl) rfl wd_1758 wd_160 (by decide) ⟨rfl, rfl, by decide, by decide⟩ hM wd_1755 wd_1757 wd_57 clf_12,
    st_iret hC (n := 12) hR (dc_X12_suitor 12 (23, .ireturn, 1) rfl rfl),
    st_iload_n hC (n := 13) (k := 1) (dc_X12_suitor 13 (24, .iload_n 1, 1) rfl rfl) rfl rfl,
    st_callS hC (n := 14) (na := 1) (con_X12_suitorRow l) (dc_X12_suitor 14 (25, .invokestatic 289, 3) rfl rfl) rfl wd_1888 wd_160 (by decide) ⟨rfl, rfl, by decide, by decide⟩ hM wd_1886 wd_1887,
    st_istore_n hC (n := 15) (k := 3) (dc_X12_suitor 15 (28, .istore_n 3, 1) rfl rfl) rfl rfl (by decide),
    st_iload_n hC (n := 16) (k := 2) (dc_X12_suitor 16 (29, .iload_n 2, 1) rfl rfl) rfl rfl,
    st_table hC (n := 17) (ts := [18, 33, 39, 48]) (dc_X12_suitor 17 (30, .tableswitch 87 3 6 #[30, 54, 64, 77], 30) rfl rfl) (by decide) (by decide) (by decide) (by decide) (swt_of _ _ _ (by decide +kernel)),
    st_aload_n hC (n := 18) (k := 0) (dc_X12_suitor 18 (60, .aload_n 0, 1) rfl rfl) rfl rfl,
    st_aload_n hC (n := 19) (k := 0) (dc_X12_suitor 19 (61, .aload_n 0, 1) rfl rfl) rfl rfl,
    st_aload_n hC (n := 20) (k := 0) (dc_X12_suitor 20 (62, .aload_n 0, 1) rfl rfl) rfl rfl,
    st_iload_n hC (n := 21) (k := 1) (dc_X12_suitor 21 (63, .iload_n 1, 1) rfl rfl) rfl rfl,
    st_callV hC (n := 22) (k := 12) (na := 1) (con_X12_thingsOf l) (dc_X12_suitor 22 (64, .invokevirtual 280, 3) rfl rfl) rfl wd_1892 wd_160 (by decide) ⟨rfl, rfl, by decide, by decide⟩ hM wd_1889 wd_1891 wd_86 clf_12,
    st_aload_n hC (n := 23) (k := 0) (dc_X12_suitor 23 (67, .aload_n 0, 1) rfl rfl) rfl rfl,
    st_getR hC (n := 24) (k := 12) (j := 0) (dc_X12_suitor 24 (68, .getfield 7, 3) rfl rfl) rfl clf_12 (by decide) rfl (by decide) wd_1552,
    st_bipush hC (n := 25) (x := 8) (dc_X12_suitor 25 (71, .bipush 8, 2) rfl rfl) rfl (by decide),
    st_iald hC (n := 26) (dc_X12_suitor 26 (73, .iaload, 1) rfl rfl) rfl,
    st_iconst hC (n := 27) (x := (-1)) (dc_X12_suitor 27 (74, .iconst (-1), 1) rfl rfl) rfl (by decide),
    st_ixor hC (n := 28) (dc_X12_suitor 28 (75, .ixor, 1) rfl rfl) rfl,
    st_iand hC (n := 29) (dc_X12_suitor 29 (76, .iand, 1) rfl rfl) rfl,
    st_callV hC (n := 30) (k := 12) (na := 1) (con_X12_worthOf l) (dc_X12_suitor 30 (77, .invokevirtual 304, 3) rfl rfl) rfl wd_1903 wd_160 (by decide) ⟨rfl, rfl, by decide, by decide⟩ hM wd_1900 wd_1902 wd_88 clf_12,
    st_callV hC (n := 31) (k := 12) (na := 1) (con_X12_gives l) (dc_X12_suitor 31 (80, .invokevirtual 91, 3) rfl rfl) rfl wd_1849 wd_160 (by decide) ⟨rfl, rfl, by decide, by decide⟩ hM wd_1846 wd_1848 wd_79 clf_12,
    st_iret hC (n := 32) hR (dc_X12_suitor 32 (83, .ireturn, 1) rfl rfl),
    st_aload_n hC (n := 33) (k := 0) (dc_X12_suitor 33 (84, .aload_n 0, 1) rfl rfl) rfl rfl,
    st_aload_n hC (n := 34) (k := 0) (dc_X12_suitor 34 (85, .aload_n 0, 1) rfl rfl) rfl rfl,
    st_iload_n hC (n := 35) (k := 1) (dc_X12_suitor 35 (86, .iload_n 1, 1) rfl rfl) rfl rfl,
    st_callV hC (n := 36) (k := 12) (na := 1) (con_X12_lossOf l) (dc_X12_suitor 36 (87, .invokevirtual 307, 3) rfl rfl) rfl wd_1911 wd_160 (by decide) ⟨rfl, rfl, by decide, by decide⟩ hM wd_1908 wd_1910 wd_90 clf_12,
    st_callV hC (n := 37) (k := 12) (na := 1) (con_X12_gives l) (dc_X12_suitor 37 (90, .invokevirtual 91, 3) rfl rfl) rfl wd_1849 wd_160 (by decide) ⟨rfl, rfl, by decide, by decide⟩ hM wd_1846 wd_1848 wd_79 clf_12,
    st_iret hC (n := 38) hR (dc_X12_suitor 38 (93, .ireturn, 1) rfl rfl),
    st_aload_n hC (n := 39) (k := 0) (dc_X12_suitor 39 (94, .aload_n 0, 1) rfl rfl) rfl rfl,
    st_aload_n hC (n := 40) (k := 0) (dc_X12_suitor 40 (95, .aload_n 0, 1) rfl rfl) rfl rfl,
    st_getR hC (n := 41) (k := 12) (j := 0) (dc_X12_suitor 41 (96, .getfield 7, 3) rfl rfl) rfl clf_12 (by decide) rfl (by decide) wd_1552,
    st_iload_n hC (n := 42) (k := 3) (dc_X12_suitor 42 (99, .iload_n 3, 1) rfl rfl) rfl rfl,
    st_iconst hC (n := 43) (x := 3) (dc_X12_suitor 43 (100, .iconst 3, 1) rfl rfl) rfl (by decide),
    st_iadd hC (n := 44) (dc_X12_suitor 44 (101, .iadd, 1) rfl rfl) rfl,
    st_iald hC (n := 45) (dc_X12_suitor 45 (102, .iaload, 1) rfl rfl) rfl,
    st_callV hC (n := 46) (k := 12) (na := 1) (con_X12_orNone l) (dc_X12_suitor 46 (103, .invokevirtual 310, 3) rfl rfl) rfl wd_1915 wd_160 (by decide) ⟨rfl, rfl, by decide, by decide⟩ hM wd_1912 wd_1914 wd_91 clf_12,
    st_iret hC (n := 47) hR (dc_X12_suitor 47 (106, .ireturn, 1) rfl rfl),
    st_aload_n hC (n := 48) (k := 0) (dc_X12_suitor 48 (107, .aload_n 0, 1) rfl rfl) rfl rfl,
    st_aload_n hC (n := 49) (k := 0) (dc_X12_suitor 49 (108, .aload_n 0, 1) rfl rfl) rfl rfl,
    st_iload_n hC (n := 50) (k := 1) (dc_X12_suitor 50 (109, .iload_n 1, 1) rfl rfl) rfl rfl,
    st_callV hC (n := 51) (k := 12) (na := 1) (con_X12_thingsOf l) (dc_X12_suitor 51 (110, .invokevirtual 280, 3) rfl rfl) rfl wd_1892 wd_160 (by decide) ⟨rfl, rfl, by decide, by decide⟩ hM wd_1889 wd_1891 wd_86 clf_12,
    st_callV hC (n := 52) (k := 12) (na := 1) (con_X12_gives l) (dc_X12_suitor 52 (113, .invokevirtual 91, 3) rfl rfl) rfl wd_1849 wd_160 (by decide) ⟨rfl, rfl, by decide, by decide⟩ hM wd_1846 wd_1848 wd_79 clf_12,
    st_iret hC (n := 53) hR (dc_X12_suitor 53 (116, .ireturn, 1) rfl rfl),
    st_aload_n hC (n := 54) (k := 0) (dc_X12_suitor 54 (117, .aload_n 0, 1) rfl rfl) rfl rfl,
    st_aload_n hC (n := 55) (k := 0) (dc_X12_suitor 55 (118, .aload_n 0, 1) rfl rfl) rfl rfl,
    st_getR hC (n := 56) (k := 12) (j := 0) (dc_X12_suitor 56 (119, .getfield 7, 3) rfl rfl) rfl clf_12 (by decide) rfl (by decide) wd_1552,
    st_iload_n hC (n := 57) (k := 3) (dc_X12_suitor 57 (122, .iload_n 3, 1) rfl rfl) rfl rfl,
    st_iload_n hC (n := 58) (k := 2) (dc_X12_suitor 58 (123, .iload_n 2, 1) rfl rfl) rfl rfl,
    st_iadd hC (n := 59) (dc_X12_suitor 59 (124, .iadd, 1) rfl rfl) rfl,
    st_iald hC (n := 60) (dc_X12_suitor 60 (125, .iaload, 1) rfl rfl) rfl,
    st_callV hC (n := 61) (k := 12) (na := 1) (con_X12_gives l) (dc_X12_suitor 61 (126, .invokevirtual 91, 3) rfl rfl) rfl wd_1849 wd_160 (by decide) ⟨rfl, rfl, by decide, by decide⟩ hM wd_1846 wd_1848 wd_79 clf_12,
    st_iret hC (n := 62) hR (dc_X12_suitor 62 (129, .ireturn, 1) rfl rfl), trivial⟩
theorem vc_X12_suitor : VC P_X12_suitor 4 Pre_X12_suitor Fn_X12_suitor := by
  rintro mm as hom hoa ⟨⟨ns, nm, nt, hV⟩, x, w, rfl⟩
  refine ⟨Nat.le_of_ble_eq_true rfl, fun X h => ?_⟩
  have no : ¬ (suP (mm.1 54 0) x ∧ ¬ w < 0 ∧ w ≤ 6) → X 9 [some (vR 12 0), some (vI x), some (vI w), none] [] mm := by
    intro hn
    refine h (fun _ => false) 3000 9 _ _ _ ?_
    refine And.intro ⟨_, rfl⟩ ?_
    exact (if_neg hn).symm
  refine h (fun i => Nat.beq i 9 || Nat.beq i 13) 3000 0 _ _ _ ?_
  refine And.intro ⟨_, rfl⟩ ?_
  refine br_c (fun h1 => ?_) (fun h1 => ?_)
  · exact no (fun z => bI_0.mp h1 z.1)
  replace h1 := bI_n0.mp h1
  refine br_c (fun h2 => ?_) (fun h2 => ?_)
  · exact no (fun z => z.2.1 h2)
  refine br_c (fun h3 => ?_) (fun h3 => no (fun z => h3 z.2.2))
  obtain ⟨i, hi, rfl⟩ := su_in hV h1
  have hns : ns ≤ 4 := hV.1.2
  have hM : VM mm := ⟨ns, nm, nt, hV⟩
  obtain ⟨k, hk, rfl⟩ := nI_of2 (n := 6) (by decide) h2 h3
  have ei : (nI i).toNatClampNeg = i := nI_clamp (by omega)
  have ek : (nI k).toNatClampNeg = k := nI_clamp (by omega)
  have eF : Fn_X12_suitor mm [vR 12 0, vI (nI i), vI (nI k)] = suR mm (nI i) (nI k) := if_pos ⟨h1, h2, h3⟩
  rw [eF] at h
  show X 13 [some (vR 12 0), some (vI (nI i)), some (vI (nI k)), none] [] mm
  refine h (fun i => Nat.beq i 18 || Nat.beq i 33 || Nat.beq i 39 || Nat.beq i 48 || Nat.beq i 54) 3000 13 _ _ _ ?_
  refine And.intro ⟨_, rfl⟩ ?_
  refine And.intro ?_ ?_
  · refine ⟨fun e => ?_, fun e => ?_, fun e => ?_, fun e => ?_, trivial⟩
    · show X 18 [some (vR 12 0), some (vI (nI i)), some (vI (nI k)), some (vI (12 + 4 * nI i))] [] mm
      have e3 : nI k = 3 := e
      refine h (fun _ => false) 3000 18 _ _ _ ?_
      refine And.intro ⟨hM, _, rfl⟩ ?_
      refine And.intro rfl ?_
      refine And.intro ⟨hM, _, rfl⟩ ?_
      refine And.intro ⟨_, rfl⟩ ?_
      exact (if_pos e3).symm
    · show X 33 [some (vR 12 0), some (vI (nI i)), some (vI (nI k)), some (vI (12 + 4 * nI i))] [] mm
      have e3 : nI k = 4 := e
      refine h (fun _ => false) 3000 33 _ _ _ ?_
      refine And.intro ⟨hM, _, rfl⟩ ?_
      refine And.intro ⟨_, rfl⟩ ?_
      refine leaf ?_
      unfold suR
      rw [if_neg (by rw [e3]; decide), if_pos e3]
      rfl
    · show X 39 [some (vR 12 0), some (vI (nI i)), some (vI (nI k)), some (vI (12 + 4 * nI i))] [] mm
      have e3 : nI k = 5 := e
      have x3 : (12 + 4 * nI i + 3).toNatClampNeg = 15 + 4 * i := by simp (disch := omega) only [li, pk_mul, nI_add, nI_clamp]; omega
      have e9 : suR mm (nI i) (nI k) = onM mm (mm.1 54 0 (15 + 4 * i)) := by
        unfold suR
        rw [if_neg (by rw [e3]; decide), if_neg (by rw [e3]; decide), if_pos e3, ei]
      rw [e9] at h
      refine h (fun i => Nat.beq i 46) 3000 39 _ _ _ ?_
      refine And.intro (inb_o 3060 rfl rfl (by simp (disch := omega) only [li, pk_mul, nI_add, nI_clamp]; rfl) (by omega)) ?_
      show X 46 [some (vR 12 0), some (vI (nI i)), some (vI (nI k)), some (vI (12 + 4 * nI i))] [vI (mm.1 54 0 (12 + 4 * nI i + 3).toNatClampNeg), vR 12 0] mm
      rw [x3]
      refine h (fun _ => false) 3000 46 _ _ _ ?_
      refine And.intro ⟨_, rfl⟩ ?_
      exact rfl
    · show X 48 [some (vR 12 0), some (vI (nI i)), some (vI (nI k)), some (vI (12 + 4 * nI i))] [] mm
      have e3 : nI k = 6 := e
      refine h (fun _ => false) 3000 48 _ _ _ ?_
      refine And.intro ⟨hM, _, rfl⟩ ?_
      refine And.intro ⟨_, rfl⟩ ?_
      refine leaf ?_
      unfold suR
      rw [if_neg (by rw [e3]; decide), if_neg (by rw [e3]; decide), if_neg (by rw [e3]; decide), if_pos e3]
      rfl
  · intro hno
    have hq : ∀ c : Int32, ∀ t : Nat, (c, t) ∈ tsw 3 [18, 33, 39, 48] → ¬ nI k = c := fun c t hm => hno (c, t) hm
    have n3 : ¬ nI k = 3 := hq 3 18 (by decide)
    have n4 : ¬ nI k = 4 := hq 4 33 (by decide)
    have n5 : ¬ nI k = 5 := hq 5 39 (by decide)
    have n6 : ¬ nI k = 6 := hq 6 48 (by decide)
    have xk : 12 + 4 * nI i + nI k = nI (12 + 4 * i + k) := by simp (disch := omega) only [li, pk_mul, nI_add, nI_clamp]
    show X 54 [some (vR 12 0), some (vI (nI i)), some (vI (nI k)), some (vI (12 + 4 * nI i))] [] mm
    refine h (fun i => Nat.beq i 60) 3000 54 _ _ _ ?_
    show X 60 [some (vR 12 0), some (vI (nI i)), some (vI (nI k)), some (vI (12 + 4 * nI i))] [vI (12 + 4 * nI i + nI k), vR 54 0, vR 12 0] mm
    refine h (fun _ => false) 3000 60 _ _ _ ?_
    refine And.intro (inb_o 3060 rfl rfl xk (by omega)) ?_
    refine And.intro ⟨_, rfl⟩ ?_
    refine leaf ?_
    unfold suR
    rw [if_neg n3, if_neg n4, if_neg n5, if_neg n6]
    have e : (12 + 4 * nI i + nI k).toNatClampNeg = 12 + 4 * (nI i).toNatClampNeg + (nI k).toNatClampNeg := by simp (disch := omega) only [li, pk_mul, nI_add, nI_clamp]
    rw [← e]
    rfl
theorem con_X12_suitor (l : Launch) : CON l y_X12_suitor prog_14_method_76_code 4 (some .int) rm_X12_suitor Pre_X12_suitor Fn_X12_suitor := CON_of (by decide) rfl rfl (sa_X12_suitor l) vc_X12_suitor
def Pre_X12_maid : PreT := fun m as => VM m ∧ ∃ x w : Int32, as = [vR 12 0, vI x, vI w]
def mdR (m : MM) (x w : Int32) : Option MV × MM := if w = 3 then gvM m (brA (m.1 54 0) x.toNatClampNeg (m.1 54 0 6)) else if w = 4 then onM m (m.1 54 0 (31 + 4 * x.toNatClampNeg)) else gvM m (m.1 54 0 (28 + 4 * x.toNatClampNeg + w.toNatClampNeg))
def Fn_X12_maid : FnT := fun m as => match as with
  | [_, Sum.inl x, Sum.inl w] => if maP (m.1 54 0) x ∧ ¬ w < 0 ∧ w ≤ 4 then mdR m x w else rfM m 1
  | _ => (none, m)
abbrev y_X12_maid : MethodName := ⟨"GivenUpModel", "maid", "(II)I"⟩
def P_X12_maid : List StpT := [s_aload 0, s_iload 1, s_callV 12 1 Pre_X12_isMaid Fn_X12_isMaid, s_ifeq 9, s_iload 2, s_iflt 9, s_iload 2, s_ic (4), s_icle 13, s_aload 0, s_ic (1), s_callV 12 1 Pre_X12_refuse Fn_X12_refuse, s_iret, s_iload 1, s_callS 1 Pre_X12_maidRow Fn_X12_maidRow, s_istore 3, s_iload 2, s_ic (3), s_icne 29, s_aload 0, s_aload 0, s_iload 1, s_aload 0, s_getR 12 0 54, s_ic (6), s_iald, s_callV 12 2 Pre_X12_barIn Fn_X12_barIn, s_callV 12 1 Pre_X12_gives Fn_X12_gives, s_goto 49, s_iload 2, s_ic (4), s_icne 41, s_aload 0, s_aload 0, s_getR 12 0 54, s_iload 3, s_ic (3), s_iadd, s_iald, s_callV 12 1 Pre_X12_orNone Fn_X12_orNone, s_goto 49, s_aload 0, s_aload 0, s_getR 12 0 54, s_iload 3, s_iload 2, s_iadd, s_iald, s_callV 12 1 Pre_X12_gives Fn_X12_gives, s_iret]
def pc_X12_maid : Nat → Nat := fun i => [0, 1, 2, 5, 8, 9, 12, 13, 14, 17, 18, 19, 22, 23, 24, 27, 28, 29, 30, 33, 34, 35, 36, 37, 40, 42, 43, 46, 49, 52, 53, 54, 57, 58, 59, 62, 63, 64, 65, 66, 69, 72, 73, 74, 77, 78, 79, 80, 81, 84].getD i 0
def dl_X12_maid : List (Nat × Instr × Nat) := [(0, .aload_n 0, 1), (1, .iload_n 1, 1), (2, .invokevirtual 268, 3), (5, .ifCond .eq 12, 3), (8, .iload_n 2, 1), (9, .ifCond .lt 8, 3), (12, .iload_n 2, 1), (13, .iconst 4, 1), (14, .if_icmp .le 9, 3), (17, .aload_n 0, 1), (18, .iconst 1, 1), (19, .invokevirtual 87, 3), (22, .ireturn, 1), (23, .iload_n 1, 1), (24, .invokestatic 286, 3), (27, .istore_n 3, 1), (28, .iload_n 2, 1), (29, .iconst 3, 1), (30, .if_icmp .ne 22, 3), (33, .aload_n 0, 1), (34, .aload_n 0, 1), (35, .iload_n 1, 1), (36, .aload_n 0, 1), (37, .getfield 7, 3), (40, .bipush 6, 2), (42, .iaload, 1), (43, .invokevirtual 301, 3), (46, .invokevirtual 91, 3), (49, .goto 35, 3), (52, .iload_n 2, 1), (53, .iconst 4, 1), (54, .if_icmp .ne 18, 3), (57, .aload_n 0, 1), (58, .aload_n 0, 1), (59, .getfield 7, 3), (62, .iload_n 3, 1), (63, .iconst 3, 1), (64, .iadd, 1), (65, .iaload, 1), (66, .invokevirtual 310, 3), (69, .goto 15, 3), (72, .aload_n 0, 1), (73, .aload_n 0, 1), (74, .getfield 7, 3), (77, .iload_n 3, 1), (78, .iload_n 2, 1), (79, .iadd, 1), (80, .iaload, 1), (81, .invokevirtual 91, 3), (84, .ireturn, 1)]
theorem dc_X12_maid : DEC prog_14_method_78_code pc_X12_maid dl_X12_maid := DEC_of (by decide +kernel)
abbrev rm_X12_maid : Room := { frames := 2, cells := 0, slots := 0, locals := 42 }
set_option maxRecDepth 20000 in
theorem sa_X12_maid (l : Launch) : SNDALL l prog_14_method_78_code "GivenUpModel" 4 (some .int) rm_X12_maid P_X12_maid pc_X12_maid := fun p e s m args below meth c cells slots Q D dA ad A RR hC hR => by
  have hM := RTX_room (R := rm_X12_maid) hR
  exact ⟨st_aload_n hC (n := 0) (k := 0) (dc_X12_maid 0 (0, .aload_n 0, 1) rfl rfl) rfl rfl,
    st_iload_n hC (n := 1) (k := 1) (dc_X12_maid 1 (1, .iload_n 1, 1) rfl rfl) rfl rfl,
    st_callV hC (n := 2) (k := 12) (na := 1) (con_X12_isMaid l) (dc_X12_maid 2 (2, .invokevirtual 268, 3) rfl rfl) rfl wd_1923 wd_160 (by decide) ⟨rfl, rfl, by decide, by decide⟩ hM wd_1920 wd_1922 wd_92 clf_12,
    st_ifeq hC (n := 3) (dc_X12_maid 3 (5, .ifCond .eq 12, 3) rfl rfl) rfl (by decide),
    st_iload_n hC (n := 4) (k := 2) (dc_X12_maid 4 (8, .iload_n 2, 1) rfl rfl) rfl rfl,
    st_iflt hC (n := 5) (dc_X12_maid 5 (9, .ifCond .lt 8, 3) rfl rfl) rfl (by decide),
    st_iload_n hC (n := 6) (k := 2) (dc_X12_maid 6 (12, .iload_n 2, 1) rfl rfl) rfl rfl,
    st_iconst hC (n := 7) (x := 4) (dc_X12_maid 7 (13, .iconst 4, 1) rfl rfl) rfl (by decide),
    st_icle hC (n := 8) (dc_X12_maid 8 (14, .if_icmp .le 9, 3) rfl rfl) rfl (by decide),
    st_aload_n hC (n := 9) (k := 0) (dc_X12_maid 9 (17, .aload_n 0, 1) rfl rfl) rfl rfl,
    st_iconst hC (n := 10) (x := 1) (dc_X12_maid 10 (18, .iconst 1, 1) rfl rfl) rfl (by decide),
    st_callV hC (n := 11) (k := 12) (na := 1) (con_X12_refuse l) (dc_X12_maid 11 (19, .invokevirtual 87, 3) rfl rfl) rfl wd_1758 wd_160 (by decide) ⟨rfl, rfl, by decide, by decide⟩ hM wd_1755 wd_1757 wd_57 clf_12,
    st_iret hC (n := 12) hR (dc_X12_maid 12 (22, .ireturn, 1) rfl rfl),
    st_iload_n hC (n := 13) (k := 1) (dc_X12_maid 13 (23, .iload_n 1, 1) rfl rfl) rfl rfl,
    st_callS hC (n := 14) (na := 1) (con_X12_maidRow l) (dc_X12_maid 14 (24, .invokestatic 286, 3) rfl rfl) rfl wd_1926 wd_160 (by decide) ⟨rfl, rfl, by decide, by decide⟩ hM wd_1924 wd_1925,
    st_istore_n hC (n := 15) (k := 3) (dc_X12_maid 15 (27, .istore_n 3, 1) rfl rfl) rfl rfl (by decide),
    st_iload_n hC (n := 16) (k := 2) (dc_X12_maid 16 (28, .iload_n 2, 1) rfl rfl) rfl rfl,
    st_iconst hC (n := 17) (x := 3) (dc_X12_maid 17 (29, .iconst 3, 1) rfl rfl) rfl (by decide),
    st_icne hC (n := 18) (dc_X12_maid 18 (30, .if_icmp .ne 22, 3) rfl rfl) rfl (by decide),
    st_aload_n hC (n := 19) (k := 0) (dc_X12_maid 19 (33, .aload_n 0, 1) rfl rfl) rfl rfl,
    st_aload_n hC (n := 20) (k := 0) (dc_X12_maid 20 (34, .aload_n 0, 1) rfl rfl) rfl rfl,
    st_iload_n hC (n := 21) (k := 1) (dc_X12_maid 21 (35, .iload_n 1, 1) rfl rfl) rfl rfl,
    st_aload_n hC (n := 22) (k := 0) (dc_X12_maid 22 (36, .aload_n 0, 1) rfl rfl) rfl rfl,
    st_getR hC (n := 23) (k := 12) (j := 0) (dc_X12_maid 23 (37, .getfield 7, 3) rfl rfl) rfl clf_12 (by decide) rfl (by decide) wd_1552,
    st_bipush hC (n := 24) (x := 6) (dc_X12_maid 24 (40, .bipush 6, 2) rfl rfl) rfl (by decide),
    st_iald hC (n := 25) (dc_X12_maid 25 (42, .iaload, 1) rfl rfl) rfl,
    st_callV hC (n := 26) (k := 12) (na := 2) (con_X12_barIn l) (dc_X12_maid 26 (43, .invokevirtual 301, 3) rfl rfl) rfl wd_1930 wd_160 (by decide) ⟨rfl, rfl, by decide, by decide⟩ hM wd_1927 wd_1929 wd_93 clf_12,
    st_callV hC (n := 27) (k := 12) (na := 1) (con_X12_gives l) (dc_X12_maid 27 (46, .invokevirtual 91, 3) rfl rfl) rfl wd_1849 wd_160 (by decide) ⟨rfl, rfl, by decide, by decide⟩ hM wd_1846 wd_1848 wd_79 clf_12,
    st_goto hC (n := 28) (dc_X12_maid 28 (49, .goto 35, 3) rfl rfl) (by decide),
    st_iload_n hC (n := 29) (k := 2) (dc_X12_maid 29 (52, .iload_n 2, 1) rfl rfl) rfl rfl,
    st_iconst hC (n := 30) (x := 4) (dc_X12_maid 30 (53, .iconst 4, 1) rfl rfl) rfl (by decide),
    st_icne hC (n := 31) (dc_X12_maid 31 (54, .if_icmp .ne 18, 3) rfl rfl) rfl (by decide),
    st_aload_n hC (n := 32) (k := 0) (dc_X12_maid 32 (57, .aload_n 0, 1) rfl rfl) rfl rfl,
    st_aload_n hC (n := 33) (k := 0) (dc_X12_maid 33 (58, .aload_n 0, 1) rfl rfl) rfl rfl,
    st_getR hC (n := 34) (k := 12) (j := 0) (dc_X12_maid 34 (59, .getfield 7, 3) rfl rfl) rfl clf_12 (by decide) rfl (by decide) wd_1552,
    st_iload_n hC (n := 35) (k := 3) (dc_X12_maid 35 (62, .iload_n 3, 1) rfl rfl) rfl rfl,
    st_iconst hC (n := 36) (x := 3) (dc_X12_maid 36 (63, .iconst 3, 1) rfl rfl) rfl (by decide),
    st_iadd hC (n := 37) (dc_X12_maid 37 (64, .iadd, 1) rfl rfl) rfl,
    st_iald hC (n := 38) (dc_X12_maid 38 (65, .iaload, 1) rfl rfl) rfl,
    st_callV hC (n := 39) (k := 12) (na := 1) (con_X12_orNone l) (dc_X12_maid 39 (66, .invokevirtual 310, 3) rfl rfl) rfl wd_1915 wd_160 (by decide) ⟨rfl, rfl, by decide, by decide⟩ hM wd_1912 wd_1914 wd_91 clf_12,
    st_goto hC (n := 40) (dc_X12_maid 40 (69, .goto 15, 3) rfl rfl) (by decide),
    st_aload_n hC (n := 41) (k := 0) (dc_X12_maid 41 (72, .aload_n 0, 1) rfl rfl) rfl rfl,
    st_aload_n hC (n := 42) (k := 0) (dc_X12_maid 42 (73, .aload_n 0, 1) rfl rfl) rfl rfl,
    st_getR hC (n := 43) (k := 12) (j := 0) (dc_X12_maid 43 (74, .getfield 7, 3) rfl rfl) rfl clf_12 (by decide) rfl (by decide) wd_1552,
    st_iload_n hC (n := 44) (k := 3) (dc_X12_maid 44 (77, .iload_n 3, 1) rfl rfl) rfl rfl,
    st_iload_n hC (n := 45) (k := 2) (dc_X12_maid 45 (78, .iload_n 2, 1) rfl rfl) rfl rfl,
    st_iadd hC (n := 46) (dc_X12_maid 46 (79, .iadd, 1) rfl rfl) rfl,
    st_iald hC (n := 47) (dc_X12_maid 47 (80, .iaload, 1) rfl rfl) rfl,
    st_callV hC (n := 48) (k := 12) (na := 1) (con_X12_gives l) (dc_X12_maid 48 (81, .invokevirtual 91, 3) rfl rfl) rfl wd_1849 wd_160 (by decide) ⟨rfl, rfl, by decide, by decide⟩ hM wd_1846 wd_1848 wd_79 clf_12,
    st_iret hC (n := 49) hR (dc_X12_maid 49 (84, .ireturn, 1) rfl rfl), trivial⟩
theorem vc_X12_maid : VC P_X12_maid 4 Pre_X12_maid Fn_X12_maid := by
  rintro mm as hom hoa ⟨⟨ns, nm, nt, hV⟩, x, w, rfl⟩
  refine ⟨Nat.le_of_ble_eq_true rfl, fun X h => ?_⟩
  have no : ¬ (maP (mm.1 54 0) x ∧ ¬ w < 0 ∧ w ≤ 4) → X 9 [some (vR 12 0), some (vI x), some (vI w), none] [] mm := by
    intro hn
    refine h (fun _ => false) 3000 9 _ _ _ ?_
    refine And.intro ⟨_, rfl⟩ ?_
    exact (if_neg hn).symm
  refine h (fun i => Nat.beq i 9 || Nat.beq i 13) 3000 0 _ _ _ ?_
  refine And.intro ⟨_, rfl⟩ ?_
  refine br_c (fun h1 => ?_) (fun h1 => ?_)
  · exact no (fun z => bI_0.mp h1 z.1)
  replace h1 := bI_n0.mp h1
  refine br_c (fun h2 => ?_) (fun h2 => ?_)
  · exact no (fun z => z.2.1 h2)
  refine br_c (fun h3 => ?_) (fun h3 => no (fun z => h3 z.2.2))
  obtain ⟨i, hi, rfl⟩ := ma_in hV h1
  have hns : nm ≤ 4 := hV.2.1.2
  have hM : VM mm := ⟨ns, nm, nt, hV⟩
  obtain ⟨k, hk, rfl⟩ := nI_of2 (n := 4) (by decide) h2 h3
  have ei : (nI i).toNatClampNeg = i := nI_clamp (by omega)
  have ek : (nI k).toNatClampNeg = k := nI_clamp (by omega)
  have eF : Fn_X12_maid mm [vR 12 0, vI (nI i), vI (nI k)] = mdR mm (nI i) (nI k) := if_pos ⟨h1, h2, h3⟩
  rw [eF] at h
  show X 13 [some (vR 12 0), some (vI (nI i)), some (vI (nI k)), none] [] mm
  refine h (fun i => Nat.beq i 19 || Nat.beq i 29 || Nat.beq i 32 || Nat.beq i 41) 3000 13 _ _ _ ?_
  refine And.intro ⟨_, rfl⟩ ?_
  refine brn_c (fun e3 => ?_) (fun e3 => ?_)
  · show X 29 [some (vR 12 0), some (vI (nI i)), some (vI (nI k)), some (vI (28 + 4 * nI i))] [] mm
    refine h (fun i => Nat.beq i 32 || Nat.beq i 41) 3000 29 _ _ _ ?_
    refine brn_c (fun e4 => ?_) (fun e4 => ?_)
    · show X 41 [some (vR 12 0), some (vI (nI i)), some (vI (nI k)), some (vI (28 + 4 * nI i))] [] mm
      refine h (fun _ => false) 3000 41 _ _ _ ?_
      refine And.intro (inb_o 3060 rfl rfl (by simp (disch := omega) only [li, pk_mul, nI_add, nI_clamp]; rfl) (by omega)) ?_
      refine And.intro ⟨_, rfl⟩ ?_
      refine leaf ?_
      unfold mdR
      rw [if_neg e3, if_neg e4]
      have e : (28 + 4 * nI i + nI k).toNatClampNeg = 28 + 4 * (nI i).toNatClampNeg + (nI k).toNatClampNeg := by simp (disch := omega) only [li, pk_mul, nI_add, nI_clamp]
      rw [← e]
      rfl
    · show X 32 [some (vR 12 0), some (vI (nI i)), some (vI (nI k)), some (vI (28 + 4 * nI i))] [] mm
      have x3 : (28 + 4 * nI i + 3).toNatClampNeg = 31 + 4 * i := by simp (disch := omega) only [li, pk_mul, nI_add, nI_clamp]; omega
      have e9 : mdR mm (nI i) (nI k) = onM mm (mm.1 54 0 (31 + 4 * i)) := by
        unfold mdR
        rw [if_neg e3, if_pos e4, ei]
      rw [e9] at h
      refine h (fun i => Nat.beq i 39) 3000 32 _ _ _ ?_
      refine And.intro (inb_o 3060 rfl rfl (by simp (disch := omega) only [li, pk_mul, nI_add, nI_clamp]; rfl) (by omega)) ?_
      show X 39 [some (vR 12 0), some (vI (nI i)), some (vI (nI k)), some (vI (28 + 4 * nI i))] [vI (mm.1 54 0 (28 + 4 * nI i + 3).toNatClampNeg), vR 12 0] mm
      rw [x3]
      refine h (fun _ => false) 3000 39 _ _ _ ?_
      refine And.intro ⟨_, rfl⟩ ?_
      exact rfl
  · show X 19 [some (vR 12 0), some (vI (nI i)), some (vI (nI k)), some (vI (28 + 4 * nI i))] [] mm
    refine h (fun _ => false) 3000 19 _ _ _ ?_
    refine And.intro rfl ?_
    refine And.intro ⟨i, _, by omega, rfl⟩ ?_
    refine And.intro ⟨_, rfl⟩ ?_
    exact (if_pos e3).symm
theorem con_X12_maid (l : Launch) : CON l y_X12_maid prog_14_method_78_code 4 (some .int) rm_X12_maid Pre_X12_maid Fn_X12_maid := CON_of (by decide) rfl rfl (sa_X12_maid l) vc_X12_maid
def Pre_X12_thing : PreT := fun m as => ∃ (ns nm nt : Nat), VMx m ns nm nt ∧ AFo (m.1 54 0) nt ∧ ∃ x w : Int32, as = [vR 12 0, vI x, vI w]
def tsA (a : Nat → Int32) (j : Nat) : Int32 := if inS (a 8) (nI j) then 1 else if inS (a 9) (nI j) then 2 else 0
def tgR (m : MM) (j : Nat) (w : Int32) : Option MV × MM := if w = 0 then gvM m (m.1 54 0 (44 + 3 * j)) else if w = 1 then gvM m (m.1 54 0 (45 + 3 * j)) else if w = 2 then gvM m (tsA (m.1 54 0) j) else if w = 3 then gvM m (m.1 54 0 (46 + 3 * j)) else gvM m (nI (dpA (m.1 54 0) (m.1 54 0 2).toNatClampNeg j))
def Fn_X12_thing : FnT := fun m as => match as with
  | [_, Sum.inl x, Sum.inl w] => if tgP (m.1 54 0) x ∧ ¬ w < 0 ∧ w ≤ 4 then tgR m x.toNatClampNeg w else rfM m 1
  | _ => (none, m)
abbrev y_X12_thing : MethodName := ⟨"GivenUpModel", "thing", "(II)I"⟩
def P_X12_thing : List StpT := [s_aload 0, s_iload 1, s_callV 12 1 Pre_X12_isThing Fn_X12_isThing, s_ifeq 9, s_iload 2, s_iflt 9, s_iload 2, s_ic (4), s_icle 13, s_aload 0, s_ic (1), s_callV 12 1 Pre_X12_refuse Fn_X12_refuse, s_iret, s_iload 2, s_sw (tsw (0) [15, 21, 31, 55]) 61, s_aload 0, s_aload 0, s_iload 1, s_callV 12 1 Pre_X12_ownerOf Fn_X12_ownerOf, s_callV 12 1 Pre_X12_gives Fn_X12_gives, s_iret, s_aload 0, s_aload 0, s_getR 12 0 54, s_iload 1, s_callS 1 Pre_X12_thingRow Fn_X12_thingRow, s_ic (1), s_iadd, s_iald, s_callV 12 1 Pre_X12_gives Fn_X12_gives, s_iret, s_aload 0, s_aload 0, s_aload 0, s_getR 12 0 54, s_ic (8), s_iald, s_iload 1, s_callV 12 2 Pre_X12_isIn Fn_X12_isIn, s_ifeq 42, s_ic (1), s_goto 53, s_aload 0, s_aload 0, s_getR 12 0 54, s_ic (9), s_iald, s_iload 1, s_callV 12 2 Pre_X12_isIn Fn_X12_isIn, s_ifeq 52, s_ic (2), s_goto 53, s_ic (0), s_callV 12 1 Pre_X12_gives Fn_X12_gives, s_iret, s_aload 0, s_aload 0, s_iload 1, s_callV 12 1 Pre_X12_aheadOf Fn_X12_aheadOf, s_callV 12 1 Pre_X12_gives Fn_X12_gives, s_iret, s_aload 0, s_aload 0, s_iload 1, s_callV 12 1 Pre_X12_deepOf Fn_X12_deepOf, s_callV 12 1 Pre_X12_gives Fn_X12_gives, s_iret]
def pc_X12_thing : Nat → Nat := fun i => [0, 1, 2, 5, 8, 9, 12, 13, 14, 17, 18, 19, 22, 23, 24, 56, 57, 58, 59, 62, 65, 66, 67, 68, 71, 72, 75, 76, 77, 78, 81, 82, 83, 84, 85, 88, 90, 91, 92, 95, 98, 99, 102, 103, 104, 107, 109, 110, 111, 114, 117, 118, 121, 122, 125, 126, 127, 128, 129, 132, 135, 136, 137, 138, 139, 142, 145].getD i 0
def dl_X12_thing : List (Nat × Instr × Nat) := [(0, .aload_n 0, 1), (1, .iload_n 1, 1), (2, .invokevirtual 313, 3), (5, .ifCond .eq 12, 3), (8, .iload_n 2, 1), (9, .ifCond .lt 8, 3), (12, .iload_n 2, 1), (13, .iconst 4, 1), (14, .if_icmp .le 9, 3), (17, .aload_n 0, 1), (18, .iconst 1, 1), (19, .invokevirtual 87, 3), (22, .ireturn, 1), (23, .iload_n 2, 1), (24, .tableswitch 112 0 3 #[32, 42, 58, 102], 32), (56, .aload_n 0, 1), (57, .aload_n 0, 1), (58, .iload_n 1, 1), (59, .invokevirtual 274, 3), (62, .invokevirtual 91, 3), (65, .ireturn, 1), (66, .aload_n 0, 1), (67, .aload_n 0, 1), (68, .getfield 7, 3), (71, .iload_n 1, 1), (72, .invokestatic 271, 3), (75, .iconst 1, 1), (76, .iadd, 1), (77, .iaload, 1), (78, .invokevirtual 91, 3), (81, .ireturn, 1), (82, .aload_n 0, 1), (83, .aload_n 0, 1), (84, .aload_n 0, 1), (85, .getfield 7, 3), (88, .bipush 8, 2), (90, .iaload, 1), (91, .iload_n 1, 1), (92, .invokevirtual 277, 3), (95, .ifCond .eq 7, 3), (98, .iconst 1, 1), (99, .goto 23, 3), (102, .aload_n 0, 1), (103, .aload_n 0, 1), (104, .getfield 7, 3), (107, .bipush 9, 2), (109, .iaload, 1), (110, .iload_n 1, 1), (111, .invokevirtual 277, 3), (114, .ifCond .eq 7, 3), (117, .iconst 2, 1), (118, .goto 4, 3), (121, .iconst 0, 1), (122, .invokevirtual 91, 3), (125, .ireturn, 1), (126, .aload_n 0, 1), (127, .aload_n 0, 1), (128, .iload_n 1, 1), (129, .invokevirtual 316, 3), (132, .invokevirtual 91, 3), (135, .ireturn, 1), (136, .aload_n 0, 1), (137, .aload_n 0, 1), (138, .iload_n 1, 1), (139, .invokevirtual 319, 3), (142, .invokevirtual 91, 3), (145, .ireturn, 1)]
theorem dc_X12_thing : DEC prog_14_method_79_code pc_X12_thing dl_X12_thing := DEC_of (by decide +kernel)
abbrev rm_X12_thing : Room := { frames := 5, cells := 0, slots := 0, locals := 109 }
set_option maxRecDepth 20000 in
theorem sa_X12_thing (l : Launch) : SNDALL l prog_14_method_79_code "GivenUpModel" 3 (some .int) rm_X12_thing P_X12_thing pc_X12_thing := fun p e s m args below meth c cells slots Q D dA ad A RR hC hR => by
  have hM := RTX_room (R := rm_X12_thing) hR
  exact ⟨st_aload_n hC (n := 0) (k := 0) (dc_X12_thing 0 (0, .aload_n 0, 1) rfl rfl) rfl rfl,
    st_iload_n hC (n := 1) (k := 1) (dc_X12_thing 1 (1, .iload_n 1, 1) rfl rfl) rfl rfl,
    st_callV hC (n := 2) (k := 12) (na := 1) (con_X12_isThing l) (dc_X12_thing 2 (2, .invokevirtual 313, 3) rfl rfl) rfl wd_1938 wd_160 (by decide) ⟨rfl, rfl, by decide, by decide⟩ hM wd_1935 wd_1937 wd_94 clf_12,
    st_ifeq hC (n := 3) (dc_X12_thing 3 (5, .ifCond .eq 12, 3) rfl rfl) rfl (by decide),
    st_iload_n hC (n := 4) (k := 2) (dc_X12_thing 4 (8, .iload_n 2, 1) rfl rfl) rfl rfl,
    st_iflt hC (n := 5) (dc_X12_thing 5 (9, .ifCond .lt 8, 3) rfl rfl) rfl (by decide),
    st_iload_n hC (n := 6) (k := 2) (dc_X12_thing 6 (12, .iload_n 2, 1) rfl rfl) rfl rfl,
    st_iconst hC (n := 7) (x := 4) (dc_X12_thing 7 (13, .iconst 4, 1) rfl rfl) rfl (by decide),
    st_icle hC (n := 8) (dc_X12_thing 8 (14, .if_icmp .le 9, 3) rfl rfl) rfl (by decide),
    st_aload_n hC (n := 9) (k := 0) (dc_X12_thing 9 (17, .aload_n 0, 1) rfl rfl) rfl rfl,
    st_iconst hC (n := 10) (x := 1) (dc_X12_thing 10 (18, .iconst 1, 1) rfl rfl) rfl (by decide),
    st_callV hC (n := 11) (k := 12) (na := 1) (con_X12_refuse l) (dc_X12_thing 11 (19, .invokevirtual 87, 3) rfl rfl) rfl wd_1758 wd_160 (by decide) ⟨rfl, rfl, by decide, by decide⟩ hM wd_1755 wd_1757 wd_57 clf_12,
    st_iret hC (n := 12) hR (dc_X12_thing 12 (22, .ireturn, 1) rfl rfl),
    st_iload_n hC (n := 13) (k := 2) (dc_X12_thing 13 (23, .iload_n 2, 1) rfl rfl) rfl rfl,
    st_table hC (n := 14) (ts := [15, 21, 31, 55]) (dc_X12_thing 14 (24, .tableswitch 112 0 3 #[32, 42, 58, 102], 32) rfl rfl) (by decide) (by decide) (by decide) (by decide) (swt_of _ _ _ (by decide +kernel)),
    st_aload_n hC (n := 15) (k := 0) (dc_X12_thing 15 (56, .aload_n 0, 1) rfl rfl) rfl rfl,
    st_aload_n hC (n := 16) (k := 0) (dc_X12_thing 16 (57, .aload_n 0, 1) rfl rfl) rfl rfl,
    st_iload_n hC (n := 17) (k := 1) (dc_X12_thing 17 (58, .iload_n 1, 1) rfl rfl) rfl rfl,
    st_callV hC (n := 18) (k := 12) (na := 1) (con_X12_ownerOf l) (dc_X12_thing 18 (59, .invokevirtual 274, 3) rfl rfl) rfl wd_1896 wd_160 (by decide) ⟨rfl, rfl, by decide, by decide⟩ hM wd_1893 wd_1895 wd_87 clf_12,
    st_callV hC (n := 19) (k := 12) (na := 1) (con_X12_gives l) (dc_X12_thing 19 (62, .invokevirtual 91, 3) rfl rfl) rfl wd_1849 wd_160 (by decide) ⟨rfl, rfl, by decide, by decide⟩ hM wd_1846 wd_1848 wd_79 clf_12,
    st_iret hC (n := 20) hR (dc_X12_thing 20 (65, .ireturn, 1) rfl rfl),
    st_aload_n hC (n := 21) (k := 0) (dc_X12_thing 21 (66, .aload_n 0, 1) rfl rfl) rfl rfl,
    st_aload_n hC (n := 22) (k := 0) (dc_X12_thing 22 (67, .aload_n 0, 1) rfl rfl) rfl rfl,
    st_getR hC (n := 23) (k := 12) (j := 0) (dc_X12_thing 23 (68, .getfield 7, 3) rfl rfl) rfl clf_12 (by decide) rfl (by decide) wd_1552,
    st_iload_n hC (n := 24) (k := 1) (dc_X12_thing 24 (71, .iload_n 1, 1) rfl rfl) rfl rfl,
    st_callS hC (n := 25) (na := 1) (con_X12_thingRow l) (dc_X12_thing 25 (72, .invokestatic 271, 3) rfl rfl) rfl wd_1899 wd_160 (by decide) ⟨rfl, rfl, by decide, by decide⟩ hM wd_1897 wd_1898,
    st_iconst hC (n := 26) (x := 1) (dc_X12_thing 26 (75, .iconst 1, 1) rfl rfl) rfl (by decide),
    st_iadd hC (n := 27) (dc_X12_thing 27 (76, .iadd, 1) rfl rfl) rfl,
    st_iald hC (n := 28) (dc_X12_thing 28 (77, .iaload, 1) rfl rfl) rfl,
    st_callV hC (n := 29) (k := 12) (na := 1) (con_X12_gives l) (dc_X12_thing 29 (78, .invokevirtual 91, 3) rfl rfl) rfl wd_1849 wd_160 (by decide) ⟨rfl, rfl, by decide, by decide⟩ hM wd_1846 wd_1848 wd_79 clf_12,
    st_iret hC (n := 30) hR (dc_X12_thing 30 (81, .ireturn, 1) rfl rfl),
    st_aload_n hC (n := 31) (k := 0) (dc_X12_thing 31 (82, .aload_n 0, 1) rfl rfl) rfl rfl,
    st_aload_n hC (n := 32) (k := 0) (dc_X12_thing 32 (83, .aload_n 0, 1) rfl rfl) rfl rfl,
    st_aload_n hC (n := 33) (k := 0) (dc_X12_thing 33 (84, .aload_n 0, 1) rfl rfl) rfl rfl,
    st_getR hC (n := 34) (k := 12) (j := 0) (dc_X12_thing 34 (85, .getfield 7, 3) rfl rfl) rfl clf_12 (by decide) rfl (by decide) wd_1552,
    st_bipush hC (n := 35) (x := 8) (dc_X12_thing 35 (88, .bipush 8, 2) rfl rfl) rfl (by decide),
    st_iald hC (n := 36) (dc_X12_thing 36 (90, .iaload, 1) rfl rfl) rfl,
    st_iload_n hC (n := 37) (k := 1) (dc_X12_thing 37 (91, .iload_n 1, 1) rfl rfl) rfl rfl,
    st_callV hC (n := 38) (k := 12) (na := 2) (con_X12_isIn l) (dc_X12_thing 38 (92, .invokevirtual 277, 3) rfl rfl) rfl wd_1907 wd_160 (by decide) ⟨rfl, rfl, by decide, by decide⟩ hM wd_1904 wd_1906 wd_89 clf_12,
    st_ifeq hC (n := 39) (dc_X12_thing 39 (95, .ifCond .eq 7, 3) rfl rfl) rfl (by decide),
    st_iconst hC (n := 40) (x := 1) (dc_X12_thing 40 (98, .iconst 1, 1) rfl rfl) rfl (by decide),
    st_goto hC (n := 41) (dc_X12_thing 41 (99, .goto 23, 3) rfl rfl) (by decide),
    st_aload_n hC (n := 42) (k := 0) (dc_X12_thing 42 (102, .aload_n 0, 1) rfl rfl) rfl rfl,
    st_aload_n hC (n := 43) (k := 0) (dc_X12_thing 43 (103, .aload_n 0, 1) rfl rfl) rfl rfl,
    st_getR hC (n := 44) (k := 12) (j := 0) (dc_X12_thing 44 (104, .getfield 7, 3) rfl rfl) rfl clf_12 (by decide) rfl (by decide) wd_1552,
    st_bipush hC (n := 45) (x := 9) (dc_X12_thing 45 (107, .bipush 9, 2) rfl rfl) rfl (by decide),
    st_iald hC (n := 46) (dc_X12_thing 46 (109, .iaload, 1) rfl rfl) rfl,
    st_iload_n hC (n := 47) (k := 1) (dc_X12_thing 47 (110, .iload_n 1, 1) rfl rfl) rfl rfl,
    st_callV hC (n := 48) (k := 12) (na := 2) (con_X12_isIn l) (dc_X12_thing 48 (111, .invokevirtual 277, 3) rfl rfl) rfl wd_1907 wd_160 (by decide) ⟨rfl, rfl, by decide, by decide⟩ hM wd_1904 wd_1906 wd_89 clf_12,
    st_ifeq hC (n := 49) (dc_X12_thing 49 (114, .ifCond .eq 7, 3) rfl rfl) rfl (by decide),
    st_iconst hC (n := 50) (x := 2) (dc_X12_thing 50 (117, .iconst 2, 1) rfl rfl) rfl (by decide),
    st_goto hC (n := 51) (dc_X12_thing 51 (118, .goto 4, 3) rfl rfl) (by decide),
    st_iconst hC (n := 52) (x := 0) (dc_X12_thing 52 (121, .iconst 0, 1) rfl rfl) rfl (by decide),
    st_callV hC (n := 53) (k := 12) (na := 1) (con_X12_gives l) (dc_X12_thing 53 (122, .invokevirtual 91, 3) rfl rfl) rfl wd_1849 wd_160 (by decide) ⟨rfl, rfl, by decide, by decide⟩ hM wd_1846 wd_1848 wd_79 clf_12,
    st_iret hC (n := 54) hR (dc_X12_thing 54 (125, .ireturn, 1) rfl rfl),
    st_aload_n hC (n := 55) (k := 0) (dc_X12_thing 55 (126, .aload_n 0, 1) rfl rfl) rfl rfl,
    st_aload_n hC (n := 56) (k := 0) (dc_X12_thing 56 (127, .aload_n 0, 1) rfl rfl) rfl rfl,
    st_iload_n hC (n := 57) (k := 1) (dc_X12_thing 57 (128, .iload_n 1, 1) rfl rfl) rfl rfl,
    st_callV hC (n := 58) (k := 12) (na := 1) (con_X12_aheadOf l) (dc_X12_thing 58 (129, .invokevirtual 316, 3) rfl rfl) rfl wd_1942 wd_160 (by decide) ⟨rfl, rfl, by decide, by decide⟩ hM wd_1939 wd_1941 wd_95 clf_12,
    st_callV hC (n := 59) (k := 12) (na := 1) (con_X12_gives l) (dc_X12_thing 59 (132, .invokevirtual 91, 3) rfl rfl) rfl wd_1849 wd_160 (by decide) ⟨rfl, rfl, by decide, by decide⟩ hM wd_1846 wd_1848 wd_79 clf_12,
    st_iret hC (n := 60) hR (dc_X12_thing 60 (135, .ireturn, 1) rfl rfl),
    st_aload_n hC (n := 61) (k := 0) (dc_X12_thing 61 (136, .aload_n 0, 1) rfl rfl) rfl rfl,
    st_aload_n hC (n := 62) (k := 0) (dc_X12_thing 62 (137, .aload_n 0, 1) rfl rfl) rfl rfl,
    st_iload_n hC (n := 63) (k := 1) (dc_X12_thing 63 (138, .iload_n 1, 1) rfl rfl) rfl rfl,
    st_callV hC (n := 64) (k := 12) (na := 1) (con_X12_deepOf l) (dc_X12_thing 64 (139, .invokevirtual 319, 3) rfl rfl) rfl wd_1946 wd_160 (by decide) ⟨rfl, rfl, by decide, by decide⟩ hM wd_1943 wd_1945 wd_96 clf_12,
    st_callV hC (n := 65) (k := 12) (na := 1) (con_X12_gives l) (dc_X12_thing 65 (142, .invokevirtual 91, 3) rfl rfl) rfl wd_1849 wd_160 (by decide) ⟨rfl, rfl, by decide, by decide⟩ hM wd_1846 wd_1848 wd_79 clf_12,
    st_iret hC (n := 66) hR (dc_X12_thing 66 (145, .ireturn, 1) rfl rfl), trivial⟩
theorem vc_X12_thing : VC P_X12_thing 3 Pre_X12_thing Fn_X12_thing := by
  rintro mm as hom hoa ⟨ns, nm, nt, hV, hA, x, w, rfl⟩
  refine ⟨Nat.le_of_ble_eq_true rfl, fun X h => ?_⟩
  have no : ¬ (tgP (mm.1 54 0) x ∧ ¬ w < 0 ∧ w ≤ 4) → X 9 [some (vR 12 0), some (vI x), some (vI w)] [] mm := by
    intro hn
    refine h (fun _ => false) 3000 9 _ _ _ ?_
    refine And.intro ⟨_, rfl⟩ ?_
    exact (if_neg hn).symm
  refine h (fun i => Nat.beq i 9 || Nat.beq i 13) 3000 0 _ _ _ ?_
  refine And.intro ⟨_, rfl⟩ ?_
  refine br_c (fun h1 => ?_) (fun h1 => ?_)
  · exact no (fun z => bI_0.mp h1 z.1)
  replace h1 := bI_n0.mp h1
  refine br_c (fun h2 => ?_) (fun h2 => ?_)
  · exact no (fun z => z.2.1 h2)
  refine br_c (fun h3 => ?_) (fun h3 => no (fun z => h3 z.2.2))
  obtain ⟨j, hj, rfl⟩ := tg_in hV h1
  have hnt : nt ≤ 12 := hV.2.2.1.2
  have hM : VM mm := ⟨ns, nm, nt, hV⟩
  have ej : (nI j).toNatClampNeg = j := nI_clamp (by omega)
  have eF : Fn_X12_thing mm [vR 12 0, vI (nI j), vI w] = tgR mm j w := by
    refine Eq.trans (if_pos ⟨h1, h2, h3⟩) ?_
    rw [ej]
  rw [eF] at h
  have x1 : (44 + 3 * nI j + 1).toNatClampNeg = 45 + 3 * j := by simp (disch := omega) only [li, pk_mul, nI_add, nI_clamp]; omega
  show X 13 [some (vR 12 0), some (vI (nI j)), some (vI w)] [] mm
  refine h (fun i => Nat.beq i 15 || Nat.beq i 21 || Nat.beq i 31 || Nat.beq i 55 || Nat.beq i 61) 3000 13 _ _ _ ?_
  refine And.intro ?_ ?_
  · refine ⟨fun e => ?_, fun e => ?_, fun e => ?_, fun e => ?_, trivial⟩
    · show X 15 [some (vR 12 0), some (vI (nI j)), some (vI w)] [] mm
      have e3 : w = 0 := e
      refine h (fun _ => false) 3000 15 _ _ _ ?_
      refine And.intro ⟨j, by omega, rfl⟩ ?_
      refine And.intro ⟨_, rfl⟩ ?_
      refine leaf ?_
      unfold tgR
      rw [if_pos e3]
      have e : mm.1 54 0 (44 + 3 * (nI j).toNatClampNeg) = mm.1 54 0 (44 + 3 * j) := by rw [ej]
      rw [← e]
      rfl
    · show X 21 [some (vR 12 0), some (vI (nI j)), some (vI w)] [] mm
      have e3 : w = 1 := e
      refine h (fun _ => false) 3000 21 _ _ _ ?_
      refine And.intro ⟨_, rfl⟩ ?_
      refine And.intro (inb_o 3060 rfl rfl (by simp (disch := omega) only [li, pk_mul, nI_add, nI_clamp]; rfl) (by omega)) ?_
      refine And.intro ⟨_, rfl⟩ ?_
      refine leaf ?_
      unfold tgR
      rw [if_neg (by rw [e3]; decide), if_pos e3, ← x1]
      rfl
    · have e3 : w = 2 := e
      have e9 : tgR mm j w = gvM mm (tsA (mm.1 54 0) j) := by
        unfold tgR
        rw [if_neg (by rw [e3]; decide), if_neg (by rw [e3]; decide), if_pos e3]
      rw [e9] at h
      show X 31 [some (vR 12 0), some (vI (nI j)), some (vI w)] [] mm
      refine h (fun _ => false) 3000 31 _ _ _ ?_
      refine And.intro rfl ?_
      refine And.intro ⟨_, _, rfl⟩ ?_
      refine br_c (fun h4 => ?_) (fun h4 => ?_)
      · have h4' : ¬ inS (mm.1 54 0 8) (nI j) := bI_0.mp h4
        refine And.intro rfl ?_
        refine And.intro ⟨_, _, rfl⟩ ?_
        refine br_c (fun h5 => ?_) (fun h5 => ?_)
        · have h5' : ¬ inS (mm.1 54 0 9) (nI j) := bI_0.mp h5
          refine And.intro ⟨_, rfl⟩ ?_
          exact congrArg (gvM mm) ((if_neg h4').trans (if_neg h5')).symm
        · have h5' : inS (mm.1 54 0 9) (nI j) := bI_n0.mp h5
          refine And.intro ⟨_, rfl⟩ ?_
          exact congrArg (gvM mm) ((if_neg h4').trans (if_pos h5')).symm
      · have h4' : inS (mm.1 54 0 8) (nI j) := bI_n0.mp h4
        refine And.intro ⟨_, rfl⟩ ?_
        exact congrArg (gvM mm) (if_pos h4').symm
    · show X 55 [some (vR 12 0), some (vI (nI j)), some (vI w)] [] mm
      have e3 : w = 3 := e
      refine h (fun _ => false) 3000 55 _ _ _ ?_
      refine And.intro ⟨j, by omega, rfl⟩ ?_
      refine And.intro ⟨_, rfl⟩ ?_
      refine leaf ?_
      unfold tgR
      rw [if_neg (by rw [e3]; decide), if_neg (by rw [e3]; decide), if_neg (by rw [e3]; decide), if_pos e3]
      have e : mm.1 54 0 (46 + 3 * (nI j).toNatClampNeg) = mm.1 54 0 (46 + 3 * j) := by rw [ej]
      rw [← e]
      rfl
  · intro hno
    have hq : ∀ c : Int32, ∀ t : Nat, (c, t) ∈ tsw 0 [15, 21, 31, 55] → ¬ w = c := fun c t hm => hno (c, t) hm
    have n0 : ¬ w = 0 := hq 0 15 (by decide)
    have n1 : ¬ w = 1 := hq 1 21 (by decide)
    have n2 : ¬ w = 2 := hq 2 31 (by decide)
    have n3 : ¬ w = 3 := hq 3 55 (by decide)
    show X 61 [some (vR 12 0), some (vI (nI j)), some (vI w)] [] mm
    refine h (fun _ => false) 3000 61 _ _ _ ?_
    refine And.intro ⟨ns, nm, nt, j, hV, hA, hj, rfl⟩ ?_
    refine And.intro ⟨_, rfl⟩ ?_
    refine leaf ?_
    unfold tgR
    rw [if_neg n0, if_neg n1, if_neg n2, if_neg n3]
    have e : dpA (mm.1 54 0) (mm.1 54 0 2).toNatClampNeg (nI j).toNatClampNeg = dpA (mm.1 54 0) (mm.1 54 0 2).toNatClampNeg j := by rw [ej]
    rw [← e]
    rfl
theorem con_X12_thing (l : Launch) : CON l y_X12_thing prog_14_method_79_code 3 (some .int) rm_X12_thing Pre_X12_thing Fn_X12_thing := CON_of (by decide) rfl rfl (sa_X12_thing l) vc_X12_thing
def liA (a : Nat → Int32) (s : Int32) : Int32 := thA a s &&& a 9

def Pre_X12_lies : PreT := fun m as => VM m ∧ (∀ s : Int32, ∃ n, n < 4096 ∧ liA (m.1 54 0) s = nI n) ∧ ∃ x y w : Int32, as = [vR 12 0, vI x, vI y, vI w]
def Fn_X12_lies : FnT := fun m as => match as with
  | [_, Sum.inl x, Sum.inl y, Sum.inl w] => if (suP (m.1 54 0) x ∧ maP (m.1 54 0) y) ∧ ¬ w < 0 ∧ w ≤ 1 then (if w = 0 then gvM m (nI (pcN (liA (m.1 54 0) x).toNatClampNeg)) else gvM m (syA (m.1 54 0) (liA (m.1 54 0) x) y.toNatClampNeg)) else rfM m 1
  | _ => (none, m)
abbrev y_X12_lies : MethodName := ⟨"GivenUpModel", "lies", "(III)I"⟩
def P_X12_lies : List StpT := [s_aload 0, s_iload 1, s_iload 2, s_callV 12 2 Pre_X12_areBoth Fn_X12_areBoth, s_ifeq 10, s_iload 3, s_iflt 10, s_iload 3, s_ic (1), s_icle 14, s_aload 0, s_ic (1), s_callV 12 1 Pre_X12_refuse Fn_X12_refuse, s_iret, s_aload 0, s_iload 1, s_callV 12 1 Pre_X12_thingsOf Fn_X12_thingsOf, s_aload 0, s_getR 12 0 54, s_ic (9), s_iald, s_iand, s_istore 4, s_aload 0, s_iload 3, s_ifne 29, s_iload 4, s_callS 1 Pre_X12_bits Fn_X12_bits, s_goto 33, s_aload 0, s_iload 4, s_iload 2, s_callV 12 2 Pre_X12_saidBy Fn_X12_saidBy, s_callV 12 1 Pre_X12_gives Fn_X12_gives, s_iret]
def pc_X12_lies : Nat → Nat := fun i => [0, 1, 2, 3, 6, 9, 10, 13, 14, 15, 18, 19, 20, 23, 24, 25, 26, 29, 30, 33, 35, 36, 37, 39, 40, 41, 44, 46, 49, 52, 53, 55, 56, 59, 62].getD i 0
def dl_X12_lies : List (Nat × Instr × Nat) := [(0, .aload_n 0, 1), (1, .iload_n 1, 1), (2, .iload_n 2, 1), (3, .invokevirtual 322, 3), (6, .ifCond .eq 12, 3), (9, .iload_n 3, 1), (10, .ifCond .lt 8, 3), (13, .iload_n 3, 1), (14, .iconst 1, 1), (15, .if_icmp .le 9, 3), (18, .aload_n 0, 1), (19, .iconst 1, 1), (20, .invokevirtual 87, 3), (23, .ireturn, 1), (24, .aload_n 0, 1), (25, .iload_n 1, 1), (26, .invokevirtual 280, 3), (29, .aload_n 0, 1), (30, .getfield 7, 3), (33, .bipush 9, 2), (35, .iaload, 1), (36, .iand, 1), (37, .istore 4, 2), (39, .aload_n 0, 1), (40, .iload_n 3, 1), (41, .ifCond .ne 11, 3), (44, .iload 4, 2), (46, .invokestatic 331, 3), (49, .goto 10, 3), (52, .aload_n 0, 1), (53, .iload 4, 2), (55, .iload_n 2, 1), (56, .invokevirtual 283, 3), (59, .invokevirtual 91, 3), (62, .ireturn, 1)]
theorem dc_X12_lies : DEC prog_14_method_151_code pc_X12_lies dl_X12_lies := DEC_of (by decide +kernel)
abbrev rm_X12_lies : Room := { frames := 3, cells := 0, slots := 0, locals := 64 }
set_option maxRecDepth 20000 in
theorem sa_X12_lies (l : Launch) : SNDALL l prog_14_method_151_code "GivenUpModel" 5 (some .int) rm_X12_lies P_X12_lies pc_X12_lies := fun p e s m args below meth c cells slots Q D dA ad A RR hC hR => by
  have hM := RTX_room (R := rm_X12_lies) hR
  exact ⟨st_aload_n hC (n := 0) (k := 0) (dc_X12_lies 0 (0, .aload_n 0, 1) rfl rfl) rfl rfl,
    st_iload_n hC (n := 1) (k := 1) (dc_X12_lies 1 (1, .iload_n 1, 1) rfl rfl) rfl rfl,
    st_iload_n hC (n := 2) (k := 2) (dc_X12_lies 2 (2, .iload_n 2, 1) rfl rfl) rfl rfl,
    st_callV hC (n := 3) (k := 12) (na := 2) (con_X12_areBoth l) (dc_X12_lies 3 (3, .invokevirtual 322, 3) rfl rfl) rfl wd_1969 wd_160 (by decide) ⟨rfl, rfl, by decide, by decide⟩ hM wd_1966 wd_1968 wd_99 clf_12,
    st_ifeq hC (n := 4) (dc_X12_lies 4 (6, .ifCond .eq 12, 3) rfl rfl) rfl (by decide),
    st_iload_n hC (n := 5) (k := 3) (dc_X12_lies 5 (9, .iload_n 3, 1) rfl rfl) rfl rfl,
    st_iflt hC (n := 6) (dc_X12_lies 6 (10, .ifCond .lt 8, 3) rfl rfl) rfl (by decide),
    st_iload_n hC (n := 7) (k := 3) (dc_X12_lies 7 (13, .iload_n 3, 1) rfl rfl) rfl rfl,
    st_iconst hC (n := 8) (x := 1) (dc_X12_lies 8 (14, .iconst 1, 1) rfl rfl) rfl (by decide),
    st_icle hC (n := 9) (dc_X12_lies 9 (15, .if_icmp .le 9, 3) rfl rfl) rfl (by decide),
    st_aload_n hC (n := 10) (k := 0) (dc_X12_lies 10 (18, .aload_n 0, 1) rfl rfl) rfl rfl,
    st_iconst hC (n := 11) (x := 1) (dc_X12_lies 11 (19, .iconst 1, 1) rfl rfl) rfl (by decide),
    st_callV hC (n := 12) (k := 12) (na := 1) (con_X12_refuse l) (dc_X12_lies 12 (20, .invokevirtual 87, 3) rfl rfl) rfl wd_1758 wd_160 (by decide) ⟨rfl, rfl, by decide, by decide⟩ hM wd_1755 wd_1757 wd_57 clf_12,
    st_iret hC (n := 13) hR (dc_X12_lies 13 (23, .ireturn, 1) rfl rfl),
    st_aload_n hC (n := 14) (k := 0) (dc_X12_lies 14 (24, .aload_n 0, 1) rfl rfl) rfl rfl,
    st_iload_n hC (n := 15) (k := 1) (dc_X12_lies 15 (25, .iload_n 1, 1) rfl rfl) rfl rfl,
    st_callV hC (n := 16) (k := 12) (na := 1) (con_X12_thingsOf l) (dc_X12_lies 16 (26, .invokevirtual 280, 3) rfl rfl) rfl wd_1892 wd_160 (by decide) ⟨rfl, rfl, by decide, by decide⟩ hM wd_1889 wd_1891 wd_86 clf_12,
    st_aload_n hC (n := 17) (k := 0) (dc_X12_lies 17 (29, .aload_n 0, 1) rfl rfl) rfl rfl,
    st_getR hC (n := 18) (k := 12) (j := 0) (dc_X12_lies 18 (30, .getfield 7, 3) rfl rfl) rfl clf_12 (by decide) rfl (by decide) wd_1552,
    st_bipush hC (n := 19) (x := 9) (dc_X12_lies 19 (33, .bipush 9, 2) rfl rfl) rfl (by decide),
    st_iald hC (n := 20) (dc_X12_lies 20 (35, .iaload, 1) rfl rfl) rfl,
    st_iand hC (n := 21) (dc_X12_lies 21 (36, .iand, 1) rfl rfl) rfl,
    st_istore hC (n := 22) (dc_X12_lies 22 (37, .istore 4, 2) rfl rfl) rfl (by decide),
    st_aload_n hC (n := 23) (k := 0) (dc_X12_lies 23 (39, .aload_n 0, 1) rfl rfl) rfl rfl,
    st_iload_n hC (n := 24) (k := 3) (dc_X12_lies 24 (40, .iload_n 3, 1) rfl rfl) rfl rfl,
    st_ifne hC (n := 25) (dc_X12_lies 25 (41, .ifCond .ne 11, 3) rfl rfl) rfl (by decide),
    st_iload hC (n := 26) (dc_X12_lies 26 (44, .iload 4, 2) rfl rfl) rfl,
    st_callS hC (n := 27) (na := 1) (con_X12_bits l) (dc_X12_lies 27 (46, .invokestatic 331, 3) rfl rfl) rfl wd_1957 wd_160 (by decide) ⟨rfl, rfl, by decide, by decide⟩ hM wd_1955 wd_1956,
    st_goto hC (n := 28) (dc_X12_lies 28 (49, .goto 10, 3) rfl rfl) (by decide),
    st_aload_n hC (n := 29) (k := 0) (dc_X12_lies 29 (52, .aload_n 0, 1) rfl rfl) rfl rfl,
    st_iload hC (n := 30) (dc_X12_lies 30 (53, .iload 4, 2) rfl rfl) rfl,
    st_iload_n hC (n := 31) (k := 2) (dc_X12_lies 31 (55, .iload_n 2, 1) rfl rfl) rfl rfl,
    st_callV hC (n := 32) (k := 12) (na := 2) (con_X12_saidBy l) (dc_X12_lies 32 (56, .invokevirtual 283, 3) rfl rfl) rfl wd_2025 wd_160 (by decide) ⟨rfl, rfl, by decide, by decide⟩ hM wd_2022 wd_2024 wd_107 clf_12,
    st_callV hC (n := 33) (k := 12) (na := 1) (con_X12_gives l) (dc_X12_lies 33 (59, .invokevirtual 91, 3) rfl rfl) rfl wd_1849 wd_160 (by decide) ⟨rfl, rfl, by decide, by decide⟩ hM wd_1846 wd_1848 wd_79 clf_12,
    st_iret hC (n := 34) hR (dc_X12_lies 34 (62, .ireturn, 1) rfl rfl), trivial⟩
theorem vc_X12_lies : VC P_X12_lies 5 Pre_X12_lies Fn_X12_lies := by
  rintro mm as hom hoa ⟨⟨ns, nm, nt, hV⟩, hB, x, y, w, rfl⟩
  refine ⟨Nat.le_of_ble_eq_true rfl, fun X h => ?_⟩
  have no : ¬ ((suP (mm.1 54 0) x ∧ maP (mm.1 54 0) y) ∧ ¬ w < 0 ∧ w ≤ 1) → X 10 [some (vR 12 0), some (vI x), some (vI y), some (vI w), none] [] mm := by
    intro hn
    refine h (fun _ => false) 3000 10 _ _ _ ?_
    refine And.intro ⟨_, rfl⟩ ?_
    exact (if_neg hn).symm
  refine h (fun i => Nat.beq i 10 || Nat.beq i 14) 3000 0 _ _ _ ?_
  refine And.intro ⟨_, _, rfl⟩ ?_
  refine br_c (fun h1 => ?_) (fun h1 => ?_)
  · exact no (fun z => bI_0.mp h1 z.1)
  replace h1 := bI_n0.mp h1
  refine br_c (fun h2 => ?_) (fun h2 => ?_)
  · exact no (fun z => z.2.1 h2)
  refine br_c (fun h3 => ?_) (fun h3 => no (fun z => h3 z.2.2))
  obtain ⟨d, hd, rfl⟩ := ma_in hV h1.2
  have hnm : nm ≤ 4 := hV.2.1.2
  have hM : VM mm := ⟨ns, nm, nt, hV⟩
  show X 14 [some (vR 12 0), some (vI x), some (vI (nI d)), some (vI w), none] [] mm
  refine h (fun i => Nat.beq i 23) 3000 14 _ _ _ ?_
  refine And.intro ⟨hM, _, rfl⟩ ?_
  refine And.intro rfl ?_
  show X 23 [some (vR 12 0), some (vI x), some (vI (nI d)), some (vI w), some (vI (liA (mm.1 54 0) x))] [] mm
  obtain ⟨n, hn, en⟩ := hB x
  refine h (fun i => Nat.beq i 26 || Nat.beq i 29) 3000 23 _ _ _ ?_
  refine brn_c (fun h4 => ?_) (fun h4 => ?_)
  · show X 29 [some (vR 12 0), some (vI x), some (vI (nI d)), some (vI w), some (vI (liA (mm.1 54 0) x))] [vR 12 0] mm
    refine h (fun _ => false) 3000 29 _ _ _ ?_
    refine And.intro ⟨hM, _, d, by omega, rfl⟩ ?_
    refine And.intro ⟨_, rfl⟩ ?_
    exact ((if_pos ⟨h1, h2, h3⟩).trans (if_neg h4)).symm
  · show X 26 [some (vR 12 0), some (vI x), some (vI (nI d)), some (vI w), some (vI (liA (mm.1 54 0) x))] [vR 12 0] mm
    refine h (fun _ => false) 3000 26 _ _ _ ?_
    refine And.intro ⟨n, hn, by rw [← en]⟩ ?_
    refine And.intro ⟨_, rfl⟩ ?_
    exact ((if_pos ⟨h1, h2, h3⟩).trans (if_pos h4)).symm
theorem con_X12_lies (l : Launch) : CON l y_X12_lies prog_14_method_151_code 5 (some .int) rm_X12_lies Pre_X12_lies Fn_X12_lies := CON_of (by decide) rfl rfl (sa_X12_lies l) vc_X12_lies
def enS (a : Nat → Int32) (g w : Int32) : Nat → Int32
  | 0 => 0
  | j + 1 => enS a g w j ||| (if inS g (nI j) ∧ ((w = 0 ∧ a (46 + 3 * j) = 0) ∨ (¬ w = 0 ∧ bhA a j (a 2).toNatClampNeg = 0)) then 1 <<< (nI j &&& 31) else 0)

def Pre_X12_ends : PreT := fun m as => VM m ∧ ∃ x w : Int32, as = [vR 12 0, vI x, vI w]
def Fn_X12_ends : FnT := fun m as => match as with
  | [_, Sum.inl x, Sum.inl w] => if suP (m.1 54 0) x ∧ ¬ w < 0 ∧ w ≤ 1 then gvM m (enS (m.1 54 0) (thA (m.1 54 0) x &&& m.1 54 0 8) w (m.1 54 0 2).toNatClampNeg) else rfM m 1
  | _ => (none, m)
abbrev y_X12_ends : MethodName := ⟨"GivenUpModel", "ends", "(II)I"⟩
def P_X12_ends : List StpT := [s_aload 0, s_iload 1, s_callV 12 1 Pre_X12_isSuitor Fn_X12_isSuitor, s_ifeq 9, s_iload 2, s_iflt 9, s_iload 2, s_ic (1), s_icle 13, s_aload 0, s_ic (1), s_callV 12 1 Pre_X12_refuse Fn_X12_refuse, s_iret, s_aload 0, s_iload 1, s_callV 12 1 Pre_X12_thingsOf Fn_X12_thingsOf, s_aload 0, s_getR 12 0 54, s_ic (8), s_iald, s_iand, s_istore 3, s_ic (0), s_istore 4, s_ic (0), s_istore 5, s_iload 5, s_aload 0, s_getR 12 0 54, s_ic (2), s_iald, s_icge 58, s_iload 4, s_aload 0, s_iload 3, s_iload 5, s_callV 12 2 Pre_X12_isIn Fn_X12_isIn, s_ifeq 53, s_iload 2, s_ifne 45, s_aload 0, s_iload 5, s_callV 12 1 Pre_X12_aheadOf Fn_X12_aheadOf, s_ifne 53, s_goto 49, s_aload 0, s_iload 5, s_callV 12 1 Pre_X12_behindIt Fn_X12_behindIt, s_ifne 53, s_ic (1), s_iload 5, s_ishl, s_goto 54, s_ic (0), s_ior, s_istore 4, s_iinc 5 (1), s_goto 26, s_aload 0, s_iload 4, s_callV 12 1 Pre_X12_gives Fn_X12_gives, s_iret]
def pc_X12_ends : Nat → Nat := fun i => [0, 1, 2, 5, 8, 9, 12, 13, 14, 17, 18, 19, 22, 23, 24, 25, 28, 29, 32, 34, 35, 36, 37, 38, 40, 41, 43, 45, 46, 49, 50, 51, 54, 56, 57, 58, 60, 63, 66, 67, 70, 71, 73, 76, 79, 82, 83, 85, 88, 91, 92, 94, 95, 98, 99, 100, 102, 105, 108, 109, 111, 114].getD i 0
def dl_X12_ends : List (Nat × Instr × Nat) := [(0, .aload_n 0, 1), (1, .iload_n 1, 1), (2, .invokevirtual 265, 3), (5, .ifCond .eq 12, 3), (8, .iload_n 2, 1), (9, .ifCond .lt 8, 3), (12, .iload_n 2, 1), (13, .iconst 1, 1), (14, .if_icmp .le 9, 3), (17, .aload_n 0, 1), (18, .iconst 1, 1), (19, .invokevirtual 87, 3), (22, .ireturn, 1), (23, .aload_n 0, 1), (24, .iload_n 1, 1), (25, .invokevirtual 280, 3), (28, .aload_n 0, 1), (29, .getfield 7, 3), (32, .bipush 8, 2), (34, .iaload, 1), (35, .iand, 1), (36, .istore_n 3, 1), (37, .iconst 0, 1), (38, .istore 4, 2), (40, .iconst 0, 1), (41, .istore 5, 2), (43, .iload 5, 2), (45, .aload_n 0, 1), (46, .getfield 7, 3), (49, .iconst 2, 1), (50, .iaload, 1), (51, .if_icmp .ge 57, 3), (54, .iload 4, 2), (56, .aload_n 0, 1), (57, .iload_n 3, 1), (58, .iload 5, 2), (60, .invokevirtual 277, 3), (63, .ifCond .eq 35, 3), (66, .iload_n 2, 1), (67, .ifCond .ne 15, 3), (70, .aload_n 0, 1), (71, .iload 5, 2), (73, .invokevirtual 316, 3), (76, .ifCond .ne 22, 3), (79, .goto 12, 3), (82, .aload_n 0, 1), (83, .iload 5, 2), (85, .invokevirtual 355, 3), (88, .ifCond .ne 10, 3), (91, .iconst 1, 1), (92, .iload 5, 2), (94, .ishl, 1), (95, .goto 4, 3), (98, .iconst 0, 1), (99, .ior, 1), (100, .istore 4, 2), (102, .iinc 5 1, 3), (105, .goto (-62), 3), (108, .aload_n 0, 1), (109, .iload 4, 2), (111, .invokevirtual 91, 3), (114, .ireturn, 1)]
theorem dc_X12_ends : DEC prog_14_method_143_code pc_X12_ends dl_X12_ends := DEC_of (by decide +kernel)
abbrev rm_X12_ends : Room := { frames := 3, cells := 0, slots := 0, locals := 64 }
set_option maxRecDepth 20000 in
theorem sa_X12_ends (l : Launch) : SNDALL l prog_14_method_143_code "GivenUpModel" 6 (some .int) rm_X12_ends P_X12_ends pc_X12_ends := fun p e s m args below meth c cells slots Q D dA ad A RR hC hR => by
  have hM := RTX_room (R := rm_X12_ends) hR
  exact ⟨st_aload_n hC (n := 0) (k := 0) (dc_X12_ends 0 (0, .aload_n 0, 1) rfl rfl) rfl rfl,
    st_iload_n hC (n := 1) (k := 1) (dc_X12_ends 1 (1, .iload_n 1, 1) rfl rfl) rfl rfl,
    st_callV hC (n := 2) (k := 12) (na := 1) (con_X12_isSuitor l) (dc_X12_ends 2 (2, .invokevirtual 265, 3) rfl rfl) rfl wd_1885 wd_160 (by decide) ⟨rfl, rfl, by decide, by decide⟩ hM wd_1882 wd_1884 wd_85 clf_12,
    st_ifeq hC (n := 3) (dc_X12_ends 3 (5, .ifCond .eq 12, 3) rfl rfl) rfl (by decide),
    st_iload_n hC (n := 4) (k := 2) (dc_X12_ends 4 (8, .iload_n 2, 1) rfl rfl) rfl rfl,
    st_iflt hC (n := 5) (dc_X12_ends 5 (9, .ifCond .lt 8, 3) rfl rfl) rfl (by decide),
    st_iload_n hC (n := 6) (k := 2) (dc_X12_ends 6 (12, .iload_n 2, 1) rfl rfl) rfl rfl,
    st_iconst hC (n := 7) (x := 1) (dc_X12_ends 7 (13, .iconst 1, 1) rfl rfl) rfl (by decide),
    st_icle hC (n := 8) (dc_X12_ends 8 (14, .if_icmp .le 9, 3) rfl rfl) rfl (by decide),
    st_aload_n hC (n := 9) (k := 0) (dc_X12_ends 9 (17, .aload_n 0, 1) rfl rfl) rfl rfl,
    st_iconst hC (n := 10) (x := 1) (dc_X12_ends 10 (18, .iconst 1, 1) rfl rfl) rfl (by decide),
    st_callV hC (n := 11) (k := 12) (na := 1) (con_X12_refuse l) (dc_X12_ends 11 (19, .invokevirtual 87, 3) rfl rfl) rfl wd_1758 wd_160 (by decide) ⟨rfl, rfl, by decide, by decide⟩ hM wd_1755 wd_1757 wd_57 clf_12,
    st_iret hC (n := 12) hR (dc_X12_ends 12 (22, .ireturn, 1) rfl rfl),
    st_aload_n hC (n := 13) (k := 0) (dc_X12_ends 13 (23, .aload_n 0, 1) rfl rfl) rfl rfl,
    st_iload_n hC (n := 14) (k := 1) (dc_X12_ends 14 (24, .iload_n 1, 1) rfl rfl) rfl rfl,
    st_callV hC (n := 15) (k := 12) (na := 1) (con_X12_thingsOf l) (dc_X12_ends 15 (25, .invokevirtual 280, 3) rfl rfl) rfl wd_1892 wd_160 (by decide) ⟨rfl, rfl, by decide, by decide⟩ hM wd_1889 wd_1891 wd_86 clf_12,
    st_aload_n hC (n := 16) (k := 0) (dc_X12_ends 16 (28, .aload_n 0, 1) rfl rfl) rfl rfl,
    st_getR hC (n := 17) (k := 12) (j := 0) (dc_X12_ends 17 (29, .getfield 7, 3) rfl rfl) rfl clf_12 (by decide) rfl (by decide) wd_1552,
    st_bipush hC (n := 18) (x := 8) (dc_X12_ends 18 (32, .bipush 8, 2) rfl rfl) rfl (by decide),
    st_iald hC (n := 19) (dc_X12_ends 19 (34, .iaload, 1) rfl rfl) rfl,
    st_iand hC (n := 20) (dc_X12_ends 20 (35, .iand, 1) rfl rfl) rfl,
    st_istore_n hC (n := 21) (k := 3) (dc_X12_ends 21 (36, .istore_n 3, 1) rfl rfl) rfl rfl (by decide),
    st_iconst hC (n := 22) (x := 0) (dc_X12_ends 22 (37, .iconst 0, 1) rfl rfl) rfl (by decide),
    st_istore hC (n := 23) (dc_X12_ends 23 (38, .istore 4, 2) rfl rfl) rfl (by decide),
    st_iconst hC (n := 24) (x := 0) (dc_X12_ends 24 (40, .iconst 0, 1) rfl rfl) rfl (by decide),
    st_istore hC (n := 25) (dc_X12_ends 25 (41, .istore 5, 2) rfl rfl) rfl (by decide),
    st_iload hC (n := 26) (dc_X12_ends 26 (43, .iload 5, 2) rfl rfl) rfl,
    st_aload_n hC (n := 27) (k := 0) (dc_X12_ends 27 (45, .aload_n 0, 1) rfl rfl) rfl rfl,
    st_getR hC (n := 28) (k := 12) (j := 0) (dc_X12_ends 28 (46, .getfield 7, 3) rfl rfl) rfl clf_12 (by decide) rfl (by decide) wd_1552,
    st_iconst hC (n := 29) (x := 2) (dc_X12_ends 29 (49, .iconst 2, 1) rfl rfl) rfl (by decide),
    st_iald hC (n := 30) (dc_X12_ends 30 (50, .iaload, 1) rfl rfl) rfl,
    st_icge hC (n := 31) (dc_X12_ends 31 (51, .if_icmp .ge 57, 3) rfl rfl) rfl (by decide),
    st_iload hC (n := 32) (dc_X12_ends 32 (54, .iload 4, 2) rfl rfl) rfl,
    st_aload_n hC (n := 33) (k := 0) (dc_X12_ends 33 (56, .aload_n 0, 1) rfl rfl) rfl rfl,
    st_iload_n hC (n := 34) (k := 3) (dc_X12_ends 34 (57, .iload_n 3, 1) rfl rfl) rfl rfl,
    st_iload hC (n := 35) (dc_X12_ends 35 (58, .iload 5, 2) rfl rfl) rfl,
    st_callV hC (n := 36) (k := 12) (na := 2) (con_X12_isIn l) (dc_X12_ends 36 (60, .invokevirtual 277, 3) rfl rfl) rfl wd_1907 wd_160 (by decide) ⟨rfl, rfl, by decide, by decide⟩ hM wd_1904 wd_1906 wd_89 clf_12,
    st_ifeq hC (n := 37) (dc_X12_ends 37 (63, .ifCond .eq 35, 3) rfl rfl) rfl (by decide),
    st_iload_n hC (n := 38) (k := 2) (dc_X12_ends 38 (66, .iload_n 2, 1) rfl rfl) rfl rfl,
    st_ifne hC (n := 39) (dc_X12_ends 39 (67, .ifCond .ne 15, 3) rfl rfl) rfl (by decide),
    st_aload_n hC (n := 40) (k := 0) (dc_X12_ends 40 (70, .aload_n 0, 1) rfl rfl) rfl rfl,
    st_iload hC (n := 41) (dc_X12_ends 41 (71, .iload 5, 2) rfl rfl) rfl,
    st_callV hC (n := 42) (k := 12) (na := 1) (con_X12_aheadOf l) (dc_X12_ends 42 (73, .invokevirtual 316, 3) rfl rfl) rfl wd_1942 wd_160 (by decide) ⟨rfl, rfl, by decide, by decide⟩ hM wd_1939 wd_1941 wd_95 clf_12,
    st_ifne hC (n := 43) (dc_X12_ends 43 (76, .ifCond .ne 22, 3) rfl rfl) rfl (by decide),
    st_goto hC (n := 44) (dc_X12_ends 44 (79, .goto 12, 3) rfl rfl) (by decide),
    st_aload_n hC (n := 45) (k := 0) (dc_X12_ends 45 (82, .aload_n 0, 1) rfl rfl) rfl rfl,
    st_iload hC (n := 46) (dc_X12_ends 46 (83, .iload 5, 2) rfl rfl) rfl,
    st_callV hC (n := 47) (k := 12) (na := 1) (con_X12_behindIt l) (dc_X12_ends 47 (85, .invokevirtual 355, 3) rfl rfl) rfl wd_2066 wd_160 (by decide) ⟨rfl, rfl, by decide, by decide⟩ hM wd_2063 wd_2065 wd_113 clf_12,
    st_ifne hC (n := 48) (dc_X12_ends 48 (88, .ifCond .ne 10, 3) rfl rfl) rfl (by decide),
    st_iconst hC (n := 49) (x := 1) (dc_X12_ends 49 (91, .iconst 1, 1) rfl rfl) rfl (by decide),
    st_iload hC (n := 50) (dc_X12_ends 50 (92, .iload 5, 2) rfl rfl) rfl,
    st_ishl hC (n := 51) (dc_X12_ends 51 (94, .ishl, 1) rfl rfl) rfl,
    st_goto hC (n := 52) (dc_X12_ends 52 (95, .goto 4, 3) rfl rfl) (by decide),
    st_iconst hC (n := 53) (x := 0) (dc_X12_ends 53 (98, .iconst 0, 1) rfl rfl) rfl (by decide),
    st_ior hC (n := 54) (dc_X12_ends 54 (99, .ior, 1) rfl rfl) rfl,
    st_istore hC (n := 55) (dc_X12_ends 55 (100, .istore 4, 2) rfl rfl) rfl (by decide),
    st_iinc hC (n := 56) (x := 1) (dc_X12_ends 56 (102, .iinc 5 1, 3) rfl rfl) rfl (by decide) (by decide),
    st_goto hC (n := 57) (dc_X12_ends 57 (105, .goto (-62), 3) rfl rfl) (by decide),
    st_aload_n hC (n := 58) (k := 0) (dc_X12_ends 58 (108, .aload_n 0, 1) rfl rfl) rfl rfl,
    st_iload hC (n := 59) (dc_X12_ends 59 (109, .iload 4, 2) rfl rfl) rfl,
    st_callV hC (n := 60) (k := 12) (na := 1) (con_X12_gives l) (dc_X12_ends 60 (111, .invokevirtual 91, 3) rfl rfl) rfl wd_1849 wd_160 (by decide) ⟨rfl, rfl, by decide, by decide⟩ hM wd_1846 wd_1848 wd_79 clf_12,
    st_iret hC (n := 61) hR (dc_X12_ends 61 (114, .ireturn, 1) rfl rfl), trivial⟩
theorem vc_X12_ends : VC P_X12_ends 6 Pre_X12_ends Fn_X12_ends := by
  rintro mm as hom hoa ⟨⟨ns, nm, n, hV⟩, x, w, rfl⟩
  refine ⟨Nat.le_of_ble_eq_true rfl, fun X h => ?_⟩
  have hn : mm.1 54 0 2 = nI n := hV.2.2.1.1
  have hn12 : n ≤ 12 := hV.2.2.1.2
  have hM : VM mm := ⟨ns, nm, n, hV⟩
  have no : ¬ (suP (mm.1 54 0) x ∧ ¬ w < 0 ∧ w ≤ 1) → X 9 [some (vR 12 0), some (vI x), some (vI w), none, none, none] [] mm := by
    intro hn
    refine h (fun _ => false) 3000 9 _ _ _ ?_
    refine And.intro ⟨_, rfl⟩ ?_
    exact (if_neg hn).symm
  refine h (fun i => Nat.beq i 9 || Nat.beq i 13) 3000 0 _ _ _ ?_
  refine And.intro ⟨_, rfl⟩ ?_
  refine br_c (fun h1 => ?_) (fun h1 => ?_)
  · exact no (fun z => bI_0.mp h1 z.1)
  replace h1 := bI_n0.mp h1
  refine br_c (fun h2 => ?_) (fun h2 => ?_)
  · exact no (fun z => z.2.1 h2)
  refine br_c (fun h3 => ?_) (fun h3 => no (fun z => h3 z.2.2))
  have loop : ∀ t, t ≤ n → X 26 [some (vR 12 0), some (vI x), some (vI w), some (vI (thA (mm.1 54 0) x &&& mm.1 54 0 8)), some (vI (enS (mm.1 54 0) (thA (mm.1 54 0) x &&& mm.1 54 0 8) w t)), some (vI (nI t))] [] mm := by
    refine up_ind n ?_ (fun t ht hk => ?_)
    · refine h (fun i => Nat.beq i 26) 3000 26 _ _ _ ?_
      repeat' (first | refine And.intro (by (first | exact rfl | exact Or.inl rfl | exact Or.inr rfl | exact bI_in | exact inb_o 3060 rfl rfl (by (try simp (disch := omega) only [hn, li, pk_mul, nI_add, nI_clamp]); rfl) (by omega) | exact inb_o 12 rfl rfl (by (try simp (disch := omega) only [hn, li, pk_mul, nI_add, nI_clamp]); rfl) (by omega) | exact inb_o 4 rfl rfl (by (try simp (disch := omega) only [hn, li, pk_mul, nI_add, nI_clamp]); rfl) (by omega) | exact inb_o 5 rfl rfl (by (try simp (disch := omega) only [hn, li, pk_mul, nI_add, nI_clamp]); rfl) (by omega) | exact inb_o 16 rfl rfl (by (try simp (disch := omega) only [hn, li, pk_mul, nI_add, nI_clamp]); rfl) (by omega) | exact inb_o 20 rfl rfl (by (try simp (disch := omega) only [hn, li, pk_mul, nI_add, nI_clamp]); rfl) (by omega) | exact inb_o 30 rfl rfl (by (try simp (disch := omega) only [hn, li, pk_mul, nI_add, nI_clamp]); rfl) (by omega) | exact inb_o 48 rfl rfl (by (try simp (disch := omega) only [hn, li, pk_mul, nI_add, nI_clamp]); rfl) (by omega) | exact inb_o 60 rfl rfl (by (try simp (disch := omega) only [hn, li, pk_mul, nI_add, nI_clamp]); rfl) (by omega) | exact inb_o 80 rfl rfl (by (try simp (disch := omega) only [hn, li, pk_mul, nI_add, nI_clamp]); rfl) (by omega) | exact inb_o 120 rfl rfl (by (try simp (disch := omega) only [hn, li, pk_mul, nI_add, nI_clamp]); rfl) (by omega) | exact inb_o 240 rfl rfl (by (try simp (disch := omega) only [hn, li, pk_mul, nI_add, nI_clamp]); rfl) (by omega) | exact inb_o 900 rfl rfl (by (try simp (disch := omega) only [hn, li, pk_mul, nI_add, nI_clamp]); rfl) (by omega) | exact inb_o 4096 rfl rfl (by (try simp (disch := omega) only [hn, li, pk_mul, nI_add, nI_clamp]); rfl) (by omega) | exact inb_o 3 rfl rfl (by (try simp (disch := omega) only [hn, li, pk_mul, nI_add, nI_clamp]); rfl) (by omega))) ?_ | refine br_t (by ((try simp (disch := omega) only [hn, li, pk_mul, nI_add, nI_clamp, nI_leI, nI_ltI, nI_eq, bI_0, bI_n0, Decidable.not_not, gu_m1]); first | done | omega | assumption)) ?_ | refine br_f (by ((try simp (disch := omega) only [hn, li, pk_mul, nI_add, nI_clamp, nI_leI, nI_ltI, nI_eq, bI_0, bI_n0, Decidable.not_not, gu_m1]); first | done | omega | assumption)) ?_ | refine brn_t (by ((try simp (disch := omega) only [hn, li, pk_mul, nI_add, nI_clamp, nI_leI, nI_ltI, nI_eq, bI_0, bI_n0, Decidable.not_not, gu_m1]); first | done | omega | assumption)) ?_ | refine brn_f (by ((try simp (disch := omega) only [hn, li, pk_mul, nI_add, nI_clamp, nI_leI, nI_ltI, nI_eq, bI_0, bI_n0, Decidable.not_not, gu_m1]); first | done | omega | assumption)) ?_ | refine br_c (fun _ => ?_) (fun _ => ?_) | refine brn_c (fun _ => ?_) (fun _ => ?_))
      refine And.intro ⟨_, rfl⟩ ?_
      refine Eq.trans ?_ (if_pos ⟨h1, h2, h3⟩).symm
      rw [hn, nI_clamp (by omega)]
      rfl
    · have et : (nI t).toNatClampNeg = t := nI_clamp (by omega)
      have ks : X 56 [some (vR 12 0), some (vI x), some (vI w), some (vI (thA (mm.1 54 0) x &&& mm.1 54 0 8)), some (vI (enS (mm.1 54 0) (thA (mm.1 54 0) x &&& mm.1 54 0 8) w (t + 1))), some (vI (nI t))] [] mm := by
        refine h (fun i => Nat.beq i 26) 3000 56 _ _ _ ?_
        rw [← nI_1] at hk
        exact hk
      have yes : (inS (thA (mm.1 54 0) x &&& mm.1 54 0 8) (nI t) ∧ ((w = 0 ∧ mm.1 54 0 (46 + 3 * t) = 0) ∨ (¬ w = 0 ∧ bhA (mm.1 54 0) t (mm.1 54 0 2).toNatClampNeg = 0))) → X 49 [some (vR 12 0), some (vI x), some (vI w), some (vI (thA (mm.1 54 0) x &&& mm.1 54 0 8)), some (vI (enS (mm.1 54 0) (thA (mm.1 54 0) x &&& mm.1 54 0 8) w t)), some (vI (nI t))] [vI (enS (mm.1 54 0) (thA (mm.1 54 0) x &&& mm.1 54 0 8) w t)] mm := by
        intro hc
        refine h (fun i => Nat.beq i 56) 3000 49 _ _ _ ?_
        rw [enS, if_pos hc] at ks
        exact ks
      have noo : ¬ (inS (thA (mm.1 54 0) x &&& mm.1 54 0 8) (nI t) ∧ ((w = 0 ∧ mm.1 54 0 (46 + 3 * t) = 0) ∨ (¬ w = 0 ∧ bhA (mm.1 54 0) t (mm.1 54 0 2).toNatClampNeg = 0))) → X 53 [some (vR 12 0), some (vI x), some (vI w), some (vI (thA (mm.1 54 0) x &&& mm.1 54 0 8)), some (vI (enS (mm.1 54 0) (thA (mm.1 54 0) x &&& mm.1 54 0 8) w t)), some (vI (nI t))] [vI (enS (mm.1 54 0) (thA (mm.1 54 0) x &&& mm.1 54 0 8) w t)] mm := by
        intro hc
        refine h (fun i => Nat.beq i 56) 3000 53 _ _ _ ?_
        rw [enS, if_neg hc] at ks
        exact ks
      refine h (fun i => Nat.beq i 26 || Nat.beq i 49 || Nat.beq i 53) 3000 26 _ _ _ ?_
      repeat' (first | refine And.intro (by (first | exact rfl | exact Or.inl rfl | exact Or.inr rfl | exact bI_in | exact inb_o 3060 rfl rfl (by (try simp (disch := omega) only [hn, li, pk_mul, nI_add, nI_clamp]); rfl) (by omega) | exact inb_o 12 rfl rfl (by (try simp (disch := omega) only [hn, li, pk_mul, nI_add, nI_clamp]); rfl) (by omega) | exact inb_o 4 rfl rfl (by (try simp (disch := omega) only [hn, li, pk_mul, nI_add, nI_clamp]); rfl) (by omega) | exact inb_o 5 rfl rfl (by (try simp (disch := omega) only [hn, li, pk_mul, nI_add, nI_clamp]); rfl) (by omega) | exact inb_o 16 rfl rfl (by (try simp (disch := omega) only [hn, li, pk_mul, nI_add, nI_clamp]); rfl) (by omega) | exact inb_o 20 rfl rfl (by (try simp (disch := omega) only [hn, li, pk_mul, nI_add, nI_clamp]); rfl) (by omega) | exact inb_o 30 rfl rfl (by (try simp (disch := omega) only [hn, li, pk_mul, nI_add, nI_clamp]); rfl) (by omega) | exact inb_o 48 rfl rfl (by (try simp (disch := omega) only [hn, li, pk_mul, nI_add, nI_clamp]); rfl) (by omega) | exact inb_o 60 rfl rfl (by (try simp (disch := omega) only [hn, li, pk_mul, nI_add, nI_clamp]); rfl) (by omega) | exact inb_o 80 rfl rfl (by (try simp (disch := omega) only [hn, li, pk_mul, nI_add, nI_clamp]); rfl) (by omega) | exact inb_o 120 rfl rfl (by (try simp (disch := omega) only [hn, li, pk_mul, nI_add, nI_clamp]); rfl) (by omega) | exact inb_o 240 rfl rfl (by (try simp (disch := omega) only [hn, li, pk_mul, nI_add, nI_clamp]); rfl) (by omega) | exact inb_o 900 rfl rfl (by (try simp (disch := omega) only [hn, li, pk_mul, nI_add, nI_clamp]); rfl) (by omega) | exact inb_o 4096 rfl rfl (by (try simp (disch := omega) only [hn, li, pk_mul, nI_add, nI_clamp]); rfl) (by omega) | exact inb_o 3 rfl rfl (by (try simp (disch := omega) only [hn, li, pk_mul, nI_add, nI_clamp]); rfl) (by omega))) ?_ | refine br_t (by ((try simp (disch := omega) only [hn, li, pk_mul, nI_add, nI_clamp, nI_leI, nI_ltI, nI_eq, bI_0, bI_n0, Decidable.not_not, gu_m1]); first | done | omega | assumption)) ?_ | refine br_f (by ((try simp (disch := omega) only [hn, li, pk_mul, nI_add, nI_clamp, nI_leI, nI_ltI, nI_eq, bI_0, bI_n0, Decidable.not_not, gu_m1]); first | done | omega | assumption)) ?_ | refine brn_t (by ((try simp (disch := omega) only [hn, li, pk_mul, nI_add, nI_clamp, nI_leI, nI_ltI, nI_eq, bI_0, bI_n0, Decidable.not_not, gu_m1]); first | done | omega | assumption)) ?_ | refine brn_f (by ((try simp (disch := omega) only [hn, li, pk_mul, nI_add, nI_clamp, nI_leI, nI_ltI, nI_eq, bI_0, bI_n0, Decidable.not_not, gu_m1]); first | done | omega | assumption)) ?_ | refine br_c (fun _ => ?_) (fun _ => ?_) | refine brn_c (fun _ => ?_) (fun _ => ?_))
      refine And.intro ⟨_, _, rfl⟩ ?_
      refine br_c (fun h4 => ?_) (fun h4 => ?_)
      · exact noo (fun z => bI_0.mp h4 z.1)
      have h4' : inS (thA (mm.1 54 0) x &&& mm.1 54 0 8) (nI t) := bI_n0.mp h4
      refine brn_c (fun h5 => ?_) (fun h5 => ?_)
      · refine And.intro ⟨hM, t, by omega, rfl⟩ ?_
        refine brn_c (fun h6 => ?_) (fun h6 => ?_)
        · have h6' : ¬ bhA (mm.1 54 0) (nI t).toNatClampNeg (mm.1 54 0 2).toNatClampNeg = 0 := h6
          rw [et] at h6'
          exact noo (fun z => z.2.elim (fun q => h5 q.1) (fun q => h6' q.2))
        · have h6' : bhA (mm.1 54 0) (nI t).toNatClampNeg (mm.1 54 0 2).toNatClampNeg = 0 := h6
          rw [et] at h6'
          exact yes ⟨h4', Or.inr ⟨h5, h6'⟩⟩
      · refine And.intro ⟨t, by omega, rfl⟩ ?_
        refine brn_c (fun h6 => ?_) (fun h6 => ?_)
        · have h6' : ¬ mm.1 54 0 (46 + 3 * (nI t).toNatClampNeg) = 0 := h6
          rw [et] at h6'
          exact noo (fun z => z.2.elim (fun q => h6' q.2) (fun q => q.1 h5))
        · have h6' : mm.1 54 0 (46 + 3 * (nI t).toNatClampNeg) = 0 := h6
          rw [et] at h6'
          exact yes ⟨h4', Or.inl ⟨h5, h6'⟩⟩
  show X 13 [some (vR 12 0), some (vI x), some (vI w), none, none, none] [] mm
  refine h (fun i => Nat.beq i 26) 3000 13 _ _ _ ?_
  refine And.intro ⟨hM, _, rfl⟩ ?_
  refine And.intro rfl ?_
  exact loop 0 (Nat.zero_le n)
theorem con_X12_ends (l : Launch) : CON l y_X12_ends prog_14_method_143_code 6 (some .int) rm_X12_ends Pre_X12_ends Fn_X12_ends := CON_of (by decide) rfl rfl (sa_X12_ends l) vc_X12_ends
