/-! PART 30: the model: plans -/

noncomputable def cI (p : Prop) (x y : Int32) : Int32 := @ite Int32 p (Classical.propDecidable p) x y
theorem cI_t {p : Prop} {x y : Int32} (h : p) : cI p x y = x := if_pos h
theorem cI_f {p : Prop} {x y : Int32} (h : ¬ p) : cI p x y = y := if_neg h
/-- what is less, by what is looked for -/
abbrev lsB (a : Nat → Int32) (i X : Nat) (o q : Int32) : Prop := o = -1 ∨ (q = 0 ∧ (wtA a (nI X) - wtA a o < 0 ∨ (wtA a (nI X) - wtA a o = 0 ∧ ¬ 0 ≤ nI (pcN X) - nI (pcN o.toNatClampNeg)))) ∨ (¬ q = 0 ∧ q = 1 ∧ ¬ 0 ≤ nI (pcN X) - nI (pcN o.toNatClampNeg)) ∨ (¬ q = 0 ∧ ¬ q = 1 ∧ ¬ vwA a i (nI (pcN o.toNatClampNeg)) ≤ vwA a i (nI (pcN X)))

--tpl ⟨hM, {1N}, {2N}, _, by omega, by omega, by assumption, rfl⟩ || bI (lsB {A} {1n} {2n} {3} {4})
def Pre_X12_isLess : PreT := fun m as => VM m ∧ ∃ (i X : Nat) (o q : Int32), i < 4 ∧ X < 4096 ∧ (o = -1 ∨ ∃ Y, Y < 4096 ∧ o = nI Y) ∧ as = [vR 12 0, vI (nI i), vI (nI X), vI o, vI q]
def Fn_X12_isLess : FnT := fun m as => match as with
  | [_, Sum.inl i, Sum.inl x, Sum.inl o, Sum.inl q] => (some (vI (bI (lsB (m.1 54 0) i.toNatClampNeg x.toNatClampNeg o q))), m)
  | _ => (none, m)
abbrev y_X12_isLess : MethodName := ⟨"GivenUpModel", "isLess", "(IIII)Z"⟩
def P_X12_isLess : List StpT := [s_iload 3, s_ic (-1), s_icne 5, s_ic (1), s_zret, s_aload 0, s_iload 2, s_callV 12 1 Pre_X12_worthOf Fn_X12_worthOf, s_aload 0, s_iload 3, s_callV 12 1 Pre_X12_worthOf Fn_X12_worthOf, s_isub, s_istore 5, s_iload 2, s_callS 1 Pre_X12_bits Fn_X12_bits, s_iload 3, s_callS 1 Pre_X12_bits Fn_X12_bits, s_isub, s_istore 6, s_iload 4, s_ifne 31, s_iload 5, s_iflt 27, s_iload 5, s_ifne 29, s_iload 6, s_ifge 29, s_ic (1), s_goto 30, s_ic (0), s_zret, s_iload 4, s_ic (1), s_icne 40, s_iload 6, s_ifge 38, s_ic (1), s_goto 54, s_ic (0), s_goto 54, s_aload 0, s_iload 1, s_iload 2, s_callS 1 Pre_X12_bits Fn_X12_bits, s_callV 12 2 Pre_X12_weeksFor Fn_X12_weeksFor, s_aload 0, s_iload 1, s_iload 3, s_callS 1 Pre_X12_bits Fn_X12_bits, s_callV 12 2 Pre_X12_weeksFor Fn_X12_weeksFor, s_icge 53, s_ic (1), s_goto 54, s_ic (0), s_zret]
def pc_X12_isLess : Nat → Nat := fun i => [0, 1, 2, 5, 6, 7, 8, 9, 12, 13, 14, 17, 18, 20, 21, 24, 25, 28, 29, 31, 33, 36, 38, 41, 43, 46, 48, 51, 52, 55, 56, 57, 59, 60, 63, 65, 68, 69, 72, 73, 76, 77, 78, 79, 82, 85, 86, 87, 88, 91, 94, 97, 98, 101, 102].getD i 0
def dl_X12_isLess : List (Nat × Instr × Nat) := [(0, .iload_n 3, 1), (1, .iconst (-1), 1), (2, .if_icmp .ne 5, 3), (5, .iconst 1, 1), (6, .ireturn, 1), (7, .aload_n 0, 1), (8, .iload_n 2, 1), (9, .invokevirtual 304, 3), (12, .aload_n 0, 1), (13, .iload_n 3, 1), (14, .invokevirtual 304, 3), (17, .isub, 1), (18, .istore 5, 2), (20, .iload_n 2, 1), (21, .invokestatic 331, 3), (24, .iload_n 3, 1), (25, .invokestatic 331, 3), (28, .isub, 1), (29, .istore 6, 2), (31, .iload 4, 2), (33, .ifCond .ne 24, 3), (36, .iload 5, 2), (38, .ifCond .lt 13, 3), (41, .iload 5, 2), (43, .ifCond .ne 12, 3), (46, .iload 6, 2), (48, .ifCond .ge 7, 3), (51, .iconst 1, 1), (52, .goto 4, 3), (55, .iconst 0, 1), (56, .ireturn, 1), (57, .iload 4, 2), (59, .iconst 1, 1), (60, .if_icmp .ne 16, 3), (63, .iload 6, 2), (65, .ifCond .ge 7, 3), (68, .iconst 1, 1), (69, .goto 33, 3), (72, .iconst 0, 1), (73, .goto 29, 3), (76, .aload_n 0, 1), (77, .iload_n 1, 1), (78, .iload_n 2, 1), (79, .invokestatic 331, 3), (82, .invokevirtual 379, 3), (85, .aload_n 0, 1), (86, .iload_n 1, 1), (87, .iload_n 3, 1), (88, .invokestatic 331, 3), (91, .invokevirtual 379, 3), (94, .if_icmp .ge 7, 3), (97, .iconst 1, 1), (98, .goto 4, 3), (101, .iconst 0, 1), (102, .ireturn, 1)]
theorem dc_X12_isLess : DEC prog_14_method_114_code pc_X12_isLess dl_X12_isLess := DEC_of (by decide +kernel)
abbrev rm_X12_isLess : Room := { frames := 2, cells := 0, slots := 0, locals := 45 }
set_option maxRecDepth 20000 in
theorem sa_X12_isLess (l : Launch) : SNDALL l prog_14_method_114_code "GivenUpModel" 7 (some .boolean) rm_X12_isLess P_X12_isLess pc_X12_isLess := fun p e s m args below meth c cells slots Q D dA ad A RR hC hR => by
  have hM := RTX_room (R := rm_X12_isLess) hR
  exact ⟨st_iload_n hC (n := 0) (k := 3) (dc_X12_isLess 0 (0, .iload_n 3, 1) rfl rfl) rfl rfl,
    st_iconst hC (n := 1) (x := (-1)) (dc_X12_isLess 1 (1, .iconst (-1), 1) rfl rfl) rfl (by decide),
    st_icne hC (n := 2) (dc_X12_isLess 2 (2, .if_icmp .ne 5, 3) rfl rfl) rfl (by decide),
    st_iconst hC (n := 3) (x := 1) (dc_X12_isLess 3 (5, .iconst 1, 1) rfl rfl) rfl (by decide),
    st_zret hC (n := 4) hR (dc_X12_isLess 4 (6, .ireturn, 1) rfl rfl),
    st_aload_n hC (n := 5) (k := 0) (dc_X12_isLess 5 (7, .aload_n 0, 1) rfl rfl) rfl rfl,
    st_iload_n hC (n := 6) (k := 2) (dc_X12_isLess 6 (8, .iload_n 2, 1) rfl rfl) rfl rfl,
    st_callV hC (n := 7) (k := 12) (na := 1) (con_X12_worthOf l) (dc_X12_isLess 7 (9, .invokevirtual 304, 3) rfl rfl) rfl wd_1903 wd_160 (by decide) ⟨rfl, rfl, by decide, by decide⟩ hM wd_1900 wd_1902 wd_88 clf_12,
    st_aload_n hC (n := 8) (k := 0) (dc_X12_isLess 8 (12, .aload_n 0, 1) rfl rfl) rfl rfl,
    st_iload_n hC (n := 9) (k := 3) (dc_X12_isLess 9 (13, .iload_n 3, 1) rfl rfl) rfl rfl,
    st_callV hC (n := 10) (k := 12) (na := 1) (con_X12_worthOf l) (dc_X12_isLess 10 (14, .invokevirtual 304, 3) rfl rfl) rfl wd_1903 wd_160 (by decide) ⟨rfl, rfl, by decide, by decide⟩ hM wd_1900 wd_1902 wd_88 clf_12,
    st_isub hC (n := 11) (dc_X12_isLess 11 (17, .isub, 1) rfl rfl) rfl,
    st_istore hC (n := 12) (dc_X12_isLess 12 (18, .istore 5, 2) rfl rfl) rfl (by decide),
    st_iload_n hC (n := 13) (k := 2) (dc_X12_isLess 13 (20, .iload_n 2, 1) rfl rfl) rfl rfl,
    st_callS hC (n := 14) (na := 1) (con_X12_bits l) (dc_X12_isLess 14 (21, .invokestatic 331, 3) rfl rfl) rfl wd_1957 wd_160 (by decide) ⟨rfl, rfl, by decide, by decide⟩ hM wd_1955 wd_1956,
    st_iload_n hC (n := 15) (k := 3) (dc_X12_isLess 15 (24, .iload_n 3, 1) rfl rfl) rfl rfl,
    st_callS hC (n := 16) (na := 1) (con_X12_bits l) (dc_X12_isLess 16 (25, .invokestatic 331, 3) rfl rfl) rfl wd_1957 wd_160 (by decide) ⟨rfl, rfl, by decide, by decide⟩ hM wd_1955 wd_1956,
    st_isub hC (n := 17) (dc_X12_isLess 17 (28, .isub, 1) rfl rfl) rfl,
    st_istore hC (n := 18) (dc_X12_isLess 18 (29, .istore 6, 2) rfl rfl) rfl (by decide),
    st_iload hC (n := 19) (dc_X12_isLess 19 (31, .iload 4, 2) rfl rfl) rfl,
    st_ifne hC (n := 20) (dc_X12_isLess 20 (33, .ifCond .ne 24, 3) rfl rfl) rfl (by decide),
    st_iload hC (n := 21) (dc_X12_isLess 21 (36, .iload 5, 2) rfl rfl) rfl,
    st_iflt hC (n := 22) (dc_X12_isLess 22 (38, .ifCond .lt 13, 3) rfl rfl) rfl (by decide),
    st_iload hC (n := 23) (dc_X12_isLess 23 (41, .iload 5, 2) rfl rfl) rfl,
    st_ifne hC (n := 24) (dc_X12_isLess 24 (43, .ifCond .ne 12, 3) rfl rfl) rfl (by decide),
    st_iload hC (n := 25) (dc_X12_isLess 25 (46, .iload 6, 2) rfl rfl) rfl,
    st_ifge hC (n := 26) (dc_X12_isLess 26 (48, .ifCond .ge 7, 3) rfl rfl) rfl (by decide),
    st_iconst hC (n := 27) (x := 1) (dc_X12_isLess 27 (51, .iconst 1, 1) rfl rfl) rfl (by decide),
    st_goto hC (n := 28) (dc_X12_isLess 28 (52, .goto 4, 3) rfl rfl) (by decide),
    st_iconst hC (n := 29) (x := 0) (dc_X12_isLess 29 (55, .iconst 0, 1) rfl rfl) rfl (by decide),
    st_zret hC (n := 30) hR (dc_X12_isLess 30 (56, .ireturn, 1) rfl rfl),
    st_iload hC (n := 31) (dc_X12_isLess 31 (57, .iload 4, 2) rfl rfl) rfl,
    st_iconst hC (n := 32) (x := 1) (dc_X12_isLess 32 (59, .iconst 1, 1) rfl rfl) rfl (by decide),
    st_icne hC (n := 33) (dc_X12_isLess 33 (60, .if_icmp .ne 16, 3) rfl rfl) rfl (by decide),
    st_iload hC (n := 34) (dc_X12_isLess 34 (63, .iload 6, 2) rfl rfl) rfl,
    st_ifge hC (n := 35) (dc_X12_isLess 35 (65, .ifCond .ge 7, 3) rfl rfl) rfl (by decide),
    st_iconst hC (n := 36) (x := 1) (dc_X12_isLess 36 (68, .iconst 1, 1) rfl rfl) rfl (by decide),
    st_goto hC (n := 37) (dc_X12_isLess 37 (69, .goto 33, 3) rfl rfl) (by decide),
    st_iconst hC (n := 38) (x := 0) (dc_X12_isLess 38 (72, .iconst 0, 1) rfl rfl) rfl (by decide),
    st_goto hC (n := 39) (dc_X12_isLess 39 (73, .goto 29, 3) rfl rfl) (by decide),
    st_aload_n hC (n := 40) (k := 0) (dc_X12_isLess 40 (76, .aload_n 0, 1) rfl rfl) rfl rfl,
    st_iload_n hC (n := 41) (k := 1) (dc_X12_isLess 41 (77, .iload_n 1, 1) rfl rfl) rfl rfl,
    st_iload_n hC (n := 42) (k := 2) (dc_X12_isLess 42 (78, .iload_n 2, 1) rfl rfl) rfl rfl,
    st_callS hC (n := 43) (na := 1) (con_X12_bits l) (dc_X12_isLess 43 (79, .invokestatic 331, 3) rfl rfl) rfl wd_1957 wd_160 (by decide) ⟨rfl, rfl, by decide, by decide⟩ hM wd_1955 wd_1956,
    st_callV hC (n := 44) (k := 12) (na := 2) (con_X12_weeksFor l) (dc_X12_isLess 44 (82, .invokevirtual 379, 3) rfl rfl) rfl wd_2138 wd_160 (by decide) ⟨rfl, rfl, by decide, by decide⟩ hM wd_2135 wd_2137 wd_120 clf_12,
    st_aload_n hC (n := 45) (k := 0) (dc_X12_isLess 45 (85, .aload_n 0, 1) rfl rfl) rfl rfl,
    st_iload_n hC (n := 46) (k := 1) (dc_X12_isLess 46 (86, .iload_n 1, 1) rfl rfl) rfl rfl,
    st_iload_n hC (n := 47) (k := 3) (dc_X12_isLess 47 (87, .iload_n 3, 1) rfl rfl) rfl rfl,
    st_callS hC (n := 48) (na := 1) (con_X12_bits l) (dc_X12_isLess 48 (88, .invokestatic 331, 3) rfl rfl) rfl wd_1957 wd_160 (by decide) ⟨rfl, rfl, by decide, by decide⟩ hM wd_1955 wd_1956,
    st_callV hC (n := 49) (k := 12) (na := 2) (con_X12_weeksFor l) (dc_X12_isLess 49 (91, .invokevirtual 379, 3) rfl rfl) rfl wd_2138 wd_160 (by decide) ⟨rfl, rfl, by decide, by decide⟩ hM wd_2135 wd_2137 wd_120 clf_12,
    st_icge hC (n := 50) (dc_X12_isLess 50 (94, .if_icmp .ge 7, 3) rfl rfl) rfl (by decide),
    st_iconst hC (n := 51) (x := 1) (dc_X12_isLess 51 (97, .iconst 1, 1) rfl rfl) rfl (by decide),
    st_goto hC (n := 52) (dc_X12_isLess 52 (98, .goto 4, 3) rfl rfl) (by decide),
    st_iconst hC (n := 53) (x := 0) (dc_X12_isLess 53 (101, .iconst 0, 1) rfl rfl) rfl (by decide),
    st_zret hC (n := 54) hR (dc_X12_isLess 54 (102, .ireturn, 1) rfl rfl), trivial⟩
set_option maxRecDepth 8000 in
theorem vc_X12_isLess : VC P_X12_isLess 7 Pre_X12_isLess Fn_X12_isLess := by
  rintro mm as hom hoa ⟨⟨ns, nm, nt, hV⟩, i, x, o, q, hi, hx, ho, rfl⟩
  refine ⟨Nat.le_of_ble_eq_true rfl, fun X h => ?_⟩
  have hM : VM mm := ⟨ns, nm, nt, hV⟩
  have ei : (nI i).toNatClampNeg = i := nI_clamp (by omega)
  have ex : (nI x).toNatClampNeg = x := nI_clamp (by omega)
  have eF : Fn_X12_isLess mm [vR 12 0, vI (nI i), vI (nI x), vI o, vI q] = (some (vI (bI (lsB (mm.1 54 0) i x o q))), mm) := by
    show (some (vI (bI (lsB (mm.1 54 0) (nI i).toNatClampNeg (nI x).toNatClampNeg o q))), mm) = _
    rw [ei, ex]
  rw [eF] at h
  rcases ho with e | ⟨y, hy, rfl⟩
  ·
    show X 0 [some (vR 12 0), some (vI (nI i)), some (vI (nI x)), some (vI o), some (vI q), none, none] [] mm
    refine h (fun _ => false) 3000 0 _ _ _ ?_
    refine brn_f (e) ?_
    refine And.intro (Or.inr rfl) ?_
    show ((some (vI 1) : Option MV), mm) = _
    exact ret_t (Or.inl e)
  · have n1 : ¬ nI y = -1 := fun z => (gu_m1 (by omega)).mp z
    have ey : (nI y).toNatClampNeg = y := nI_clamp (by omega)
    show X 0 [some (vR 12 0), some (vI (nI i)), some (vI (nI x)), some (vI (nI y)), some (vI q), none, none] [] mm
    refine h (fun _ => false) 3000 0 _ _ _ ?_
    refine brn_t (n1) ?_
    refine And.intro ⟨hM, _, rfl⟩ ?_
    refine And.intro ⟨hM, _, rfl⟩ ?_
    refine And.intro ⟨x, by omega, rfl⟩ ?_
    refine And.intro ⟨y, by omega, rfl⟩ ?_
    refine brn_c (fun b20 => ?_) (fun b20 => ?_)
    · -- 20: q = 0 taken
      replace b20 : ¬ (q = 0) := b20
      refine brn_c (fun b33 => ?_) (fun b33 => ?_)
      · -- 33: q = 1 taken
        replace b33 : ¬ (q = 1) := b33
        refine And.intro ⟨x, by omega, rfl⟩ ?_
        refine And.intro ⟨hM, i, _, by omega, rfl⟩ ?_
        refine And.intro ⟨y, by omega, rfl⟩ ?_
        refine And.intro ⟨hM, i, _, by omega, rfl⟩ ?_
        refine br_c (fun b50 => ?_) (fun b50 => ?_)
        · -- 50: vwA (mm.1 54 0) (nI i).toNatClampNeg (nI (pcN (nI y).toNatClampNeg)) ≤ vwA (mm.1 54 0) (nI i).toNatClampNeg (nI (pcN (nI x).toNatClampNeg)) taken
          replace b50 : vwA (mm.1 54 0) (nI i).toNatClampNeg (nI (pcN (nI y).toNatClampNeg)) ≤ vwA (mm.1 54 0) (nI i).toNatClampNeg (nI (pcN (nI x).toNatClampNeg)) := b50
          rw [ex] at b50
          rw [ey] at b50
          rw [ei] at b50
          refine And.intro (Or.inl rfl) ?_
          show ((some (vI 0) : Option MV), mm) = _
          first | exact ret_t (by unfold lsB; rw [ey]; grind) | exact ret_f (by unfold lsB; rw [ey]; grind)
        · -- 50: vwA (mm.1 54 0) (nI i).toNatClampNeg (nI (pcN (nI y).toNatClampNeg)) ≤ vwA (mm.1 54 0) (nI i).toNatClampNeg (nI (pcN (nI x).toNatClampNeg)) on
          replace b50 : ¬ (vwA (mm.1 54 0) (nI i).toNatClampNeg (nI (pcN (nI y).toNatClampNeg)) ≤ vwA (mm.1 54 0) (nI i).toNatClampNeg (nI (pcN (nI x).toNatClampNeg))) := b50
          rw [ex] at b50
          rw [ey] at b50
          rw [ei] at b50
          refine And.intro (Or.inr rfl) ?_
          show ((some (vI 1) : Option MV), mm) = _
          first | exact ret_t (by unfold lsB; rw [ey]; grind) | exact ret_f (by unfold lsB; rw [ey]; grind)
      · -- 33: q = 1 on
        replace b33 : q = 1 := b33
        refine br_c (fun b35 => ?_) (fun b35 => ?_)
        · -- 35: 0 ≤ (nI (pcN (nI x).toNatClampNeg)) - (nI (pcN (nI y).toNatClampNeg)) taken
          replace b35 : 0 ≤ (nI (pcN (nI x).toNatClampNeg)) - (nI (pcN (nI y).toNatClampNeg)) := b35
          rw [ex] at b35
          rw [ey] at b35
          refine And.intro (Or.inl rfl) ?_
          show ((some (vI 0) : Option MV), mm) = _
          first | exact ret_t (by unfold lsB; rw [ey]; grind) | exact ret_f (by unfold lsB; rw [ey]; grind)
        · -- 35: 0 ≤ (nI (pcN (nI x).toNatClampNeg)) - (nI (pcN (nI y).toNatClampNeg)) on
          replace b35 : ¬ (0 ≤ (nI (pcN (nI x).toNatClampNeg)) - (nI (pcN (nI y).toNatClampNeg))) := b35
          rw [ex] at b35
          rw [ey] at b35
          refine And.intro (Or.inr rfl) ?_
          show ((some (vI 1) : Option MV), mm) = _
          first | exact ret_t (by unfold lsB; rw [ey]; grind) | exact ret_f (by unfold lsB; rw [ey]; grind)
    · -- 20: q = 0 on
      replace b20 : q = 0 := b20
      refine br_c (fun b22 => ?_) (fun b22 => ?_)
      · -- 22: (wtA (mm.1 54 0) (nI x)) - (wtA (mm.1 54 0) (nI y)) < 0 taken
        replace b22 : (wtA (mm.1 54 0) (nI x)) - (wtA (mm.1 54 0) (nI y)) < 0 := b22
        refine And.intro (Or.inr rfl) ?_
        show ((some (vI 1) : Option MV), mm) = _
        first | exact ret_t (by unfold lsB; rw [ey]; grind) | exact ret_f (by unfold lsB; rw [ey]; grind)
      · -- 22: (wtA (mm.1 54 0) (nI x)) - (wtA (mm.1 54 0) (nI y)) < 0 on
        replace b22 : ¬ ((wtA (mm.1 54 0) (nI x)) - (wtA (mm.1 54 0) (nI y)) < 0) := b22
        refine brn_c (fun b24 => ?_) (fun b24 => ?_)
        · -- 24: (wtA (mm.1 54 0) (nI x)) - (wtA (mm.1 54 0) (nI y)) = 0 taken
          replace b24 : ¬ ((wtA (mm.1 54 0) (nI x)) - (wtA (mm.1 54 0) (nI y)) = 0) := b24
          refine And.intro (Or.inl rfl) ?_
          show ((some (vI 0) : Option MV), mm) = _
          first | exact ret_t (by unfold lsB; rw [ey]; grind) | exact ret_f (by unfold lsB; rw [ey]; grind)
        · -- 24: (wtA (mm.1 54 0) (nI x)) - (wtA (mm.1 54 0) (nI y)) = 0 on
          replace b24 : (wtA (mm.1 54 0) (nI x)) - (wtA (mm.1 54 0) (nI y)) = 0 := b24
          refine br_c (fun b26 => ?_) (fun b26 => ?_)
          · -- 26: 0 ≤ (nI (pcN (nI x).toNatClampNeg)) - (nI (pcN (nI y).toNatClampNeg)) taken
            replace b26 : 0 ≤ (nI (pcN (nI x).toNatClampNeg)) - (nI (pcN (nI y).toNatClampNeg)) := b26
            rw [ex] at b26
            rw [ey] at b26
            refine And.intro (Or.inl rfl) ?_
            show ((some (vI 0) : Option MV), mm) = _
            first | exact ret_t (by unfold lsB; rw [ey]; grind) | exact ret_f (by unfold lsB; rw [ey]; grind)
          · -- 26: 0 ≤ (nI (pcN (nI x).toNatClampNeg)) - (nI (pcN (nI y).toNatClampNeg)) on
            replace b26 : ¬ (0 ≤ (nI (pcN (nI x).toNatClampNeg)) - (nI (pcN (nI y).toNatClampNeg))) := b26
            rw [ex] at b26
            rw [ey] at b26
            refine And.intro (Or.inr rfl) ?_
            show ((some (vI 1) : Option MV), mm) = _
            first | exact ret_t (by unfold lsB; rw [ey]; grind) | exact ret_f (by unfold lsB; rw [ey]; grind)
theorem con_X12_isLess (l : Launch) : CON l y_X12_isLess prog_14_method_114_code 7 (some .boolean) rm_X12_isLess Pre_X12_isLess Fn_X12_isLess := CON_of (by decide) rfl rfl (sa_X12_isLess l) vc_X12_isLess
abbrev vwX (a : Nat → Int32) (i X : Nat) : Int32 := vwA a i (nI (pcN X))
/-- a set that can be given, by which she says yes in time -/
abbrev okX (a : Nat → Int32) (nt H i d : Nat) (w : Int32) (X : Nat) : Prop := ndn X H = 0 ∧ Cn a nt X ∧ vwX a i X ≤ w ∧ a 6 + vwX a i X ≤ 999 ∧ ¬ hdA a (nI i) d + syA a (nI X) d < brA a d (a 6 + vwX a i X)
noncomputable def plF (a : Nat → Int32) (nt H i d : Nat) (w q : Int32) : Nat → Int32
  | 0 => -1
  | k + 1 => cI (okX a nt H i d w k ∧ lsB a i k (plF a nt H i d w q k) q) (nI k) (plF a nt H i d w q k)
theorem plF_in (a : Nat → Int32) (nt H i d : Nat) (w q : Int32) : ∀ k, k ≤ 4096 → plF a nt H i d w q k = -1 ∨ ∃ X, X < 4096 ∧ plF a nt H i d w q k = nI X
  | 0, _ => Or.inl rfl
  | k + 1, h => by
    by_cases hc : okX a nt H i d w k ∧ lsB a i k (plF a nt H i d w q k) q
    · exact Or.inr ⟨k, by omega, cI_t hc⟩
    · have : plF a nt H i d w q (k + 1) = plF a nt H i d w q k := cI_f hc
      rw [this]
      exact plF_in a nt H i d w q k (by omega)
abbrev hsN (a : Nat → Int32) (i : Nat) : Nat := (hsA a (nI i)).toNatClampNeg
noncomputable def plA (a : Nat → Int32) (i d : Nat) (w q : Int32) : Int32 := plF a (a 2).toNatClampNeg (hsN a i) i d w q (hsN a i + 1)
theorem plA_in {a : Nat → Int32} (hH : HSo a) (i d : Nat) (w q : Int32) : plA a i d w q = -1 ∨ ∃ X, X < 4096 ∧ plA a i d w q = nI X := by
  obtain ⟨H, hH2, eH⟩ := hH (nI i)
  refine plF_in _ _ _ _ _ _ _ _ ?_
  show (hsA a (nI i)).toNatClampNeg + 1 ≤ 4096
  rw [eH, nI_clamp (by omega)]
  omega

--tpl ⟨hM, hH, {1N}, {2N}, _, _, by omega, by omega, rfl⟩ || plA {A} {1n} {2n} {3} {4} || laM {m} {1}
def Pre_X12_planOf : PreT := fun m as => VM m ∧ HSo (m.1 54 0) ∧ ∃ (i d : Nat) (w q : Int32), i < 4 ∧ d < 4 ∧ as = [vR 12 0, vI (nI i), vI (nI d), vI w, vI q]
noncomputable def Fn_X12_planOf : FnT := fun m as => match as with
  | [_, Sum.inl i, Sum.inl d, Sum.inl w, Sum.inl q] => (some (vI (plA (m.1 54 0) i.toNatClampNeg d.toNatClampNeg w q)), laM m i)
  | _ => (none, m)
abbrev y_X12_planOf : MethodName := ⟨"GivenUpModel", "planOf", "(IIII)I"⟩
def P_X12_planOf : List StpT := [s_aload 0, s_iload 1, s_callV 12 1 Pre_X12_laysCan Fn_X12_laysCan, s_istore 5, s_ic (-1), s_istore 6, s_ic (0), s_istore 7, s_iload 7, s_iload 5, s_icgt 71, s_iload 7, s_iload 5, s_ic (-1), s_ixor, s_iand, s_ifne 69, s_aload 0, s_getR 12 24 62, s_iload 7, s_iald, s_ifne 23, s_goto 69, s_aload 0, s_iload 1, s_iload 7, s_callS 1 Pre_X12_bits Fn_X12_bits, s_callV 12 2 Pre_X12_weeksFor Fn_X12_weeksFor, s_istore 8, s_iload 8, s_iload 3, s_icgt 69, s_aload 0, s_getR 12 0 54, s_ic (6), s_iald, s_iload 8, s_iadd, s_ic (999), s_icgt 69, s_aload 0, s_iload 1, s_iload 2, s_callV 12 2 Pre_X12_heardOf Fn_X12_heardOf, s_aload 0, s_iload 7, s_iload 2, s_callV 12 2 Pre_X12_saidBy Fn_X12_saidBy, s_iadd, s_aload 0, s_iload 2, s_aload 0, s_getR 12 0 54, s_ic (6), s_iald, s_iload 8, s_iadd, s_callV 12 2 Pre_X12_barIn Fn_X12_barIn, s_icge 60, s_goto 69, s_aload 0, s_iload 1, s_iload 7, s_iload 6, s_iload 4, s_callV 12 4 Pre_X12_isLess Fn_X12_isLess, s_ifeq 69, s_iload 7, s_istore 6, s_iinc 7 (1), s_goto 8, s_iload 6, s_iret]
def pc_X12_planOf : Nat → Nat := fun i => [0, 1, 2, 5, 7, 8, 10, 11, 13, 15, 17, 20, 22, 24, 25, 26, 27, 30, 31, 34, 36, 37, 40, 43, 44, 45, 47, 50, 53, 55, 57, 58, 61, 62, 65, 67, 68, 70, 71, 74, 77, 78, 79, 80, 83, 84, 86, 87, 90, 91, 92, 93, 94, 97, 99, 100, 102, 103, 106, 109, 112, 113, 114, 116, 118, 120, 123, 126, 128, 130, 133, 136, 138].getD i 0
def dl_X12_planOf : List (Nat × Instr × Nat) := [(0, .aload_n 0, 1), (1, .iload_n 1, 1), (2, .invokevirtual 382, 3), (5, .istore 5, 2), (7, .iconst (-1), 1), (8, .istore 6, 2), (10, .iconst 0, 1), (11, .istore 7, 2), (13, .iload 7, 2), (15, .iload 5, 2), (17, .if_icmp .gt 119, 3), (20, .iload 7, 2), (22, .iload 5, 2), (24, .iconst (-1), 1), (25, .ixor, 1), (26, .iand, 1), (27, .ifCond .ne 103, 3), (30, .aload_n 0, 1), (31, .getfield 47, 3), (34, .iload 7, 2), (36, .iaload, 1), (37, .ifCond .ne 6, 3), (40, .goto 90, 3), (43, .aload_n 0, 1), (44, .iload_n 1, 1), (45, .iload 7, 2), (47, .invokestatic 331, 3), (50, .invokevirtual 379, 3), (53, .istore 8, 2), (55, .iload 8, 2), (57, .iload_n 3, 1), (58, .if_icmp .gt 72, 3), (61, .aload_n 0, 1), (62, .getfield 7, 3), (65, .bipush 6, 2), (67, .iaload, 1), (68, .iload 8, 2), (70, .iadd, 1), (71, .sipush 999, 3), (74, .if_icmp .gt 56, 3), (77, .aload_n 0, 1), (78, .iload_n 1, 1), (79, .iload_n 2, 1), (80, .invokevirtual 298, 3), (83, .aload_n 0, 1), (84, .iload 7, 2), (86, .iload_n 2, 1), (87, .invokevirtual 283, 3), (90, .iadd, 1), (91, .aload_n 0, 1), (92, .iload_n 2, 1), (93, .aload_n 0, 1), (94, .getfield 7, 3), (97, .bipush 6, 2), (99, .iaload, 1), (100, .iload 8, 2), (102, .iadd, 1), (103, .invokevirtual 301, 3), (106, .if_icmp .ge 6, 3), (109, .goto 21, 3), (112, .aload_n 0, 1), (113, .iload_n 1, 1), (114, .iload 7, 2), (116, .iload 6, 2), (118, .iload 4, 2), (120, .invokevirtual 385, 3), (123, .ifCond .eq 7, 3), (126, .iload 7, 2), (128, .istore 6, 2), (130, .iinc 7 1, 3), (133, .goto (-120), 3), (136, .iload 6, 2), (138, .ireturn, 1)]
theorem dc_X12_planOf : DEC prog_14_method_115_code pc_X12_planOf dl_X12_planOf := DEC_of (by decide +kernel)
abbrev rm_X12_planOf : Room := { frames := 4, cells := 0, slots := 0, locals := 88 }
set_option maxRecDepth 20000 in
theorem sa_X12_planOf (l : Launch) : SNDALL l prog_14_method_115_code "GivenUpModel" 9 (some .int) rm_X12_planOf P_X12_planOf pc_X12_planOf := fun p e s m args below meth c cells slots Q D dA ad A RR hC hR => by
  have hM := RTX_room (R := rm_X12_planOf) hR
  exact ⟨st_aload_n hC (n := 0) (k := 0) (dc_X12_planOf 0 (0, .aload_n 0, 1) rfl rfl) rfl rfl,
    st_iload_n hC (n := 1) (k := 1) (dc_X12_planOf 1 (1, .iload_n 1, 1) rfl rfl) rfl rfl,
    st_callV hC (n := 2) (k := 12) (na := 1) (con_X12_laysCan l) (dc_X12_planOf 2 (2, .invokevirtual 382, 3) rfl rfl) rfl wd_2134 wd_160 (by decide) ⟨rfl, rfl, by decide, by decide⟩ hM wd_2131 wd_2133 wd_119 clf_12,
    st_istore hC (n := 3) (dc_X12_planOf 3 (5, .istore 5, 2) rfl rfl) rfl (by decide),
    st_iconst hC (n := 4) (x := (-1)) (dc_X12_planOf 4 (7, .iconst (-1), 1) rfl rfl) rfl (by decide),
    st_istore hC (n := 5) (dc_X12_planOf 5 (8, .istore 6, 2) rfl rfl) rfl (by decide),
    st_iconst hC (n := 6) (x := 0) (dc_X12_planOf 6 (10, .iconst 0, 1) rfl rfl) rfl (by decide),
    st_istore hC (n := 7) (dc_X12_planOf 7 (11, .istore 7, 2) rfl rfl) rfl (by decide),
    st_iload hC (n := 8) (dc_X12_planOf 8 (13, .iload 7, 2) rfl rfl) rfl,
    st_iload hC (n := 9) (dc_X12_planOf 9 (15, .iload 5, 2) rfl rfl) rfl,
    st_icgt hC (n := 10) (dc_X12_planOf 10 (17, .if_icmp .gt 119, 3) rfl rfl) rfl (by decide),
    st_iload hC (n := 11) (dc_X12_planOf 11 (20, .iload 7, 2) rfl rfl) rfl,
    st_iload hC (n := 12) (dc_X12_planOf 12 (22, .iload 5, 2) rfl rfl) rfl,
    st_iconst hC (n := 13) (x := (-1)) (dc_X12_planOf 13 (24, .iconst (-1), 1) rfl rfl) rfl (by decide),
    st_ixor hC (n := 14) (dc_X12_planOf 14 (25, .ixor, 1) rfl rfl) rfl,
    st_iand hC (n := 15) (dc_X12_planOf 15 (26, .iand, 1) rfl rfl) rfl,
    st_ifne hC (n := 16) (dc_X12_planOf 16 (27, .ifCond .ne 103, 3) rfl rfl) rfl (by decide),
    st_aload_n hC (n := 17) (k := 0) (dc_X12_planOf 17 (30, .aload_n 0, 1) rfl rfl) rfl rfl,
    st_getR hC (n := 18) (k := 12) (j := 24) (dc_X12_planOf 18 (31, .getfield 47, 3) rfl rfl) rfl clf_12 (by decide) rfl (by decide) wd_1576,
    st_iload hC (n := 19) (dc_X12_planOf 19 (34, .iload 7, 2) rfl rfl) rfl,
    st_iald hC (n := 20) (dc_X12_planOf 20 (36, .iaload, 1) rfl rfl) rfl,
    st_ifne hC (n := 21) (dc_X12_planOf 21 (37, .ifCond .ne 6, 3) rfl rfl) rfl (by decide),
    st_goto hC (n := 22) (dc_X12_planOf 22 (40, .goto 90, 3) rfl rfl) (by decide),
    st_aload_n hC (n := 23) (k := 0) (dc_X12_planOf 23 (43, .aload_n 0, 1) rfl rfl) rfl rfl,
    st_iload_n hC (n := 24) (k := 1) (dc_X12_planOf 24 (44, .iload_n 1, 1) rfl rfl) rfl rfl,
    st_iload hC (n := 25) (dc_X12_planOf 25 (45, .iload 7, 2) rfl rfl) rfl,
    st_callS hC (n := 26) (na := 1) (con_X12_bits l) (dc_X12_planOf 26 (47, .invokestatic 331, 3) rfl rfl) rfl wd_1957 wd_160 (by decide) ⟨rfl, rfl, by decide, by decide⟩ hM wd_1955 wd_1956,
    st_callV hC (n := 27) (k := 12) (na := 2) (con_X12_weeksFor l) (dc_X12_planOf 27 (50, .invokevirtual 379, 3) rfl rfl) rfl wd_2138 wd_160 (by decide) ⟨rfl, rfl, by decide, by decide⟩ hM wd_2135 wd_2137 wd_120 clf_12,
    st_istore hC (n := 28) (dc_X12_planOf 28 (53, .istore 8, 2) rfl rfl) rfl (by decide),
    st_iload hC (n := 29) (dc_X12_planOf 29 (55, .iload 8, 2) rfl rfl) rfl,
    st_iload_n hC (n := 30) (k := 3) (dc_X12_planOf 30 (57, .iload_n 3, 1) rfl rfl) rfl rfl,
    st_icgt hC (n := 31) (dc_X12_planOf 31 (58, .if_icmp .gt 72, 3) rfl rfl) rfl (by decide),
    st_aload_n hC (n := 32) (k := 0) (dc_X12_planOf 32 (61, .aload_n 0, 1) rfl rfl) rfl rfl,
    st_getR hC (n := 33) (k := 12) (j := 0) (dc_X12_planOf 33 (62, .getfield 7, 3) rfl rfl) rfl clf_12 (by decide) rfl (by decide) wd_1552,
    st_bipush hC (n := 34) (x := 6) (dc_X12_planOf 34 (65, .bipush 6, 2) rfl rfl) rfl (by decide),
    st_iald hC (n := 35) (dc_X12_planOf 35 (67, .iaload, 1) rfl rfl) rfl,
    st_iload hC (n := 36) (dc_X12_planOf 36 (68, .iload 8, 2) rfl rfl) rfl,
    st_iadd hC (n := 37) (dc_X12_planOf 37 (70, .iadd, 1) rfl rfl) rfl,
    st_sipush hC (n := 38) (x := 999) (dc_X12_planOf 38 (71, .sipush 999, 3) rfl rfl) rfl (by decide),
    st_icgt hC (n := 39) (dc_X12_planOf 39 (74, .if_icmp .gt 56, 3) rfl rfl) rfl (by decide),
    st_aload_n hC (n := 40) (k := 0) (dc_X12_planOf 40 (77, .aload_n 0, 1) rfl rfl) rfl rfl,
    st_iload_n hC (n := 41) (k := 1) (dc_X12_planOf 41 (78, .iload_n 1, 1) rfl rfl) rfl rfl,
    st_iload_n hC (n := 42) (k := 2) (dc_X12_planOf 42 (79, .iload_n 2, 1) rfl rfl) rfl rfl,
    st_callV hC (n := 43) (k := 12) (na := 2) (con_X12_heardOf l) (dc_X12_planOf 43 (80, .invokevirtual 298, 3) rfl rfl) rfl wd_2021 wd_160 (by decide) ⟨rfl, rfl, by decide, by decide⟩ hM wd_2018 wd_2020 wd_106 clf_12,
    st_aload_n hC (n := 44) (k := 0) (dc_X12_planOf 44 (83, .aload_n 0, 1) rfl rfl) rfl rfl,
    st_iload hC (n := 45) (dc_X12_planOf 45 (84, .iload 7, 2) rfl rfl) rfl,
    st_iload_n hC (n := 46) (k := 2) (dc_X12_planOf 46 (86, .iload_n 2, 1) rfl rfl) rfl rfl,
    st_callV hC (n := 47) (k := 12) (na := 2) (con_X12_saidBy l) (dc_X12_planOf 47 (87, .invokevirtual 283, 3) rfl rfl) rfl wd_2025 wd_160 (by decide) ⟨rfl, rfl, by decide, by decide⟩ hM wd_2022 wd_2024 wd_107 clf_12,
    st_iadd hC (n := 48) (dc_X12_planOf 48 (90, .iadd, 1) rfl rfl) rfl,
    st_aload_n hC (n := 49) (k := 0) (dc_X12_planOf 49 (91, .aload_n 0, 1) rfl rfl) rfl rfl,
    st_iload_n hC (n := 50) (k := 2) (dc_X12_planOf 50 (92, .iload_n 2, 1) rfl rfl) rfl rfl,
    st_aload_n hC (n := 51) (k := 0) (dc_X12_planOf 51 (93, .aload_n 0, 1) rfl rfl) rfl rfl,
    st_getR hC (n := 52) (k := 12) (j := 0) (dc_X12_planOf 52 (94, .getfield 7, 3) rfl rfl) rfl clf_12 (by decide) rfl (by decide) wd_1552,
    st_bipush hC (n := 53) (x := 6) (dc_X12_planOf 53 (97, .bipush 6, 2) rfl rfl) rfl (by decide),
    st_iald hC (n := 54) (dc_X12_planOf 54 (99, .iaload, 1) rfl rfl) rfl,
    st_iload hC (n := 55) (dc_X12_planOf 55 (100, .iload 8, 2) rfl rfl) rfl,
    st_iadd hC (n := 56) (dc_X12_planOf 56 (102, .iadd, 1) rfl rfl) rfl,
    st_callV hC (n := 57) (k := 12) (na := 2) (con_X12_barIn l) (dc_X12_planOf 57 (103, .invokevirtual 301, 3) rfl rfl) rfl wd_1930 wd_160 (by decide) ⟨rfl, rfl, by decide, by decide⟩ hM wd_1927 wd_1929 wd_93 clf_12,
    st_icge hC (n := 58) (dc_X12_planOf 58 (106, .if_icmp .ge 6, 3) rfl rfl) rfl (by decide),
    st_goto hC (n := 59) (dc_X12_planOf 59 (109, .goto 21, 3) rfl rfl) (by decide),
    st_aload_n hC (n := 60) (k := 0) (dc_X12_planOf 60 (112, .aload_n 0, 1) rfl rfl) rfl rfl,
    st_iload_n hC (n := 61) (k := 1) (dc_X12_planOf 61 (113, .iload_n 1, 1) rfl rfl) rfl rfl,
    st_iload hC (n := 62) (dc_X12_planOf 62 (114, .iload 7, 2) rfl rfl) rfl,
    st_iload hC (n := 63) (dc_X12_planOf 63 (116, .iload 6, 2) rfl rfl) rfl,
    st_iload hC (n := 64) (dc_X12_planOf 64 (118, .iload 4, 2) rfl rfl) rfl,
    st_callV hC (n := 65) (k := 12) (na := 4) (con_X12_isLess l) (dc_X12_planOf 65 (120, .invokevirtual 385, 3) rfl rfl) rfl wd_2142 wd_160 (by decide) ⟨rfl, rfl, by decide, by decide⟩ hM wd_2139 wd_2141 wd_121 clf_12,
    st_ifeq hC (n := 66) (dc_X12_planOf 66 (123, .ifCond .eq 7, 3) rfl rfl) rfl (by decide),
    st_iload hC (n := 67) (dc_X12_planOf 67 (126, .iload 7, 2) rfl rfl) rfl,
    st_istore hC (n := 68) (dc_X12_planOf 68 (128, .istore 6, 2) rfl rfl) rfl (by decide),
    st_iinc hC (n := 69) (x := 1) (dc_X12_planOf 69 (130, .iinc 7 1, 3) rfl rfl) rfl (by decide) (by decide),
    st_goto hC (n := 70) (dc_X12_planOf 70 (133, .goto (-120), 3) rfl rfl) (by decide),
    st_iload hC (n := 71) (dc_X12_planOf 71 (136, .iload 6, 2) rfl rfl) rfl,
    st_iret hC (n := 72) hR (dc_X12_planOf 72 (138, .ireturn, 1) rfl rfl), trivial⟩
set_option maxRecDepth 8000 in
theorem vc_X12_planOf : VC P_X12_planOf 9 Pre_X12_planOf Fn_X12_planOf := by
  rintro mm as hom hoa ⟨⟨ns, nm, n, hV⟩, hH, i, d, w, q, hi, hd, rfl⟩
  refine ⟨Nat.le_of_ble_eq_true rfl, fun X h => ?_⟩
  have hM : VM mm := ⟨ns, nm, n, hV⟩
  have hn : mm.1 54 0 2 = nI n := hV.2.2.1.1
  have hn12 : n ≤ 12 := hV.2.2.1.2
  obtain ⟨H, hH2, eH⟩ := hH (nI i)
  have ei : (nI i).toNatClampNeg = i := nI_clamp (by omega)
  have ed : (nI d).toNatClampNeg = d := nI_clamp (by omega)
  have eF : Fn_X12_planOf mm [vR 12 0, vI (nI i), vI (nI d), vI w, vI q] = (some (vI (plF (mm.1 54 0) n H i d w q (H + 1))), laM mm (nI i)) := by
    show (some (vI (plA (mm.1 54 0) (nI i).toNatClampNeg (nI d).toNatClampNeg w q)), laM mm (nI i)) = _
    unfold plA hsN
    rw [ei, ed, eH, hn, nI_clamp (by omega), nI_clamp (by omega)]
  rw [eF] at h
  suffices z : X 8 [some (vR 12 0), some (vI (nI i)), some (vI (nI d)), some (vI (w)), some (vI (q)), some (vI (nI H)), some (vI (-1)), some (vI (0)), none] [] (laM mm (nI i)) by
    show X 0 [some (vR 12 0), some (vI (nI i)), some (vI (nI d)), some (vI w), some (vI q), none, none, none, none] [] mm
    refine h (fun i => Nat.beq i 8) 3000 0 _ _ _ ?_
    refine And.intro ⟨hM, hH, _, rfl⟩ ?_
    show X 8 [some (vR 12 0), some (vI (nI i)), some (vI (nI d)), some (vI w), some (vI q), some (vI (hsA (mm.1 54 0) (nI i))), some (vI (-1)), some (vI 0), none] [] (laM mm (nI i))
    rw [eH]
    exact z
  have a54 : (laM mm (nI i)).1 54 0 = mm.1 54 0 := rfl
  have a62 : (laM mm (nI i)).1 62 0 = cnR (mm.1 62 0) (mm.1 54 0) n H (H + 1) := by
    show cnR (mm.1 62 0) (mm.1 54 0) (mm.1 54 0 2).toNatClampNeg (hsA (mm.1 54 0) (nI i)).toNatClampNeg ((hsA (mm.1 54 0) (nI i)).toNatClampNeg + 1) = _
    rw [eH, hn, nI_clamp (by omega), nI_clamp (by omega)]
  have hVM : VM (laM mm (nI i)) := hM
  rw [← a54] at h a62
  clear eF hH hoa hom
  generalize laM mm (nI i) = M at *
  have loop : ∀ k, k ≤ H + 1 → ∀ L8, X 8 [some (vR 12 0), some (vI (nI i)), some (vI (nI d)), some (vI (w)), some (vI (q)), some (vI (nI H)), some (vI (plF (M.1 54 0) n H i d w q k)), some (vI (nI k)), L8] [] (M) := by
    refine up_ind (H + 1) ?_ (fun k hk ih => ?_)
    · intro L8
      show X 8 [some (vR 12 0), some (vI (nI i)), some (vI (nI d)), some (vI w), some (vI q), some (vI (nI H)), some (vI (plF (M.1 54 0) n H i d w q (H + 1))), some (vI (nI (H + 1))), L8] [] M
      refine h (fun _ => false) 3000 8 _ _ _ ?_
      refine br_t ((nI_ltI (by omega) (by omega)).mpr (by omega)) ?_
      show ((some (vI (plF (M.1 54 0) n H i d w q (H + 1))) : Option MV), M) = _
      exact rfl
    · intro L8
      have ek : (nI k).toNatClampNeg = k := nI_clamp (by omega)
      have eN : nI k &&& (nI H ^^^ (-1)) = nI (ndn k H) := nI_ndn k H
      have eZ : nI k &&& (nI H ^^^ (-1)) = 0 ↔ ndn k H = 0 := by rw [eN]; exact nI_z (Nat.lt_of_le_of_lt (ndn_le _ _) (by omega))
      have c1 := cnR_at (o := mm.1 62 0) (a := M.1 54 0) (nt := n) (H := H) (k := H + 1) (X := k) (by omega)
      rw [← a62] at c1
      have noo : ¬ (okX (M.1 54 0) n H i d w k ∧ lsB (M.1 54 0) i k (plF (M.1 54 0) n H i d w q k) q) → ∀ L8, X 69 [some (vR 12 0), some (vI (nI i)), some (vI (nI d)), some (vI (w)), some (vI (q)), some (vI (nI H)), some (vI (plF (M.1 54 0) n H i d w q k)), some (vI (nI k)), L8] [] (M) := by
        intro hc L8
        have := ih L8
        rw [plF, cI_f hc] at this
        show X 69 [some (vR 12 0), some (vI (nI i)), some (vI (nI d)), some (vI w), some (vI q), some (vI (nI H)), some (vI (plF (M.1 54 0) n H i d w q k)), some (vI (nI k)), L8] [] M
        refine h (fun i => Nat.beq i 8) 3000 69 _ _ _ ?_
        show X 8 [some (vR 12 0), some (vI (nI i)), some (vI (nI d)), some (vI w), some (vI q), some (vI (nI H)), some (vI (plF (M.1 54 0) n H i d w q k)), some (vI ((nI k) + 1)), L8] [] M
        rw [nI_1]
        exact this
      have yes : (okX (M.1 54 0) n H i d w k ∧ lsB (M.1 54 0) i k (plF (M.1 54 0) n H i d w q k) q) → ∀ L8, X 67 [some (vR 12 0), some (vI (nI i)), some (vI (nI d)), some (vI (w)), some (vI (q)), some (vI (nI H)), some (vI (plF (M.1 54 0) n H i d w q k)), some (vI (nI k)), L8] [] (M) := by
        intro hc L8
        have := ih L8
        rw [plF, cI_t hc] at this
        show X 67 [some (vR 12 0), some (vI (nI i)), some (vI (nI d)), some (vI w), some (vI q), some (vI (nI H)), some (vI (plF (M.1 54 0) n H i d w q k)), some (vI (nI k)), L8] [] M
        refine h (fun i => Nat.beq i 8) 3000 67 _ _ _ ?_
        show X 8 [some (vR 12 0), some (vI (nI i)), some (vI (nI d)), some (vI w), some (vI q), some (vI (nI H)), some (vI (nI k)), some (vI ((nI k) + 1)), L8] [] M
        rw [nI_1]
        exact this
      show X 8 [some (vR 12 0), some (vI (nI i)), some (vI (nI d)), some (vI w), some (vI q), some (vI (nI H)), some (vI (plF (M.1 54 0) n H i d w q k)), some (vI (nI k)), L8] [] M
      refine h (fun i => Nat.beq i 67 || Nat.beq i 69) 3000 8 _ _ _ ?_
      refine br_f (fun z => by rw [nI_ltI (by omega) (by omega)] at z; omega) ?_
      refine brn_c (fun b16 => ?_) (fun b16 => ?_)
      · -- 16: (nI k) &&& ((nI H) ^^^ (-1)) = 0 taken
        replace b16 : ¬ ((nI k) &&& ((nI H) ^^^ (-1)) = 0) := b16
        rw [eZ] at b16
        show X 69 [some (vR 12 0), some (vI (nI i)), some (vI (nI d)), some (vI w), some (vI q), some (vI (nI H)), some (vI (plF (M.1 54 0) n H i d w q k)), some (vI (nI k)), L8] [] M
        exact noo (fun z => b16 z.1.1) _
      · -- 16: (nI k) &&& ((nI H) ^^^ (-1)) = 0 on
        replace b16 : (nI k) &&& ((nI H) ^^^ (-1)) = 0 := b16
        rw [eZ] at b16
        refine And.intro (inb_o 4096 rfl rfl rfl (by omega)) ?_
        refine brn_c (fun b21 => ?_) (fun b21 => ?_)
        · -- 21: M.1 62 0 (nI k).toNatClampNeg = 0 taken
          replace b21 : ¬ (M.1 62 0 (nI k).toNatClampNeg = 0) := b21
          rw [ek] at b21
          replace b21 := Classical.byContradiction (fun z => b21 (c1.2.mpr z))
          refine And.intro ⟨k, by omega, rfl⟩ ?_
          refine And.intro ⟨hVM, i, _, by omega, rfl⟩ ?_
          refine br_c (fun b31 => ?_) (fun b31 => ?_)
          · -- 31: w < vwA (M.1 54 0) (nI i).toNatClampNeg (nI (pcN (nI k).toNatClampNeg)) taken
            replace b31 : w < vwA (M.1 54 0) (nI i).toNatClampNeg (nI (pcN (nI k).toNatClampNeg)) := b31
            rw [ek] at b31
            rw [ei] at b31
            show X 69 [some (vR 12 0), some (vI (nI i)), some (vI (nI d)), some (vI w), some (vI q), some (vI (nI H)), some (vI (plF (M.1 54 0) n H i d w q k)), some (vI (nI k)), some (vI (vwA (M.1 54 0) (nI i).toNatClampNeg (nI (pcN (nI k).toNatClampNeg))))] [] M
            rw [ek]
            rw [ei]
            exact noo (fun z => Int32.not_le.mpr b31 z.1.2.2.1) _
          · -- 31: w < vwA (M.1 54 0) (nI i).toNatClampNeg (nI (pcN (nI k).toNatClampNeg)) on
            replace b31 : ¬ (w < vwA (M.1 54 0) (nI i).toNatClampNeg (nI (pcN (nI k).toNatClampNeg))) := b31
            rw [ek] at b31
            rw [ei] at b31
            refine And.intro rfl ?_
            refine br_c (fun b39 => ?_) (fun b39 => ?_)
            · -- 39: 999 < (M.1 54 0 6) + (vwA (M.1 54 0) (nI i).toNatClampNeg (nI (pcN (nI k).toNatClampNeg))) taken
              replace b39 : 999 < (M.1 54 0 6) + (vwA (M.1 54 0) (nI i).toNatClampNeg (nI (pcN (nI k).toNatClampNeg))) := b39
              rw [ek] at b39
              rw [ei] at b39
              show X 69 [some (vR 12 0), some (vI (nI i)), some (vI (nI d)), some (vI w), some (vI q), some (vI (nI H)), some (vI (plF (M.1 54 0) n H i d w q k)), some (vI (nI k)), some (vI (vwA (M.1 54 0) (nI i).toNatClampNeg (nI (pcN (nI k).toNatClampNeg))))] [] M
              rw [ek]
              rw [ei]
              exact noo (fun z => Int32.not_le.mpr b39 z.1.2.2.2.1) _
            · -- 39: 999 < (M.1 54 0 6) + (vwA (M.1 54 0) (nI i).toNatClampNeg (nI (pcN (nI k).toNatClampNeg))) on
              replace b39 : ¬ (999 < (M.1 54 0 6) + (vwA (M.1 54 0) (nI i).toNatClampNeg (nI (pcN (nI k).toNatClampNeg)))) := b39
              rw [ek] at b39
              rw [ei] at b39
              refine And.intro ⟨hVM, _, d, by omega, rfl⟩ ?_
              refine And.intro ⟨hVM, _, d, by omega, rfl⟩ ?_
              refine And.intro rfl ?_
              refine And.intro ⟨d, _, by omega, rfl⟩ ?_
              refine br_c (fun b58 => ?_) (fun b58 => ?_)
              · -- 58: brA (M.1 54 0) (nI d).toNatClampNeg ((M.1 54 0 6) + (vwA (M.1 54 0) (nI i).toNatClampNeg (nI (pcN (nI k).toNatClampNeg)))) ≤ (hdA (M.1 54 0) (nI i) (nI d).toNatClampNeg) + (syA (M.1 54 0) (nI k) (nI d).toNatClampNeg) taken
                replace b58 : brA (M.1 54 0) (nI d).toNatClampNeg ((M.1 54 0 6) + (vwA (M.1 54 0) (nI i).toNatClampNeg (nI (pcN (nI k).toNatClampNeg)))) ≤ (hdA (M.1 54 0) (nI i) (nI d).toNatClampNeg) + (syA (M.1 54 0) (nI k) (nI d).toNatClampNeg) := b58
                rw [ek] at b58
                rw [ei] at b58
                rw [ed] at b58
                refine And.intro ⟨hVM, i, k, _, _, by omega, by omega, plF_in _ _ _ _ _ _ _ _ (by omega), rfl⟩ ?_
                refine br_c (fun b66 => ?_) (fun b66 => ?_)
                · -- 66: bI (lsB (M.1 54 0) (nI i).toNatClampNeg (nI k).toNatClampNeg (plF (M.1 54 0) n H i d w q k) q) = 0 taken
                  replace b66 : ¬ (lsB (M.1 54 0) (nI i).toNatClampNeg (nI k).toNatClampNeg (plF (M.1 54 0) n H i d w q k) q) := bI_0.mp b66
                  rw [ek] at b66
                  rw [ei] at b66
                  show X 69 [some (vR 12 0), some (vI (nI i)), some (vI (nI d)), some (vI w), some (vI q), some (vI (nI H)), some (vI (plF (M.1 54 0) n H i d w q k)), some (vI (nI k)), some (vI (vwA (M.1 54 0) (nI i).toNatClampNeg (nI (pcN (nI k).toNatClampNeg))))] [] M
                  rw [ek]
                  rw [ei]
                  exact noo (fun z => b66 z.2) _
                · -- 66: bI (lsB (M.1 54 0) (nI i).toNatClampNeg (nI k).toNatClampNeg (plF (M.1 54 0) n H i d w q k) q) = 0 on
                  replace b66 : lsB (M.1 54 0) (nI i).toNatClampNeg (nI k).toNatClampNeg (plF (M.1 54 0) n H i d w q k) q := bI_n0.mp b66
                  rw [ek] at b66
                  rw [ei] at b66
                  show X 67 [some (vR 12 0), some (vI (nI i)), some (vI (nI d)), some (vI w), some (vI q), some (vI (nI H)), some (vI (plF (M.1 54 0) n H i d w q k)), some (vI (nI k)), some (vI (vwA (M.1 54 0) (nI i).toNatClampNeg (nI (pcN (nI k).toNatClampNeg))))] [] M
                  rw [ek]
                  rw [ei]
                  exact yes ⟨⟨b16, b21.2, Int32.not_lt.mp b31, Int32.not_lt.mp b39, Int32.not_lt.mpr b58⟩, b66⟩ _
              · -- 58: brA (M.1 54 0) (nI d).toNatClampNeg ((M.1 54 0 6) + (vwA (M.1 54 0) (nI i).toNatClampNeg (nI (pcN (nI k).toNatClampNeg)))) ≤ (hdA (M.1 54 0) (nI i) (nI d).toNatClampNeg) + (syA (M.1 54 0) (nI k) (nI d).toNatClampNeg) on
                replace b58 : ¬ (brA (M.1 54 0) (nI d).toNatClampNeg ((M.1 54 0 6) + (vwA (M.1 54 0) (nI i).toNatClampNeg (nI (pcN (nI k).toNatClampNeg)))) ≤ (hdA (M.1 54 0) (nI i) (nI d).toNatClampNeg) + (syA (M.1 54 0) (nI k) (nI d).toNatClampNeg)) := b58
                rw [ek] at b58
                rw [ei] at b58
                rw [ed] at b58
                show X 69 [some (vR 12 0), some (vI (nI i)), some (vI (nI d)), some (vI w), some (vI q), some (vI (nI H)), some (vI (plF (M.1 54 0) n H i d w q k)), some (vI (nI k)), some (vI (vwA (M.1 54 0) (nI i).toNatClampNeg (nI (pcN (nI k).toNatClampNeg))))] [] M
                rw [ek]
                rw [ei]
                exact noo (fun z => z.1.2.2.2.2 (Int32.not_le.mp b58)) _
        · -- 21: M.1 62 0 (nI k).toNatClampNeg = 0 on
          replace b21 : M.1 62 0 (nI k).toNatClampNeg = 0 := b21
          rw [ek] at b21
          replace b21 := c1.2.mp b21
          show X 69 [some (vR 12 0), some (vI (nI i)), some (vI (nI d)), some (vI w), some (vI q), some (vI (nI H)), some (vI (plF (M.1 54 0) n H i d w q k)), some (vI (nI k)), L8] [] M
          exact noo (fun z => b21 ⟨z.1.1, z.1.2.1⟩) _
  exact loop 0 (by omega) none
theorem con_X12_planOf (l : Launch) : CON l y_X12_planOf prog_14_method_115_code 9 (some .int) rm_X12_planOf Pre_X12_planOf Fn_X12_planOf := CON_of (by decide) rfl rfl (sa_X12_planOf l) vc_X12_planOf
def wpF (a : Nat → Int32) (x y w : Int32) : Int32 := if ¬ ((suP a x ∧ maP a y) ∧ (¬ w < 0 ∧ ¬ 99 < w)) then 1 else if ¬ a (15 + 4 * x.toNatClampNeg) = -1 ∨ ¬ a (31 + 4 * y.toNatClampNeg) = -1 then 7 else 0
theorem wpF_pos {a : Nat → Int32} {x y w : Int32} (h : wpF a x y w ≤ 0) : suP a x ∧ maP a y := by
  unfold wpF at h
  split at h
  · exact absurd h (by decide)
  · rename_i hc
    exact (Decidable.not_not.mp hc).1

--tpl ⟨hM, _, _, _, rfl⟩ || wpF {A} {1} {2} {3}
def Pre_X12_wrongPlan : PreT := fun m as => VM m ∧ ∃ (x y w : Int32), as = [vR 12 0, vI x, vI y, vI w]
def Fn_X12_wrongPlan : FnT := fun m as => match as with
  | [_, Sum.inl x, Sum.inl y, Sum.inl w] => (some (vI (wpF (m.1 54 0) x y w)), m)
  | _ => (none, m)
abbrev y_X12_wrongPlan : MethodName := ⟨"GivenUpModel", "wrongPlan", "(III)I"⟩
def P_X12_wrongPlan : List StpT := [s_aload 0, s_iload 1, s_iload 2, s_callV 12 2 Pre_X12_areBoth Fn_X12_areBoth, s_ifeq 8, s_iload 3, s_callS 1 Pre_X12_isAhead Fn_X12_isAhead, s_ifne 10, s_ic (1), s_goto 21, s_aload 0, s_iload 1, s_callV 12 1 Pre_X12_hasWed Fn_X12_hasWed, s_ifne 18, s_aload 0, s_iload 2, s_callV 12 1 Pre_X12_isWed Fn_X12_isWed, s_ifeq 20, s_ic (7), s_goto 21, s_ic (0), s_iret]
def pc_X12_wrongPlan : Nat → Nat := fun i => [0, 1, 2, 3, 6, 9, 10, 13, 16, 17, 20, 21, 22, 25, 28, 29, 30, 33, 36, 38, 41, 42].getD i 0
def dl_X12_wrongPlan : List (Nat × Instr × Nat) := [(0, .aload_n 0, 1), (1, .iload_n 1, 1), (2, .iload_n 2, 1), (3, .invokevirtual 322, 3), (6, .ifCond .eq 10, 3), (9, .iload_n 3, 1), (10, .invokestatic 389, 3), (13, .ifCond .ne 7, 3), (16, .iconst 1, 1), (17, .goto 25, 3), (20, .aload_n 0, 1), (21, .iload_n 1, 1), (22, .invokevirtual 292, 3), (25, .ifCond .ne 11, 3), (28, .aload_n 0, 1), (29, .iload_n 2, 1), (30, .invokevirtual 295, 3), (33, .ifCond .eq 8, 3), (36, .bipush 7, 2), (38, .goto 4, 3), (41, .iconst 0, 1), (42, .ireturn, 1)]
theorem dc_X12_wrongPlan : DEC prog_14_method_116_code pc_X12_wrongPlan dl_X12_wrongPlan := DEC_of (by decide +kernel)
abbrev rm_X12_wrongPlan : Room := { frames := 2, cells := 0, slots := 0, locals := 43 }
set_option maxRecDepth 20000 in
theorem sa_X12_wrongPlan (l : Launch) : SNDALL l prog_14_method_116_code "GivenUpModel" 4 (some .int) rm_X12_wrongPlan P_X12_wrongPlan pc_X12_wrongPlan := fun p e s m args below meth c cells slots Q D dA ad A RR hC hR => by
  have hM := RTX_room (R := rm_X12_wrongPlan) hR
  exact ⟨st_aload_n hC (n := 0) (k := 0) (dc_X12_wrongPlan 0 (0, .aload_n 0, 1) rfl rfl) rfl rfl,
    st_iload_n hC (n := 1) (k := 1) (dc_X12_wrongPlan 1 (1, .iload_n 1, 1) rfl rfl) rfl rfl,
    st_iload_n hC (n := 2) (k := 2) (dc_X12_wrongPlan 2 (2, .iload_n 2, 1) rfl rfl) rfl rfl,
    st_callV hC (n := 3) (k := 12) (na := 2) (con_X12_areBoth l) (dc_X12_wrongPlan 3 (3, .invokevirtual 322, 3) rfl rfl) rfl wd_1969 wd_160 (by decide) ⟨rfl, rfl, by decide, by decide⟩ hM wd_1966 wd_1968 wd_99 clf_12,
    st_ifeq hC (n := 4) (dc_X12_wrongPlan 4 (6, .ifCond .eq 10, 3) rfl rfl) rfl (by decide),
    st_iload_n hC (n := 5) (k := 3) (dc_X12_wrongPlan 5 (9, .iload_n 3, 1) rfl rfl) rfl rfl,
    st_callS hC (n := 6) (na := 1) (con_X12_isAhead l) (dc_X12_wrongPlan 6 (10, .invokestatic 389, 3) rfl rfl) rfl wd_2126 wd_160 (by decide) ⟨rfl, rfl, by decide, by decide⟩ hM wd_2124 wd_2125,
    st_ifne hC (n := 7) (dc_X12_wrongPlan 7 (13, .ifCond .ne 7, 3) rfl rfl) rfl (by decide),
    st_iconst hC (n := 8) (x := 1) (dc_X12_wrongPlan 8 (16, .iconst 1, 1) rfl rfl) rfl (by decide),
    st_goto hC (n := 9) (dc_X12_wrongPlan 9 (17, .goto 25, 3) rfl rfl) (by decide),
    st_aload_n hC (n := 10) (k := 0) (dc_X12_wrongPlan 10 (20, .aload_n 0, 1) rfl rfl) rfl rfl,
    st_iload_n hC (n := 11) (k := 1) (dc_X12_wrongPlan 11 (21, .iload_n 1, 1) rfl rfl) rfl rfl,
    st_callV hC (n := 12) (k := 12) (na := 1) (con_X12_hasWed l) (dc_X12_wrongPlan 12 (22, .invokevirtual 292, 3) rfl rfl) rfl wd_1985 wd_160 (by decide) ⟨rfl, rfl, by decide, by decide⟩ hM wd_1982 wd_1984 wd_102 clf_12,
    st_ifne hC (n := 13) (dc_X12_wrongPlan 13 (25, .ifCond .ne 11, 3) rfl rfl) rfl (by decide),
    st_aload_n hC (n := 14) (k := 0) (dc_X12_wrongPlan 14 (28, .aload_n 0, 1) rfl rfl) rfl rfl,
    st_iload_n hC (n := 15) (k := 2) (dc_X12_wrongPlan 15 (29, .iload_n 2, 1) rfl rfl) rfl rfl,
    st_callV hC (n := 16) (k := 12) (na := 1) (con_X12_isWed l) (dc_X12_wrongPlan 16 (30, .invokevirtual 295, 3) rfl rfl) rfl wd_2037 wd_160 (by decide) ⟨rfl, rfl, by decide, by decide⟩ hM wd_2034 wd_2036 wd_109 clf_12,
    st_ifeq hC (n := 17) (dc_X12_wrongPlan 17 (33, .ifCond .eq 8, 3) rfl rfl) rfl (by decide),
    st_bipush hC (n := 18) (x := 7) (dc_X12_wrongPlan 18 (36, .bipush 7, 2) rfl rfl) rfl (by decide),
    st_goto hC (n := 19) (dc_X12_wrongPlan 19 (38, .goto 4, 3) rfl rfl) (by decide),
    st_iconst hC (n := 20) (x := 0) (dc_X12_wrongPlan 20 (41, .iconst 0, 1) rfl rfl) rfl (by decide),
    st_iret hC (n := 21) hR (dc_X12_wrongPlan 21 (42, .ireturn, 1) rfl rfl), trivial⟩
set_option maxRecDepth 8000 in
theorem vc_X12_wrongPlan : VC P_X12_wrongPlan 4 Pre_X12_wrongPlan Fn_X12_wrongPlan := by
  rintro mm as hom hoa ⟨⟨ns, nm, nt, hV⟩, x, y, w, rfl⟩
  refine ⟨Nat.le_of_ble_eq_true rfl, fun X h => ?_⟩
  have hns4 : ns ≤ 4 := hV.1.2
  have hnm4 : nm ≤ 4 := hV.2.1.2
  have one : ¬ ((suP (mm.1 54 0) x ∧ maP (mm.1 54 0) y) ∧ (¬ w < 0 ∧ ¬ 99 < w)) → X 8 [some (vR 12 0), some (vI (x)), some (vI (y)), some (vI (w))] [] mm := by
    intro hc
    show X 8 [some (vR 12 0), some (vI x), some (vI y), some (vI w)] [] mm
    refine h (fun _ => false) 3000 8 _ _ _ ?_
    show ((some (vI 1) : Option MV), mm) = _
    refine leaf ?_
    show _ = (some (vI (wpF (mm.1 54 0) x y w)), mm) 
    unfold wpF 
    rw [if_pos hc]
  have two : ((suP (mm.1 54 0) x ∧ maP (mm.1 54 0) y) ∧ (¬ w < 0 ∧ ¬ 99 < w)) → X 10 [some (vR 12 0), some (vI (x)), some (vI (y)), some (vI (w))] [] mm := by
    intro hc
    obtain ⟨i, hi, rfl⟩ := su_in hV hc.1.1
    obtain ⟨d, hd, rfl⟩ := ma_in hV hc.1.2
    show X 10 [some (vR 12 0), some (vI (nI i)), some (vI (nI d)), some (vI w)] [] mm
    refine h (fun _ => false) 3000 10 _ _ _ ?_
    refine And.intro ⟨i, by omega, rfl⟩ ?_
    refine brn_c (fun b13 => ?_) (fun b13 => ?_)
    · -- 13: bI (¬ mm.1 54 0 (15 + 4 * (nI i).toNatClampNeg) = -1) = 0 taken
      replace b13 : ¬ mm.1 54 0 (15 + 4 * (nI i).toNatClampNeg) = -1 := bI_n0.mp b13
      show ((some (vI 7) : Option MV), mm) = _
      refine leaf ?_
      show _ = (some (vI (wpF (mm.1 54 0) (nI i) (nI d) w)), mm) 
      unfold wpF 
      rw [if_neg (fun z => z hc)] 
      first | rw [if_pos (Or.inl b13)] | rw [if_pos (Or.inr b17)] | rw [if_neg (fun z => z.elim b13 b17)]
    · -- 13: bI (¬ mm.1 54 0 (15 + 4 * (nI i).toNatClampNeg) = -1) = 0 on
      replace b13 : ¬ (¬ mm.1 54 0 (15 + 4 * (nI i).toNatClampNeg) = -1) := bI_0.mp b13
      refine And.intro ⟨d, by omega, rfl⟩ ?_
      refine br_c (fun b17 => ?_) (fun b17 => ?_)
      · -- 17: bI (¬ mm.1 54 0 (31 + 4 * (nI d).toNatClampNeg) = -1) = 0 taken
        replace b17 : ¬ (¬ mm.1 54 0 (31 + 4 * (nI d).toNatClampNeg) = -1) := bI_0.mp b17
        show ((some (vI 0) : Option MV), mm) = _
        refine leaf ?_
        show _ = (some (vI (wpF (mm.1 54 0) (nI i) (nI d) w)), mm) 
        unfold wpF 
        rw [if_neg (fun z => z hc)] 
        first | rw [if_pos (Or.inl b13)] | rw [if_pos (Or.inr b17)] | rw [if_neg (fun z => z.elim b13 b17)]
      · -- 17: bI (¬ mm.1 54 0 (31 + 4 * (nI d).toNatClampNeg) = -1) = 0 on
        replace b17 : ¬ mm.1 54 0 (31 + 4 * (nI d).toNatClampNeg) = -1 := bI_n0.mp b17
        show ((some (vI 7) : Option MV), mm) = _
        refine leaf ?_
        show _ = (some (vI (wpF (mm.1 54 0) (nI i) (nI d) w)), mm) 
        unfold wpF 
        rw [if_neg (fun z => z hc)] 
        first | rw [if_pos (Or.inl b13)] | rw [if_pos (Or.inr b17)] | rw [if_neg (fun z => z.elim b13 b17)]
  show X 0 [some (vR 12 0), some (vI x), some (vI y), some (vI w)] [] mm
  refine h (fun i => Nat.beq i 8 || Nat.beq i 10) 3000 0 _ _ _ ?_
  refine And.intro ⟨_, _, rfl⟩ ?_
  refine br_c (fun b4 => ?_) (fun b4 => ?_)
  · -- 4: bI (suP (mm.1 54 0) x ∧ maP (mm.1 54 0) y) = 0 taken
    replace b4 : ¬ (suP (mm.1 54 0) x ∧ maP (mm.1 54 0) y) := bI_0.mp b4
    show X 8 [some (vR 12 0), some (vI x), some (vI y), some (vI w)] [] mm
    exact one (by first | exact fun z => b4 z.1 | exact fun z => b7 z.2)
  · -- 4: bI (suP (mm.1 54 0) x ∧ maP (mm.1 54 0) y) = 0 on
    replace b4 : suP (mm.1 54 0) x ∧ maP (mm.1 54 0) y := bI_n0.mp b4
    refine And.intro ⟨_, rfl⟩ ?_
    refine brn_c (fun b7 => ?_) (fun b7 => ?_)
    · -- 7: bI (¬ w < 0 ∧ ¬ 99 < w) = 0 taken
      replace b7 : ¬ w < 0 ∧ ¬ 99 < w := bI_n0.mp b7
      show X 10 [some (vR 12 0), some (vI x), some (vI y), some (vI w)] [] mm
      exact two ⟨b4, b7⟩
    · -- 7: bI (¬ w < 0 ∧ ¬ 99 < w) = 0 on
      replace b7 : ¬ (¬ w < 0 ∧ ¬ 99 < w) := bI_0.mp b7
      show X 8 [some (vR 12 0), some (vI x), some (vI y), some (vI w)] [] mm
      exact one (by first | exact fun z => b4 z.1 | exact fun z => b7 z.2)
theorem con_X12_wrongPlan (l : Launch) : CON l y_X12_wrongPlan prog_14_method_116_code 4 (some .int) rm_X12_wrongPlan Pre_X12_wrongPlan Fn_X12_wrongPlan := CON_of (by decide) rfl rfl (sa_X12_wrongPlan l) vc_X12_wrongPlan
