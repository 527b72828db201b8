/-! PART 42: the model: what is wanted, names, numbers -/

theorem TXo_54 {m : MM} {f : Nat → Int32} (h : TXo m) : TXo (mRow m 54 0 f) := h
theorem TXo_55 {m : MM} {f : Nat → Int64} (h : TXo m) : TXo (mRowL m 55 0 f) := h
theorem TXo_tk {m : MM} {S s : Nat} (hS : m.1 12 0 11 = nI S) (hS9 : S ≤ 900) (hs : s ≤ S) : TXo (tkM m s) := by
  have hSn : (m.1 12 0 11).toNatClampNeg = S := by rw [hS]; exact nI_clamp (by omega)
  refine ⟨S, s, tkE (m.1 60 0) (m.1 12 0 11).toNatClampNeg s, hS, hS9, rfl, rfl, tkE_ge _ _ _, ?_⟩
  rw [hSn]
  exact tkE_le _ hs
theorem TXo_ah {m : MM} (h : TXo m) : TXo (ahM m) := by
  obtain ⟨S, s, e, hS, hS9, hs, he, hse, heS⟩ := h
  have hSn : (m.1 12 0 11).toNatClampNeg = S := by rw [hS]; exact nI_clamp (by omega)
  refine TXo_tk hS hS9 ?_
  rw [hSn, he, nI_clamp (by omega)]
  exact tkS_le _ heS
theorem TXo_pre {m : MM} (h : TXo m) : Pre_X12_ahead m [vR 12 0] := by
  obtain ⟨S, s, e, hS, hS9, hs, he, hse, heS⟩ := h
  exact ⟨S, e, hS, hS9, he, heS, rfl⟩
def faM (m : MM) (k : Int32) : MM := mite (m.1 12 0 18 = 0) (mI (mI m 12 0 18 (if m.1 12 0 12 = 1 then 1 else k)) 12 0 17 (m.1 12 0 13)) m
theorem TXo_fa {m : MM} {k : Int32} (h : TXo m) : TXo (faM m k) := by
  unfold faM mite
  split
  · exact h
  · exact h
abbrev PR : Type := Bool × MM
theorem PR_t {p : PR} {m : MM} (h : p = (true, m)) : ((some (Sum.inl 1) : Option MV), m) = (some (vI (bI (p.1 = true))), p.2) := by rw [h]; rfl
theorem PR_f {p : PR} {m : MM} (h : p = (false, m)) : ((some (Sum.inl 0) : Option MV), m) = (some (vI (bI (p.1 = true))), p.2) := by rw [h]; rfl
theorem PR_q {p q : PR} (h : p = q) : ((some (vI (bI (q.1 = true))) : Option MV), q.2) = (some (vI (bI (p.1 = true))), p.2) := by rw [h]
theorem pr_n {b : Bool} (h : ¬ b = true) : b = false := Bool.eq_false_iff.mpr h

--tpl ⟨_, rfl⟩ || 0 || faM {m} {1}
def Pre_X12_fails : PreT := fun _ as => ∃ k : Int32, as = [vR 12 0, vI k]
def Fn_X12_fails : FnT := fun m as => match as with
  | [_, Sum.inl k] => (some (vI 0), faM m k)
  | _ => (none, m)
abbrev y_X12_fails : MethodName := ⟨"GivenUpModel", "fails", "(I)Z"⟩
def P_X12_fails : List StpT := [s_aload 0, s_getI 12 18, s_ifne 16, s_aload 0, s_aload 0, s_getI 12 12, s_ic (1), s_icne 10, s_ic (1), s_goto 11, s_iload 1, s_putI 12 18, s_aload 0, s_aload 0, s_getI 12 13, s_putI 12 17, s_ic (0), s_zret]
def pc_X12_fails : Nat → Nat := fun i => [0, 1, 4, 7, 8, 9, 12, 13, 16, 17, 20, 21, 24, 25, 26, 29, 32, 33].getD i 0
def dl_X12_fails : List (Nat × Instr × Nat) := [(0, .aload_n 0, 1), (1, .getfield 157, 3), (4, .ifCond .ne 28, 3), (7, .aload_n 0, 1), (8, .aload_n 0, 1), (9, .getfield 132, 3), (12, .iconst 1, 1), (13, .if_icmp .ne 7, 3), (16, .iconst 1, 1), (17, .goto 4, 3), (20, .iload_n 1, 1), (21, .putfield 157, 3), (24, .aload_n 0, 1), (25, .aload_n 0, 1), (26, .getfield 126, 3), (29, .putfield 41, 3), (32, .iconst 0, 1), (33, .ireturn, 1)]
theorem dc_X12_fails : DEC prog_14_method_28_code pc_X12_fails dl_X12_fails := DEC_of (by decide +kernel)
abbrev rm_X12_fails : Room := { frames := 0, cells := 0, slots := 0, locals := 0 }
set_option maxRecDepth 20000 in
theorem sa_X12_fails (l : Launch) : SNDALL l prog_14_method_28_code "GivenUpModel" 2 (some .boolean) rm_X12_fails P_X12_fails pc_X12_fails := fun p e s m args below meth c cells slots Q D dA ad A RR hC hR => by
  have hM := RTX_room (R := rm_X12_fails) hR
  exact ⟨st_aload_n hC (n := 0) (k := 0) (dc_X12_fails 0 (0, .aload_n 0, 1) rfl rfl) rfl rfl,
    st_getI hC (n := 1) (k := 12) (j := 18) (dc_X12_fails 1 (1, .getfield 157, 3) rfl rfl) rfl clf_12 (by decide) rfl wd_1570,
    st_ifne hC (n := 2) (dc_X12_fails 2 (4, .ifCond .ne 28, 3) rfl rfl) rfl (by decide),
    st_aload_n hC (n := 3) (k := 0) (dc_X12_fails 3 (7, .aload_n 0, 1) rfl rfl) rfl rfl,
    st_aload_n hC (n := 4) (k := 0) (dc_X12_fails 4 (8, .aload_n 0, 1) rfl rfl) rfl rfl,
    st_getI hC (n := 5) (k := 12) (j := 12) (dc_X12_fails 5 (9, .getfield 132, 3) rfl rfl) rfl clf_12 (by decide) rfl wd_1564,
    st_iconst hC (n := 6) (x := 1) (dc_X12_fails 6 (12, .iconst 1, 1) rfl rfl) rfl (by decide),
    st_icne hC (n := 7) (dc_X12_fails 7 (13, .if_icmp .ne 7, 3) rfl rfl) rfl (by decide),
    st_iconst hC (n := 8) (x := 1) (dc_X12_fails 8 (16, .iconst 1, 1) rfl rfl) rfl (by decide),
    st_goto hC (n := 9) (dc_X12_fails 9 (17, .goto 4, 3) rfl rfl) (by decide),
    st_iload_n hC (n := 10) (k := 1) (dc_X12_fails 10 (20, .iload_n 1, 1) rfl rfl) rfl rfl,
    st_putI hC (n := 11) (k := 12) (j := 18) (dc_X12_fails 11 (21, .putfield 157, 3) rfl rfl) rfl clf_12 (by decide) rfl rfl rfl wd_1570,
    st_aload_n hC (n := 12) (k := 0) (dc_X12_fails 12 (24, .aload_n 0, 1) rfl rfl) rfl rfl,
    st_aload_n hC (n := 13) (k := 0) (dc_X12_fails 13 (25, .aload_n 0, 1) rfl rfl) rfl rfl,
    st_getI hC (n := 14) (k := 12) (j := 13) (dc_X12_fails 14 (26, .getfield 126, 3) rfl rfl) rfl clf_12 (by decide) rfl wd_1565,
    st_putI hC (n := 15) (k := 12) (j := 17) (dc_X12_fails 15 (29, .putfield 41, 3) rfl rfl) rfl clf_12 (by decide) rfl rfl rfl wd_1569,
    st_iconst hC (n := 16) (x := 0) (dc_X12_fails 16 (32, .iconst 0, 1) rfl rfl) rfl (by decide),
    st_zret hC (n := 17) hR (dc_X12_fails 17 (33, .ireturn, 1) rfl rfl), trivial⟩
set_option maxRecDepth 8000 in
theorem vc_X12_fails : VC P_X12_fails 2 Pre_X12_fails Fn_X12_fails := by
  rintro mm as hom hoa ⟨k, rfl⟩
  refine ⟨Nat.le_of_ble_eq_true rfl, fun X h => ?_⟩
  have hF : Fn_X12_fails mm [vR 12 0, vI k] = (some (vI 0), faM mm k) := rfl
  rw [hF] at h
  unfold faM at h
  show X 0 [some (vR 12 0), some (vI k)] [] mm
  refine h (fun _ => false) 3000 0 _ _ _ ?_
  refine brn_c (fun b2 => ?_) (fun b2 => ?_)
  · -- 2: mm.1 12 0 18 = 0 taken
    replace b2 : ¬ (mm.1 12 0 18 = 0) := b2
    refine And.intro (Or.inl rfl) ?_
    show ((some (vI 0) : Option MV), mm) = _
    refine leaf ?_
    rw [mite_f b2]
  · -- 2: mm.1 12 0 18 = 0 on
    replace b2 : mm.1 12 0 18 = 0 := b2
    refine brn_c (fun b7 => ?_) (fun b7 => ?_)
    · -- 7: mm.1 12 0 12 = 1 taken
      replace b7 : ¬ (mm.1 12 0 12 = 1) := b7
      refine And.intro (Or.inl rfl) ?_
      show ((some (vI 0) : Option MV), mI (mI mm 12 0 18 k) 12 0 17 (mm.1 12 0 13)) = _
      refine leaf ?_
      rw [mite_t b2, if_neg b7]
    · -- 7: mm.1 12 0 12 = 1 on
      replace b7 : mm.1 12 0 12 = 1 := b7
      refine And.intro (Or.inl rfl) ?_
      show ((some (vI 0) : Option MV), mI (mI mm 12 0 18 1) 12 0 17 (mm.1 12 0 13)) = _
      refine leaf ?_
      rw [mite_t b2, if_pos b7]
theorem con_X12_fails (l : Launch) : CON l y_X12_fails prog_14_method_28_code 2 (some .boolean) rm_X12_fails Pre_X12_fails Fn_X12_fails := CON_of (by decide) rfl rfl (sa_X12_fails l) vc_X12_fails
abbrev sgP (m : MM) (c : Int32) : Prop := m.1 12 0 12 = 4 ∧ m.1 12 0 15 = c
def pSg (m : MM) (c : Int32) : PR := if sgP m c then (true, ahM m) else (false, faM m 2)

--tpl ⟨(by repeat' (first | assumption | refine TXo_ah ?_ | refine TXo_fa ?_ | refine TXo_54 ?_ | refine TXo_55 ?_ | refine TXo_pr ?_)), _, rfl⟩ || bI ((pSg {m} {1}).1 = true) || (pSg {m} {1}).2
def Pre_X12_wantSign : PreT := fun m as => TXo m ∧ ∃ c : Int32, as = [vR 12 0, vI c]
def Fn_X12_wantSign : FnT := fun m as => match as with
  | [_, Sum.inl c] => (some (vI (bI ((pSg m c).1 = true))), (pSg m c).2)
  | _ => (none, m)
abbrev y_X12_wantSign : MethodName := ⟨"GivenUpModel", "wantSign", "(I)Z"⟩
def P_X12_wantSign : List StpT := [s_aload 0, s_iload 1, s_callV 12 1 Pre_X12_isSign Fn_X12_isSign, s_ifne 8, s_aload 0, s_ic (2), s_callV 12 1 Pre_X12_fails Fn_X12_fails, s_zret, s_aload 0, s_callV 12 0 Pre_X12_ahead Fn_X12_ahead, s_ic (1), s_zret]
def pc_X12_wantSign : Nat → Nat := fun i => [0, 1, 2, 5, 8, 9, 10, 13, 14, 15, 18, 19].getD i 0
def dl_X12_wantSign : List (Nat × Instr × Nat) := [(0, .aload_n 0, 1), (1, .iload_n 1, 1), (2, .invokevirtual 166, 3), (5, .ifCond .ne 9, 3), (8, .aload_n 0, 1), (9, .iconst 2, 1), (10, .invokevirtual 169, 3), (13, .ireturn, 1), (14, .aload_n 0, 1), (15, .invokevirtual 163, 3), (18, .iconst 1, 1), (19, .ireturn, 1)]
theorem dc_X12_wantSign : DEC prog_14_method_30_code pc_X12_wantSign dl_X12_wantSign := DEC_of (by decide +kernel)
abbrev rm_X12_wantSign : Room := { frames := 2, cells := 0, slots := 0, locals := 42 }
set_option maxRecDepth 20000 in
theorem sa_X12_wantSign (l : Launch) : SNDALL l prog_14_method_30_code "GivenUpModel" 2 (some .boolean) rm_X12_wantSign P_X12_wantSign pc_X12_wantSign := fun p e s m args below meth c cells slots Q D dA ad A RR hC hR => by
  have hM := RTX_room (R := rm_X12_wantSign) hR
  exact ⟨st_aload_n hC (n := 0) (k := 0) (dc_X12_wantSign 0 (0, .aload_n 0, 1) rfl rfl) rfl rfl,
    st_iload_n hC (n := 1) (k := 1) (dc_X12_wantSign 1 (1, .iload_n 1, 1) rfl rfl) rfl rfl,
    st_callV hC (n := 2) (k := 12) (na := 1) (con_X12_isSign l) (dc_X12_wantSign 2 (2, .invokevirtual 166, 3) rfl rfl) rfl wd_1841 wd_160 (by decide) ⟨rfl, rfl, by decide, by decide⟩ hM wd_1838 wd_1840 wd_77 clf_12,
    st_ifne hC (n := 3) (dc_X12_wantSign 3 (5, .ifCond .ne 9, 3) rfl rfl) rfl (by decide),
    st_aload_n hC (n := 4) (k := 0) (dc_X12_wantSign 4 (8, .aload_n 0, 1) rfl rfl) rfl rfl,
    st_iconst hC (n := 5) (x := 2) (dc_X12_wantSign 5 (9, .iconst 2, 1) rfl rfl) rfl (by decide),
    st_callV hC (n := 6) (k := 12) (na := 1) (con_X12_fails l) (dc_X12_wantSign 6 (10, .invokevirtual 169, 3) rfl rfl) rfl wd_1781 wd_160 (by decide) ⟨rfl, rfl, by decide, by decide⟩ hM wd_1778 wd_1780 wd_62 clf_12,
    st_zret hC (n := 7) hR (dc_X12_wantSign 7 (13, .ireturn, 1) rfl rfl),
    st_aload_n hC (n := 8) (k := 0) (dc_X12_wantSign 8 (14, .aload_n 0, 1) rfl rfl) rfl rfl,
    st_callV hC (n := 9) (k := 12) (na := 0) (con_X12_ahead l) (dc_X12_wantSign 9 (15, .invokevirtual 163, 3) rfl rfl) rfl wd_1742 wd_160 (by decide) ⟨rfl, rfl, by decide, by decide⟩ hM wd_1739 wd_1741 wd_55 clf_12,
    st_iconst hC (n := 10) (x := 1) (dc_X12_wantSign 10 (18, .iconst 1, 1) rfl rfl) rfl (by decide),
    st_zret hC (n := 11) hR (dc_X12_wantSign 11 (19, .ireturn, 1) rfl rfl), trivial⟩
set_option maxRecDepth 8000 in
theorem vc_X12_wantSign : VC P_X12_wantSign 2 Pre_X12_wantSign Fn_X12_wantSign := by
  rintro mm as hom hoa ⟨hT, c, rfl⟩
  refine ⟨Nat.le_of_ble_eq_true rfl, fun X h => ?_⟩
  show X 0 [some (vR 12 0), some (vI c)] [] mm
  refine h (fun _ => false) 3000 0 _ _ _ ?_
  refine And.intro (show Pre_X12_isSign mm [vR 12 0, vI c] from ⟨_, rfl⟩) ?_
  refine brn_c (fun b3 => ?_) (fun b3 => ?_)
  · -- 3: bI (mm.1 12 0 12 = 4 ∧ mm.1 12 0 15 = c) = 0 taken
    replace b3 : mm.1 12 0 12 = 4 ∧ mm.1 12 0 15 = c := bI_n0.mp b3
    refine And.intro (show Pre_X12_ahead mm [vR 12 0] from (TXo_pre hT)) ?_
    refine And.intro (Or.inr rfl) ?_
    show ((some (vI 1) : Option MV), ahM mm) = _
    exact PR_t (if_pos b3)
  · -- 3: bI (mm.1 12 0 12 = 4 ∧ mm.1 12 0 15 = c) = 0 on
    replace b3 : ¬ (mm.1 12 0 12 = 4 ∧ mm.1 12 0 15 = c) := bI_0.mp b3
    refine And.intro (show Pre_X12_fails mm [vR 12 0, vI 2] from ⟨_, rfl⟩) ?_
    refine And.intro (Or.inl rfl) ?_
    show ((some (vI 0) : Option MV), faM mm 2) = _
    exact PR_f (if_neg b3)
theorem con_X12_wantSign (l : Launch) : CON l y_X12_wantSign prog_14_method_30_code 2 (some .boolean) rm_X12_wantSign Pre_X12_wantSign Fn_X12_wantSign := CON_of (by decide) rfl rfl (sa_X12_wantSign l) vc_X12_wantSign
def pWW (m : MM) (k : Int32) : PR := if kyA m = k then (true, ahM m) else (false, faM m 2)
def pTh (m : MM) (k : Int32) : PR := if kyA m = k then (true, ahM m) else (false, m)

--tpl ⟨(by repeat' (first | assumption | refine TXo_ah ?_ | refine TXo_fa ?_ | refine TXo_54 ?_ | refine TXo_55 ?_ | refine TXo_pr ?_)), _, rfl⟩ || bI ((pWW {m} {2}).1 = true) || (pWW {m} {2}).2
def Pre_X12_wantWord : PreT := fun m as => TXo m ∧ ∃ c : Int32, as = [vR 12 0, vR 72 1, vI c]
def Fn_X12_wantWord : FnT := fun m as => match as with
  | [_, _, Sum.inl c] => (some (vI (bI ((pWW m c).1 = true))), (pWW m c).2)
  | _ => (none, m)
abbrev y_X12_wantWord : MethodName := ⟨"GivenUpModel", "wantWord", "(Ljava/lang/String;I)Z"⟩
def P_X12_wantWord : List StpT := [s_aload 0, s_aload 1, s_callV 12 1 Pre_X12_inWords Fn_X12_inWords, s_iload 2, s_iceq 9, s_aload 0, s_ic (2), s_callV 12 1 Pre_X12_fails Fn_X12_fails, s_zret, s_aload 0, s_callV 12 0 Pre_X12_ahead Fn_X12_ahead, s_ic (1), s_zret]
def pc_X12_wantWord : Nat → Nat := fun i => [0, 1, 2, 5, 6, 9, 10, 11, 14, 15, 16, 19, 20].getD i 0
def dl_X12_wantWord : List (Nat × Instr × Nat) := [(0, .aload_n 0, 1), (1, .aload_n 1, 1), (2, .invokevirtual 172, 3), (5, .iload_n 2, 1), (6, .if_icmp .eq 9, 3), (9, .aload_n 0, 1), (10, .iconst 2, 1), (11, .invokevirtual 169, 3), (14, .ireturn, 1), (15, .aload_n 0, 1), (16, .invokevirtual 163, 3), (19, .iconst 1, 1), (20, .ireturn, 1)]
theorem dc_X12_wantWord : DEC prog_14_method_31_code pc_X12_wantWord dl_X12_wantWord := DEC_of (by decide +kernel)
abbrev rm_X12_wantWord : Room := { frames := 6, cells := 0, slots := 0, locals := 132 }
set_option maxRecDepth 20000 in
theorem sa_X12_wantWord (l : Launch) : SNDALL l prog_14_method_31_code "GivenUpModel" 3 (some .boolean) rm_X12_wantWord P_X12_wantWord pc_X12_wantWord := fun p e s m args below meth c cells slots Q D dA ad A RR hC hR => by
  have hM := RTX_room (R := rm_X12_wantWord) hR
  exact ⟨st_aload_n hC (n := 0) (k := 0) (dc_X12_wantWord 0 (0, .aload_n 0, 1) rfl rfl) rfl rfl,
    st_aload_n hC (n := 1) (k := 1) (dc_X12_wantWord 1 (1, .aload_n 1, 1) rfl rfl) rfl rfl,
    st_callV hC (n := 2) (k := 12) (na := 1) (con_X12_inWords l) (dc_X12_wantWord 2 (2, .invokevirtual 172, 3) rfl rfl) rfl wd_1767 wd_160 (by decide) ⟨rfl, rfl, by decide, by decide⟩ hM wd_1764 wd_1766 wd_59 clf_12,
    st_iload_n hC (n := 3) (k := 2) (dc_X12_wantWord 3 (5, .iload_n 2, 1) rfl rfl) rfl rfl,
    st_iceq hC (n := 4) (dc_X12_wantWord 4 (6, .if_icmp .eq 9, 3) rfl rfl) rfl (by decide),
    st_aload_n hC (n := 5) (k := 0) (dc_X12_wantWord 5 (9, .aload_n 0, 1) rfl rfl) rfl rfl,
    st_iconst hC (n := 6) (x := 2) (dc_X12_wantWord 6 (10, .iconst 2, 1) rfl rfl) rfl (by decide),
    st_callV hC (n := 7) (k := 12) (na := 1) (con_X12_fails l) (dc_X12_wantWord 7 (11, .invokevirtual 169, 3) rfl rfl) rfl wd_1781 wd_160 (by decide) ⟨rfl, rfl, by decide, by decide⟩ hM wd_1778 wd_1780 wd_62 clf_12,
    st_zret hC (n := 8) hR (dc_X12_wantWord 8 (14, .ireturn, 1) rfl rfl),
    st_aload_n hC (n := 9) (k := 0) (dc_X12_wantWord 9 (15, .aload_n 0, 1) rfl rfl) rfl rfl,
    st_callV hC (n := 10) (k := 12) (na := 0) (con_X12_ahead l) (dc_X12_wantWord 10 (16, .invokevirtual 163, 3) rfl rfl) rfl wd_1742 wd_160 (by decide) ⟨rfl, rfl, by decide, by decide⟩ hM wd_1739 wd_1741 wd_55 clf_12,
    st_iconst hC (n := 11) (x := 1) (dc_X12_wantWord 11 (19, .iconst 1, 1) rfl rfl) rfl (by decide),
    st_zret hC (n := 12) hR (dc_X12_wantWord 12 (20, .ireturn, 1) rfl rfl), trivial⟩
set_option maxRecDepth 8000 in
theorem vc_X12_wantWord : VC P_X12_wantWord 3 Pre_X12_wantWord Fn_X12_wantWord := by
  rintro mm as hom hoa ⟨hT, c, rfl⟩
  refine ⟨Nat.le_of_ble_eq_true rfl, fun X h => ?_⟩
  show X 0 [some (vR 12 0), some (vR 72 1), some (vI c)] [] mm
  refine h (fun _ => false) 3000 0 _ _ _ ?_
  refine And.intro (show Pre_X12_inWords mm [vR 12 0, vR 72 1] from ⟨(by repeat' (first | assumption | refine TXo_ah ?_ | refine TXo_fa ?_ | refine TXo_54 ?_ | refine TXo_55 ?_ | refine TXo_pr ?_)), rfl⟩) ?_
  refine br_c (fun b4 => ?_) (fun b4 => ?_)
  · -- 4: kyA mm = c taken
    replace b4 : kyA mm = c := b4
    refine And.intro (show Pre_X12_ahead mm [vR 12 0] from (TXo_pre hT)) ?_
    refine And.intro (Or.inr rfl) ?_
    show ((some (vI 1) : Option MV), ahM mm) = _
    exact PR_t (if_pos b4)
  · -- 4: kyA mm = c on
    replace b4 : ¬ (kyA mm = c) := b4
    refine And.intro (show Pre_X12_fails mm [vR 12 0, vI 2] from ⟨_, rfl⟩) ?_
    refine And.intro (Or.inl rfl) ?_
    show ((some (vI 0) : Option MV), faM mm 2) = _
    exact PR_f (if_neg b4)
theorem con_X12_wantWord (l : Launch) : CON l y_X12_wantWord prog_14_method_31_code 3 (some .boolean) rm_X12_wantWord Pre_X12_wantWord Fn_X12_wantWord := CON_of (by decide) rfl rfl (sa_X12_wantWord l) vc_X12_wantWord
--tpl ⟨(by repeat' (first | assumption | refine TXo_ah ?_ | refine TXo_fa ?_ | refine TXo_54 ?_ | refine TXo_55 ?_ | refine TXo_pr ?_)), _, rfl⟩ || bI ((pTh {m} {1}).1 = true) || (pTh {m} {1}).2
def Pre_X12_isThere : PreT := fun m as => TXo m ∧ ∃ c : Int32, as = [vR 12 0, vI c]
def Fn_X12_isThere : FnT := fun m as => match as with
  | [_, Sum.inl c] => (some (vI (bI ((pTh m c).1 = true))), (pTh m c).2)
  | _ => (none, m)
abbrev y_X12_isThere : MethodName := ⟨"GivenUpModel", "isThere", "(I)Z"⟩
def P_X12_isThere : List StpT := [s_aload 0, s_ldS 1, s_callV 12 1 Pre_X12_inWords Fn_X12_inWords, s_iload 1, s_iceq 7, s_ic (0), s_zret, s_aload 0, s_callV 12 0 Pre_X12_ahead Fn_X12_ahead, s_ic (1), s_zret]
def pc_X12_isThere : Nat → Nat := fun i => [0, 1, 3, 6, 7, 10, 11, 12, 13, 16, 17].getD i 0
def dl_X12_isThere : List (Nat × Instr × Nat) := [(0, .aload_n 0, 1), (1, .ldc 180, 2), (3, .invokevirtual 172, 3), (6, .iload_n 1, 1), (7, .if_icmp .eq 5, 3), (10, .iconst 0, 1), (11, .ireturn, 1), (12, .aload_n 0, 1), (13, .invokevirtual 163, 3), (16, .iconst 1, 1), (17, .ireturn, 1)]
theorem dc_X12_isThere : DEC prog_14_method_38_code pc_X12_isThere dl_X12_isThere := DEC_of (by decide +kernel)
abbrev rm_X12_isThere : Room := { frames := 6, cells := 0, slots := 0, locals := 132 }
set_option maxRecDepth 20000 in
theorem sa_X12_isThere (l : Launch) : SNDALL l prog_14_method_38_code "GivenUpModel" 2 (some .boolean) rm_X12_isThere P_X12_isThere pc_X12_isThere := fun p e s m args below meth c cells slots Q D dA ad A RR hC hR => by
  have hM := RTX_room (R := rm_X12_isThere) hR
  exact ⟨st_aload_n hC (n := 0) (k := 0) (dc_X12_isThere 0 (0, .aload_n 0, 1) rfl rfl) rfl rfl,
    st_ldS1 hC (n := 1) (dc_X12_isThere 1 (1, .ldc 180, 2) rfl rfl) rfl rfl,
    st_callV hC (n := 2) (k := 12) (na := 1) (con_X12_inWords l) (dc_X12_isThere 2 (3, .invokevirtual 172, 3) rfl rfl) rfl wd_1767 wd_160 (by decide) ⟨rfl, rfl, by decide, by decide⟩ hM wd_1764 wd_1766 wd_59 clf_12,
    st_iload_n hC (n := 3) (k := 1) (dc_X12_isThere 3 (6, .iload_n 1, 1) rfl rfl) rfl rfl,
    st_iceq hC (n := 4) (dc_X12_isThere 4 (7, .if_icmp .eq 5, 3) rfl rfl) rfl (by decide),
    st_iconst hC (n := 5) (x := 0) (dc_X12_isThere 5 (10, .iconst 0, 1) rfl rfl) rfl (by decide),
    st_zret hC (n := 6) hR (dc_X12_isThere 6 (11, .ireturn, 1) rfl rfl),
    st_aload_n hC (n := 7) (k := 0) (dc_X12_isThere 7 (12, .aload_n 0, 1) rfl rfl) rfl rfl,
    st_callV hC (n := 8) (k := 12) (na := 0) (con_X12_ahead l) (dc_X12_isThere 8 (13, .invokevirtual 163, 3) rfl rfl) rfl wd_1742 wd_160 (by decide) ⟨rfl, rfl, by decide, by decide⟩ hM wd_1739 wd_1741 wd_55 clf_12,
    st_iconst hC (n := 9) (x := 1) (dc_X12_isThere 9 (16, .iconst 1, 1) rfl rfl) rfl (by decide),
    st_zret hC (n := 10) hR (dc_X12_isThere 10 (17, .ireturn, 1) rfl rfl), trivial⟩
set_option maxRecDepth 8000 in
theorem vc_X12_isThere : VC P_X12_isThere 2 Pre_X12_isThere Fn_X12_isThere := by
  rintro mm as hom hoa ⟨hT, c, rfl⟩
  refine ⟨Nat.le_of_ble_eq_true rfl, fun X h => ?_⟩
  show X 0 [some (vR 12 0), some (vI c)] [] mm
  refine h (fun _ => false) 3000 0 _ _ _ ?_
  refine And.intro (show Pre_X12_inWords mm [vR 12 0, vR 72 1] from ⟨(by repeat' (first | assumption | refine TXo_ah ?_ | refine TXo_fa ?_ | refine TXo_54 ?_ | refine TXo_55 ?_ | refine TXo_pr ?_)), rfl⟩) ?_
  refine br_c (fun b4 => ?_) (fun b4 => ?_)
  · -- 4: kyA mm = c taken
    replace b4 : kyA mm = c := b4
    refine And.intro (show Pre_X12_ahead mm [vR 12 0] from (TXo_pre hT)) ?_
    refine And.intro (Or.inr rfl) ?_
    show ((some (vI 1) : Option MV), ahM mm) = _
    exact PR_t (if_pos b4)
  · -- 4: kyA mm = c on
    replace b4 : ¬ (kyA mm = c) := b4
    refine And.intro (Or.inl rfl) ?_
    show ((some (vI 0) : Option MV), mm) = _
    exact PR_f (if_neg b4)
theorem con_X12_isThere (l : Launch) : CON l y_X12_isThere prog_14_method_38_code 2 (some .boolean) rm_X12_isThere Pre_X12_isThere Fn_X12_isThere := CON_of (by decide) rfl rfl (sa_X12_isThere l) vc_X12_isThere
/-- a number comes to a place -/
def pNu (m : MM) (t : Nat) (lo hi : Int32) : PR := if m.1 12 0 12 = 3 then (if m.1 12 0 15 < lo ∨ hi < m.1 12 0 15 then (false, faM m 4) else (true, ahM (mI m 54 0 t (m.1 12 0 15)))) else (false, faM m 2)

--tpl ⟨(by repeat' (first | assumption | refine TXo_ah ?_ | refine TXo_fa ?_ | refine TXo_54 ?_ | refine TXo_55 ?_ | refine TXo_pr ?_)), {1N}, _, _, by omega, rfl⟩ || bI ((pNu {m} {1n} {2} {3}).1 = true) || (pNu {m} {1n} {2} {3}).2
def Pre_X12_number : PreT := fun m as => TXo m ∧ ∃ (t : Nat) (lo hi : Int32), t < 3060 ∧ as = [vR 12 0, vI (nI t), vI lo, vI hi]
def Fn_X12_number : FnT := fun m as => match as with
  | [_, Sum.inl t, Sum.inl lo, Sum.inl hi] => (some (vI (bI ((pNu m t.toNatClampNeg lo hi).1 = true))), (pNu m t.toNatClampNeg lo hi).2)
  | _ => (none, m)
abbrev y_X12_number : MethodName := ⟨"GivenUpModel", "number", "(III)Z"⟩
def P_X12_number : List StpT := [s_aload 0, s_getI 12 12, s_ic (3), s_iceq 8, s_aload 0, s_ic (2), s_callV 12 1 Pre_X12_fails Fn_X12_fails, s_zret, s_aload 0, s_getI 12 15, s_iload 2, s_iclt 16, s_aload 0, s_getI 12 15, s_iload 3, s_icle 20, s_aload 0, s_ic (4), s_callV 12 1 Pre_X12_fails Fn_X12_fails, s_zret, s_aload 0, s_getR 12 0 54, s_iload 1, s_aload 0, s_getI 12 15, s_iast, s_aload 0, s_callV 12 0 Pre_X12_ahead Fn_X12_ahead, s_ic (1), s_zret]
def pc_X12_number : Nat → Nat := fun i => [0, 1, 4, 5, 8, 9, 10, 13, 14, 15, 18, 19, 22, 23, 26, 27, 30, 31, 32, 35, 36, 37, 40, 41, 42, 45, 46, 47, 50, 51].getD i 0
def dl_X12_number : List (Nat × Instr × Nat) := [(0, .aload_n 0, 1), (1, .getfield 132, 3), (4, .iconst 3, 1), (5, .if_icmp .eq 9, 3), (8, .aload_n 0, 1), (9, .iconst 2, 1), (10, .invokevirtual 169, 3), (13, .ireturn, 1), (14, .aload_n 0, 1), (15, .getfield 129, 3), (18, .iload_n 2, 1), (19, .if_icmp .lt 11, 3), (22, .aload_n 0, 1), (23, .getfield 129, 3), (26, .iload_n 3, 1), (27, .if_icmp .le 9, 3), (30, .aload_n 0, 1), (31, .iconst 4, 1), (32, .invokevirtual 169, 3), (35, .ireturn, 1), (36, .aload_n 0, 1), (37, .getfield 7, 3), (40, .iload_n 1, 1), (41, .aload_n 0, 1), (42, .getfield 129, 3), (45, .iastore, 1), (46, .aload_n 0, 1), (47, .invokevirtual 163, 3), (50, .iconst 1, 1), (51, .ireturn, 1)]
theorem dc_X12_number : DEC prog_14_method_32_code pc_X12_number dl_X12_number := DEC_of (by decide +kernel)
abbrev rm_X12_number : Room := { frames := 2, cells := 0, slots := 0, locals := 42 }
set_option maxRecDepth 20000 in
theorem sa_X12_number (l : Launch) : SNDALL l prog_14_method_32_code "GivenUpModel" 4 (some .boolean) rm_X12_number P_X12_number pc_X12_number := fun p e s m args below meth c cells slots Q D dA ad A RR hC hR => by
  have hM := RTX_room (R := rm_X12_number) hR
  exact ⟨st_aload_n hC (n := 0) (k := 0) (dc_X12_number 0 (0, .aload_n 0, 1) rfl rfl) rfl rfl,
    st_getI hC (n := 1) (k := 12) (j := 12) (dc_X12_number 1 (1, .getfield 132, 3) rfl rfl) rfl clf_12 (by decide) rfl wd_1564,
    st_iconst hC (n := 2) (x := 3) (dc_X12_number 2 (4, .iconst 3, 1) rfl rfl) rfl (by decide),
    st_iceq hC (n := 3) (dc_X12_number 3 (5, .if_icmp .eq 9, 3) rfl rfl) rfl (by decide),
    st_aload_n hC (n := 4) (k := 0) (dc_X12_number 4 (8, .aload_n 0, 1) rfl rfl) rfl rfl,
    st_iconst hC (n := 5) (x := 2) (dc_X12_number 5 (9, .iconst 2, 1) rfl rfl) rfl (by decide),
    st_callV hC (n := 6) (k := 12) (na := 1) (con_X12_fails l) (dc_X12_number 6 (10, .invokevirtual 169, 3) rfl rfl) rfl wd_1781 wd_160 (by decide) ⟨rfl, rfl, by decide, by decide⟩ hM wd_1778 wd_1780 wd_62 clf_12,
    st_zret hC (n := 7) hR (dc_X12_number 7 (13, .ireturn, 1) rfl rfl),
    st_aload_n hC (n := 8) (k := 0) (dc_X12_number 8 (14, .aload_n 0, 1) rfl rfl) rfl rfl,
    st_getI hC (n := 9) (k := 12) (j := 15) (dc_X12_number 9 (15, .getfield 129, 3) rfl rfl) rfl clf_12 (by decide) rfl wd_1567,
    st_iload_n hC (n := 10) (k := 2) (dc_X12_number 10 (18, .iload_n 2, 1) rfl rfl) rfl rfl,
    st_iclt hC (n := 11) (dc_X12_number 11 (19, .if_icmp .lt 11, 3) rfl rfl) rfl (by decide),
    st_aload_n hC (n := 12) (k := 0) (dc_X12_number 12 (22, .aload_n 0, 1) rfl rfl) rfl rfl,
    st_getI hC (n := 13) (k := 12) (j := 15) (dc_X12_number 13 (23, .getfield 129, 3) rfl rfl) rfl clf_12 (by decide) rfl wd_1567,
    st_iload_n hC (n := 14) (k := 3) (dc_X12_number 14 (26, .iload_n 3, 1) rfl rfl) rfl rfl,
    st_icle hC (n := 15) (dc_X12_number 15 (27, .if_icmp .le 9, 3) rfl rfl) rfl (by decide),
    st_aload_n hC (n := 16) (k := 0) (dc_X12_number 16 (30, .aload_n 0, 1) rfl rfl) rfl rfl,
    st_iconst hC (n := 17) (x := 4) (dc_X12_number 17 (31, .iconst 4, 1) rfl rfl) rfl (by decide),
    st_callV hC (n := 18) (k := 12) (na := 1) (con_X12_fails l) (dc_X12_number 18 (32, .invokevirtual 169, 3) rfl rfl) rfl wd_1781 wd_160 (by decide) ⟨rfl, rfl, by decide, by decide⟩ hM wd_1778 wd_1780 wd_62 clf_12,
    st_zret hC (n := 19) hR (dc_X12_number 19 (35, .ireturn, 1) rfl rfl),
    st_aload_n hC (n := 20) (k := 0) (dc_X12_number 20 (36, .aload_n 0, 1) rfl rfl) rfl rfl,
    st_getR hC (n := 21) (k := 12) (j := 0) (dc_X12_number 21 (37, .getfield 7, 3) rfl rfl) rfl clf_12 (by decide) rfl (by decide) wd_1552,
    st_iload_n hC (n := 22) (k := 1) (dc_X12_number 22 (40, .iload_n 1, 1) rfl rfl) rfl rfl,
    st_aload_n hC (n := 23) (k := 0) (dc_X12_number 23 (41, .aload_n 0, 1) rfl rfl) rfl rfl,
    st_getI hC (n := 24) (k := 12) (j := 15) (dc_X12_number 24 (42, .getfield 129, 3) rfl rfl) rfl clf_12 (by decide) rfl wd_1567,
    st_iast hC (n := 25) (dc_X12_number 25 (45, .iastore, 1) rfl rfl) rfl,
    st_aload_n hC (n := 26) (k := 0) (dc_X12_number 26 (46, .aload_n 0, 1) rfl rfl) rfl rfl,
    st_callV hC (n := 27) (k := 12) (na := 0) (con_X12_ahead l) (dc_X12_number 27 (47, .invokevirtual 163, 3) rfl rfl) rfl wd_1742 wd_160 (by decide) ⟨rfl, rfl, by decide, by decide⟩ hM wd_1739 wd_1741 wd_55 clf_12,
    st_iconst hC (n := 28) (x := 1) (dc_X12_number 28 (50, .iconst 1, 1) rfl rfl) rfl (by decide),
    st_zret hC (n := 29) hR (dc_X12_number 29 (51, .ireturn, 1) rfl rfl), trivial⟩
set_option maxRecDepth 8000 in
theorem vc_X12_number : VC P_X12_number 4 Pre_X12_number Fn_X12_number := by
  rintro mm as hom hoa ⟨hT, t, lo, hi, ht, rfl⟩
  refine ⟨Nat.le_of_ble_eq_true rfl, fun X h => ?_⟩
  have et : (nI t).toNatClampNeg = t := nI_clamp (by omega)
  have hF : Fn_X12_number mm [vR 12 0, vI (nI t), vI lo, vI hi] = (some (vI (bI ((pNu mm t lo hi).1 = true))), (pNu mm t lo hi).2) := by
    show (some (vI (bI ((pNu mm (nI t).toNatClampNeg lo hi).1 = true))), (pNu mm (nI t).toNatClampNeg lo hi).2) = _
    rw [et]
  rw [hF] at h
  show X 0 [some (vR 12 0), some (vI (nI t)), some (vI lo), some (vI hi)] [] mm
  refine h (fun _ => false) 3000 0 _ _ _ ?_
  refine br_c (fun b3 => ?_) (fun b3 => ?_)
  · -- 3: mm.1 12 0 12 = 3 taken
    replace b3 : mm.1 12 0 12 = 3 := b3
    refine br_c (fun b11 => ?_) (fun b11 => ?_)
    · -- 11: mm.1 12 0 15 < lo taken
      replace b11 : mm.1 12 0 15 < lo := b11
      refine And.intro (show Pre_X12_fails mm [vR 12 0, vI 4] from ⟨_, rfl⟩) ?_
      refine And.intro (Or.inl rfl) ?_
      show ((some (vI 0) : Option MV), faM mm 4) = _
      exact PR_f ((if_pos b3).trans (if_pos (Or.inl b11)))
    · -- 11: mm.1 12 0 15 < lo on
      replace b11 : ¬ (mm.1 12 0 15 < lo) := b11
      refine br_c (fun b15 => ?_) (fun b15 => ?_)
      · -- 15: mm.1 12 0 15 ≤ hi taken
        replace b15 : mm.1 12 0 15 ≤ hi := b15
        refine And.intro (show inb (nI t) (alen 54) = true from (inb_o 3060 rfl rfl rfl (by omega))) ?_
        refine And.intro (show Pre_X12_ahead (mRow mm 54 0 (upd (mm.1 54 0) (nI t).toNatClampNeg (mm.1 12 0 15))) [vR 12 0] from (TXo_pre (by repeat' (first | assumption | refine TXo_ah ?_ | refine TXo_fa ?_ | refine TXo_54 ?_ | refine TXo_55 ?_ | refine TXo_pr ?_)))) ?_
        refine And.intro (Or.inr rfl) ?_
        show ((some (vI 1) : Option MV), ahM (mRow mm 54 0 (upd (mm.1 54 0) (nI t).toNatClampNeg (mm.1 12 0 15)))) = _
        rw [et]
        exact PR_t ((if_pos b3).trans (if_neg (fun z => z.elim b11 (fun z => Int32.not_le.mpr z b15))))
      · -- 15: mm.1 12 0 15 ≤ hi on
        replace b15 : ¬ (mm.1 12 0 15 ≤ hi) := b15
        refine And.intro (show Pre_X12_fails mm [vR 12 0, vI 4] from ⟨_, rfl⟩) ?_
        refine And.intro (Or.inl rfl) ?_
        show ((some (vI 0) : Option MV), faM mm 4) = _
        exact PR_f ((if_pos b3).trans (if_pos (Or.inr (Int32.not_le.mp b15))))
  · -- 3: mm.1 12 0 12 = 3 on
    replace b3 : ¬ (mm.1 12 0 12 = 3) := b3
    refine And.intro (show Pre_X12_fails mm [vR 12 0, vI 2] from ⟨_, rfl⟩) ?_
    refine And.intro (Or.inl rfl) ?_
    show ((some (vI 0) : Option MV), faM mm 2) = _
    exact PR_f (if_neg b3)
theorem con_X12_number (l : Launch) : CON l y_X12_number prog_14_method_32_code 4 (some .boolean) rm_X12_number Pre_X12_number Fn_X12_number := CON_of (by decide) rfl rfl (sa_X12_number l) vc_X12_number
/-- a NAME stands here; its number; where it is told -/
abbrev nmP (m : MM) : Prop := m.1 12 0 12 = 2 ∧ txe m - txs m ≤ 8 ∧ kyA m = -1
def nvL (T : Nat → Int32) (S s : Nat) : Nat → Int64
  | 0 => 0
  | n + 1 => (nvL T S s n <<< ((8 : Int32).toInt64 &&& 63)) ||| (btF T S (s + n)).toInt64
def nmV (m : MM) : Int64 := nvL (m.1 60 0) (txS m) (txs m) (txe m - txs m)
def fhA (m : MM) (b c : Nat) : Int32 := fsI (fun k => m.2.1 55 0 (b + k) = nmV m) c 0

--tpl ⟨(by repeat' (first | assumption | refine TXo_ah ?_ | refine TXo_fa ?_ | refine TXo_54 ?_ | refine TXo_55 ?_ | refine TXo_pr ?_)), rfl⟩ || bI (nmP {m})
def Pre_X12_isName : PreT := fun m as => TXo m ∧ as = [vR 12 0, vR 72 1]
def Fn_X12_isName : FnT := fun m _ => (some (vI (bI (nmP m))), m)
abbrev y_X12_isName : MethodName := ⟨"GivenUpModel", "isName", "(Ljava/lang/String;)Z"⟩
def P_X12_isName : List StpT := [s_aload 0, s_getI 12 12, s_ic (2), s_icne 18, s_aload 0, s_getI 12 14, s_aload 0, s_getI 12 13, s_isub, s_ic (8), s_icgt 18, s_aload 0, s_aload 1, s_callV 12 1 Pre_X12_inWords Fn_X12_inWords, s_ic (-1), s_icne 18, s_ic (1), s_goto 19, s_ic (0), s_zret]
def pc_X12_isName : Nat → Nat := fun i => [0, 1, 4, 5, 8, 9, 12, 13, 16, 17, 19, 22, 23, 24, 27, 28, 31, 32, 35, 36].getD i 0
def dl_X12_isName : List (Nat × Instr × Nat) := [(0, .aload_n 0, 1), (1, .getfield 132, 3), (4, .iconst 2, 1), (5, .if_icmp .ne 30, 3), (8, .aload_n 0, 1), (9, .getfield 120, 3), (12, .aload_n 0, 1), (13, .getfield 126, 3), (16, .isub, 1), (17, .bipush 8, 2), (19, .if_icmp .gt 16, 3), (22, .aload_n 0, 1), (23, .aload_n 1, 1), (24, .invokevirtual 172, 3), (27, .iconst (-1), 1), (28, .if_icmp .ne 7, 3), (31, .iconst 1, 1), (32, .goto 4, 3), (35, .iconst 0, 1), (36, .ireturn, 1)]
theorem dc_X12_isName : DEC prog_14_method_33_code pc_X12_isName dl_X12_isName := DEC_of (by decide +kernel)
abbrev rm_X12_isName : Room := { frames := 6, cells := 0, slots := 0, locals := 132 }
set_option maxRecDepth 20000 in
theorem sa_X12_isName (l : Launch) : SNDALL l prog_14_method_33_code "GivenUpModel" 2 (some .boolean) rm_X12_isName P_X12_isName pc_X12_isName := fun p e s m args below meth c cells slots Q D dA ad A RR hC hR => by
  have hM := RTX_room (R := rm_X12_isName) hR
  exact ⟨st_aload_n hC (n := 0) (k := 0) (dc_X12_isName 0 (0, .aload_n 0, 1) rfl rfl) rfl rfl,
    st_getI hC (n := 1) (k := 12) (j := 12) (dc_X12_isName 1 (1, .getfield 132, 3) rfl rfl) rfl clf_12 (by decide) rfl wd_1564,
    st_iconst hC (n := 2) (x := 2) (dc_X12_isName 2 (4, .iconst 2, 1) rfl rfl) rfl (by decide),
    st_icne hC (n := 3) (dc_X12_isName 3 (5, .if_icmp .ne 30, 3) rfl rfl) rfl (by decide),
    st_aload_n hC (n := 4) (k := 0) (dc_X12_isName 4 (8, .aload_n 0, 1) rfl rfl) rfl rfl,
    st_getI hC (n := 5) (k := 12) (j := 14) (dc_X12_isName 5 (9, .getfield 120, 3) rfl rfl) rfl clf_12 (by decide) rfl wd_1566,
    st_aload_n hC (n := 6) (k := 0) (dc_X12_isName 6 (12, .aload_n 0, 1) rfl rfl) rfl rfl,
    st_getI hC (n := 7) (k := 12) (j := 13) (dc_X12_isName 7 (13, .getfield 126, 3) rfl rfl) rfl clf_12 (by decide) rfl wd_1565,
    st_isub hC (n := 8) (dc_X12_isName 8 (16, .isub, 1) rfl rfl) rfl,
    st_bipush hC (n := 9) (x := 8) (dc_X12_isName 9 (17, .bipush 8, 2) rfl rfl) rfl (by decide),
    st_icgt hC (n := 10) (dc_X12_isName 10 (19, .if_icmp .gt 16, 3) rfl rfl) rfl (by decide),
    st_aload_n hC (n := 11) (k := 0) (dc_X12_isName 11 (22, .aload_n 0, 1) rfl rfl) rfl rfl,
    st_aload_n hC (n := 12) (k := 1) (dc_X12_isName 12 (23, .aload_n 1, 1) rfl rfl) rfl rfl,
    st_callV hC (n := 13) (k := 12) (na := 1) (con_X12_inWords l) (dc_X12_isName 13 (24, .invokevirtual 172, 3) rfl rfl) rfl wd_1767 wd_160 (by decide) ⟨rfl, rfl, by decide, by decide⟩ hM wd_1764 wd_1766 wd_59 clf_12,
    st_iconst hC (n := 14) (x := (-1)) (dc_X12_isName 14 (27, .iconst (-1), 1) rfl rfl) rfl (by decide),
    st_icne hC (n := 15) (dc_X12_isName 15 (28, .if_icmp .ne 7, 3) rfl rfl) rfl (by decide),
    st_iconst hC (n := 16) (x := 1) (dc_X12_isName 16 (31, .iconst 1, 1) rfl rfl) rfl (by decide),
    st_goto hC (n := 17) (dc_X12_isName 17 (32, .goto 4, 3) rfl rfl) (by decide),
    st_iconst hC (n := 18) (x := 0) (dc_X12_isName 18 (35, .iconst 0, 1) rfl rfl) rfl (by decide),
    st_zret hC (n := 19) hR (dc_X12_isName 19 (36, .ireturn, 1) rfl rfl), trivial⟩
set_option maxRecDepth 8000 in
theorem vc_X12_isName : VC P_X12_isName 2 Pre_X12_isName Fn_X12_isName := by
  rintro mm as hom hoa ⟨hTX, rfl⟩
  refine ⟨Nat.le_of_ble_eq_true rfl, fun X h => ?_⟩
  obtain ⟨S, s, e, hS, hS9, hs, he, hse, heS⟩ := id hTX
  have es : (nI s).toNatClampNeg = s := nI_clamp (by omega)
  have ee : (nI e).toNatClampNeg = e := nI_clamp (by omega)
  have hd : mm.1 12 0 14 - mm.1 12 0 13 ≤ 8 ↔ txe mm - txs mm ≤ 8 := by
    unfold txe txs
    rw [hs, he, nI_sb hse, es, ee, show (8 : Int32) = nI 8 from rfl, nI_leI (by omega) (by omega)]
  show X 0 [some (vR 12 0), some (vR 72 1)] [] mm
  refine h (fun _ => false) 3000 0 _ _ _ ?_
  refine brn_c (fun b3 => ?_) (fun b3 => ?_)
  · -- 3: mm.1 12 0 12 = 2 taken
    replace b3 : ¬ (mm.1 12 0 12 = 2) := b3
    (try simp only [hd] at b3)
    refine And.intro (Or.inl rfl) ?_
    show ((some (vI 0) : Option MV), mm) = _
    (try simp only [hd])
    exact ret_f (fun z => b3 z.1)
  · -- 3: mm.1 12 0 12 = 2 on
    replace b3 : mm.1 12 0 12 = 2 := b3
    (try simp only [hd] at b3)
    refine br_c (fun b10 => ?_) (fun b10 => ?_)
    · -- 10: 8 < (mm.1 12 0 14) - (mm.1 12 0 13) taken
      replace b10 : 8 < (mm.1 12 0 14) - (mm.1 12 0 13) := b10
      (try simp only [hd] at b10)
      refine And.intro (Or.inl rfl) ?_
      show ((some (vI 0) : Option MV), mm) = _
      (try simp only [hd])
      exact ret_f (fun z => Int32.not_le.mpr b10 (hd.mpr z.2.1))
    · -- 10: 8 < (mm.1 12 0 14) - (mm.1 12 0 13) on
      replace b10 : ¬ (8 < (mm.1 12 0 14) - (mm.1 12 0 13)) := b10
      (try simp only [hd] at b10)
      refine And.intro (show Pre_X12_inWords mm [vR 12 0, vR 72 1] from ⟨(by repeat' (first | assumption | refine TXo_ah ?_ | refine TXo_fa ?_ | refine TXo_54 ?_ | refine TXo_55 ?_ | refine TXo_pr ?_)), rfl⟩) ?_
      refine brn_c (fun b15 => ?_) (fun b15 => ?_)
      · -- 15: kyA mm = (-1) taken
        replace b15 : ¬ (kyA mm = (-1)) := b15
        (try simp only [hd] at b15)
        refine And.intro (Or.inl rfl) ?_
        show ((some (vI 0) : Option MV), mm) = _
        (try simp only [hd])
        exact ret_f (fun z => b15 z.2.2)
      · -- 15: kyA mm = (-1) on
        replace b15 : kyA mm = (-1) := b15
        (try simp only [hd] at b15)
        refine And.intro (Or.inr rfl) ?_
        show ((some (vI 1) : Option MV), mm) = _
        (try simp only [hd])
        exact ret_t ⟨b3, hd.mp (Int32.not_lt.mp b10), b15⟩
theorem con_X12_isName (l : Launch) : CON l y_X12_isName prog_14_method_33_code 2 (some .boolean) rm_X12_isName Pre_X12_isName Fn_X12_isName := CON_of (by decide) rfl rfl (sa_X12_isName l) vc_X12_isName
--tpl ⟨(by repeat' (first | assumption | refine TXo_ah ?_ | refine TXo_fa ?_ | refine TXo_54 ?_ | refine TXo_55 ?_ | refine TXo_pr ?_)), rfl⟩ || L nmV {m}
def Pre_X12_nameHere : PreT := fun m as => TXo m ∧ as = [vR 12 0]
def Fn_X12_nameHere : FnT := fun m _ => (some (vL (nmV m)), m)
abbrev y_X12_nameHere : MethodName := ⟨"GivenUpModel", "nameHere", "()J"⟩
def P_X12_nameHere : List StpT := [s_lc 0, s_lstore 1, s_aload 0, s_getI 12 13, s_istore 3, s_iload 3, s_aload 0, s_getI 12 14, s_icge 20, s_lload 1, s_ic (8), s_lshl, s_aload 0, s_iload 3, s_callV 12 1 Pre_X12_byteAt Fn_X12_byteAt, s_i2l, s_lor, s_lstore 1, s_iinc 3 (1), s_goto 5, s_lload 1, s_lret]
def pc_X12_nameHere : Nat → Nat := fun i => [0, 1, 2, 3, 6, 7, 8, 9, 12, 15, 16, 18, 19, 20, 21, 24, 25, 26, 27, 30, 33, 34].getD i 0
def dl_X12_nameHere : List (Nat × Instr × Nat) := [(0, .lconst 0, 1), (1, .lstore_n 1, 1), (2, .aload_n 0, 1), (3, .getfield 126, 3), (6, .istore_n 3, 1), (7, .iload_n 3, 1), (8, .aload_n 0, 1), (9, .getfield 120, 3), (12, .if_icmp .ge 21, 3), (15, .lload_n 1, 1), (16, .bipush 8, 2), (18, .lshl, 1), (19, .aload_n 0, 1), (20, .iload_n 3, 1), (21, .invokevirtual 123, 3), (24, .i2l, 1), (25, .lor, 1), (26, .lstore_n 1, 1), (27, .iinc 3 1, 3), (30, .goto (-23), 3), (33, .lload_n 1, 1), (34, .lreturn, 1)]
theorem dc_X12_nameHere : DEC prog_14_method_34_code pc_X12_nameHere dl_X12_nameHere := DEC_of (by decide +kernel)
abbrev rm_X12_nameHere : Room := { frames := 1, cells := 0, slots := 0, locals := 21 }
set_option maxRecDepth 20000 in
theorem sa_X12_nameHere (l : Launch) : SNDALL l prog_14_method_34_code "GivenUpModel" 4 (some .long) rm_X12_nameHere P_X12_nameHere pc_X12_nameHere := fun p e s m args below meth c cells slots Q D dA ad A RR hC hR => by
  have hM := RTX_room (R := rm_X12_nameHere) hR
  exact ⟨st_lconst hC (n := 0) (x := 0) (dc_X12_nameHere 0 (0, .lconst 0, 1) rfl rfl) rfl (by decide),
    st_lstore_n hC (n := 1) (k := 1) (dc_X12_nameHere 1 (1, .lstore_n 1, 1) rfl rfl) rfl rfl (by decide),
    st_aload_n hC (n := 2) (k := 0) (dc_X12_nameHere 2 (2, .aload_n 0, 1) rfl rfl) rfl rfl,
    st_getI hC (n := 3) (k := 12) (j := 13) (dc_X12_nameHere 3 (3, .getfield 126, 3) rfl rfl) rfl clf_12 (by decide) rfl wd_1565,
    st_istore_n hC (n := 4) (k := 3) (dc_X12_nameHere 4 (6, .istore_n 3, 1) rfl rfl) rfl rfl (by decide),
    st_iload_n hC (n := 5) (k := 3) (dc_X12_nameHere 5 (7, .iload_n 3, 1) rfl rfl) rfl rfl,
    st_aload_n hC (n := 6) (k := 0) (dc_X12_nameHere 6 (8, .aload_n 0, 1) rfl rfl) rfl rfl,
    st_getI hC (n := 7) (k := 12) (j := 14) (dc_X12_nameHere 7 (9, .getfield 120, 3) rfl rfl) rfl clf_12 (by decide) rfl wd_1566,
    st_icge hC (n := 8) (dc_X12_nameHere 8 (12, .if_icmp .ge 21, 3) rfl rfl) rfl (by decide),
    st_lload_n hC (n := 9) (k := 1) (dc_X12_nameHere 9 (15, .lload_n 1, 1) rfl rfl) rfl rfl,
    st_bipush hC (n := 10) (x := 8) (dc_X12_nameHere 10 (16, .bipush 8, 2) rfl rfl) rfl (by decide),
    st_lshl hC (n := 11) (dc_X12_nameHere 11 (18, .lshl, 1) rfl rfl) rfl,
    st_aload_n hC (n := 12) (k := 0) (dc_X12_nameHere 12 (19, .aload_n 0, 1) rfl rfl) rfl rfl,
    st_iload_n hC (n := 13) (k := 3) (dc_X12_nameHere 13 (20, .iload_n 3, 1) rfl rfl) rfl rfl,
    st_callV hC (n := 14) (k := 12) (na := 1) (con_X12_byteAt l) (dc_X12_nameHere 14 (21, .invokevirtual 123, 3) rfl rfl) rfl wd_1746 wd_160 (by decide) ⟨rfl, rfl, by decide, by decide⟩ hM wd_1743 wd_1745 wd_56 clf_12,
    st_i2l hC (n := 15) (dc_X12_nameHere 15 (24, .i2l, 1) rfl rfl) rfl,
    st_lor hC (n := 16) (dc_X12_nameHere 16 (25, .lor, 1) rfl rfl) rfl,
    st_lstore_n hC (n := 17) (k := 1) (dc_X12_nameHere 17 (26, .lstore_n 1, 1) rfl rfl) rfl rfl (by decide),
    st_iinc hC (n := 18) (x := 1) (dc_X12_nameHere 18 (27, .iinc 3 1, 3) rfl rfl) rfl (by decide) (by decide),
    st_goto hC (n := 19) (dc_X12_nameHere 19 (30, .goto (-23), 3) rfl rfl) (by decide),
    st_lload_n hC (n := 20) (k := 1) (dc_X12_nameHere 20 (33, .lload_n 1, 1) rfl rfl) rfl rfl,
    st_lret hC (n := 21) hR (dc_X12_nameHere 21 (34, .lreturn, 1) rfl rfl), trivial⟩
set_option maxRecDepth 8000 in
theorem vc_X12_nameHere : VC P_X12_nameHere 4 Pre_X12_nameHere Fn_X12_nameHere := by
  rintro mm as hom hoa ⟨⟨S, s, e, hS, hS9, hs, he, hse, heS⟩, rfl⟩
  refine ⟨Nat.le_of_ble_eq_true rfl, fun X h => ?_⟩
  have hSn : (mm.1 12 0 11).toNatClampNeg = S := by rw [hS]; exact nI_clamp (by omega)
  obtain ⟨T, hT⟩ : ∃ T, mm.1 60 0 = T := ⟨_, rfl⟩
  have hF : Fn_X12_nameHere mm [vR 12 0] = (some (vL (nvL T S s (e - s))), mm) := by
    show (some (vL (nmV mm)), mm) = _
    unfold nmV txS txs txe
    rw [hT, hSn, hs, he, nI_clamp (by omega), nI_clamp (by omega)]
  rw [hF] at h
  have loop : ∀ n, n ≤ e - s → X 5 [some (vR 12 0), some (vL (nvL T S s n)), none, some (vI (nI (s + n)))] [] mm := by
    refine up_ind (e - s) ?_ (fun n hn ih => ?_)
    ·
      show X 5 [some (vR 12 0), some (vL (nvL T S s (e - s))), none, some (vI (nI (s + (e - s))))] [] mm
      refine h (fun _ => false) 3000 5 _ _ _ ?_
      refine br_t (by show mm.1 12 0 14 ≤ _; rw [he]; exact nI_le (by omega) (by omega)) ?_
      show ((some (vL (nvL T S s (e - s))) : Option MV), mm) = _
      exact rfl
    · have ei : (nI (s + n)).toNatClampNeg = s + n := nI_clamp (by omega)
      show X 5 [some (vR 12 0), some (vL (nvL T S s n)), none, some (vI (nI (s + n)))] [] mm
      refine h (fun i => Nat.beq i 5) 3000 5 _ _ _ ?_
      refine br_f (by show ¬ mm.1 12 0 14 ≤ _; rw [he]; exact nI_ge (by omega) (by omega)) ?_
      refine And.intro (show Pre_X12_byteAt mm [vR 12 0, vI (nI (s + n))] from ⟨S, s + n, hS, hS9, by omega, rfl⟩) ?_
      show X 5 [some (vR 12 0), some (vL (((nvL T S s n) <<< ((8 : Int32).toInt64 &&& 63)) ||| ((btF (mm.1 60 0) (mm.1 12 0 11).toNatClampNeg (nI (s + n)).toNatClampNeg).toInt64))), none, some (vI ((nI (s + n)) + 1))] [] mm
      rw [hT, hSn, ei, nI_1]
      exact ih
  show X 0 [some (vR 12 0), none, none, none] [] mm
  refine h (fun i => Nat.beq i 5) 3000 0 _ _ _ ?_
  show X 5 [some (vR 12 0), some (vL 0), none, some (vI (mm.1 12 0 13))] [] mm
  rw [hs]
  exact loop 0 (by omega)
theorem con_X12_nameHere (l : Launch) : CON l y_X12_nameHere prog_14_method_34_code 4 (some .long) rm_X12_nameHere Pre_X12_nameHere Fn_X12_nameHere := CON_of (by decide) rfl rfl (sa_X12_nameHere l) vc_X12_nameHere
--tpl ⟨(by repeat' (first | assumption | refine TXo_ah ?_ | refine TXo_fa ?_ | refine TXo_54 ?_ | refine TXo_55 ?_ | refine TXo_pr ?_)), {1N}, {2N}, by omega, rfl⟩ || fhA {m} {1n} {2n}
def Pre_X12_findHere : PreT := fun m as => TXo m ∧ ∃ b c : Nat, b + c ≤ 120 ∧ as = [vR 12 0, vI (nI b), vI (nI c)]
def Fn_X12_findHere : FnT := fun m as => match as with
  | [_, Sum.inl b, Sum.inl c] => (some (vI (fhA m b.toNatClampNeg c.toNatClampNeg)), m)
  | _ => (none, m)
abbrev y_X12_findHere : MethodName := ⟨"GivenUpModel", "findHere", "(II)I"⟩
def P_X12_findHere : List StpT := [s_ic (0), s_istore 3, s_iload 3, s_iload 2, s_icge 19, s_aload 0, s_getR 12 1 55, s_iload 1, s_iload 3, s_iadd, s_lald, s_aload 0, s_callV 12 0 Pre_X12_nameHere Fn_X12_nameHere, s_lcmp, s_ifne 17, s_iload 3, s_iret, s_iinc 3 (1), s_goto 2, s_ic (-1), s_iret]
def pc_X12_findHere : Nat → Nat := fun i => [0, 1, 2, 3, 4, 7, 8, 11, 12, 13, 14, 15, 16, 19, 20, 23, 24, 25, 28, 31, 32].getD i 0
def dl_X12_findHere : List (Nat × Instr × Nat) := [(0, .iconst 0, 1), (1, .istore_n 3, 1), (2, .iload_n 3, 1), (3, .iload_n 2, 1), (4, .if_icmp .ge 27, 3), (7, .aload_n 0, 1), (8, .getfield 13, 3), (11, .iload_n 1, 1), (12, .iload_n 3, 1), (13, .iadd, 1), (14, .laload, 1), (15, .aload_n 0, 1), (16, .invokevirtual 176, 3), (19, .lcmp, 1), (20, .ifCond .ne 5, 3), (23, .iload_n 3, 1), (24, .ireturn, 1), (25, .iinc 3 1, 3), (28, .goto (-26), 3), (31, .iconst (-1), 1), (32, .ireturn, 1)]
theorem dc_X12_findHere : DEC prog_14_method_35_code pc_X12_findHere dl_X12_findHere := DEC_of (by decide +kernel)
abbrev rm_X12_findHere : Room := { frames := 2, cells := 0, slots := 0, locals := 44 }
set_option maxRecDepth 20000 in
theorem sa_X12_findHere (l : Launch) : SNDALL l prog_14_method_35_code "GivenUpModel" 4 (some .int) rm_X12_findHere P_X12_findHere pc_X12_findHere := fun p e s m args below meth c cells slots Q D dA ad A RR hC hR => by
  have hM := RTX_room (R := rm_X12_findHere) hR
  exact ⟨st_iconst hC (n := 0) (x := 0) (dc_X12_findHere 0 (0, .iconst 0, 1) rfl rfl) rfl (by decide),
    st_istore_n hC (n := 1) (k := 3) (dc_X12_findHere 1 (1, .istore_n 3, 1) rfl rfl) rfl rfl (by decide),
    st_iload_n hC (n := 2) (k := 3) (dc_X12_findHere 2 (2, .iload_n 3, 1) rfl rfl) rfl rfl,
    st_iload_n hC (n := 3) (k := 2) (dc_X12_findHere 3 (3, .iload_n 2, 1) rfl rfl) rfl rfl,
    st_icge hC (n := 4) (dc_X12_findHere 4 (4, .if_icmp .ge 27, 3) rfl rfl) rfl (by decide),
    st_aload_n hC (n := 5) (k := 0) (dc_X12_findHere 5 (7, .aload_n 0, 1) rfl rfl) rfl rfl,
    st_getR hC (n := 6) (k := 12) (j := 1) (dc_X12_findHere 6 (8, .getfield 13, 3) rfl rfl) rfl clf_12 (by decide) rfl (by decide) wd_1553,
    st_iload_n hC (n := 7) (k := 1) (dc_X12_findHere 7 (11, .iload_n 1, 1) rfl rfl) rfl rfl,
    st_iload_n hC (n := 8) (k := 3) (dc_X12_findHere 8 (12, .iload_n 3, 1) rfl rfl) rfl rfl,
    st_iadd hC (n := 9) (dc_X12_findHere 9 (13, .iadd, 1) rfl rfl) rfl,
    st_lald hC (n := 10) (dc_X12_findHere 10 (14, .laload, 1) rfl rfl) rfl,
    st_aload_n hC (n := 11) (k := 0) (dc_X12_findHere 11 (15, .aload_n 0, 1) rfl rfl) rfl rfl,
    st_callV hC (n := 12) (k := 12) (na := 0) (con_X12_nameHere l) (dc_X12_findHere 12 (16, .invokevirtual 176, 3) rfl rfl) rfl wd_1793 wd_160 (by decide) ⟨rfl, rfl, by decide, by decide⟩ hM wd_1790 wd_1792 wd_65 clf_12,
    st_lcmp hC (n := 13) (dc_X12_findHere 13 (19, .lcmp, 1) rfl rfl) rfl,
    st_ifne hC (n := 14) (dc_X12_findHere 14 (20, .ifCond .ne 5, 3) rfl rfl) rfl (by decide),
    st_iload_n hC (n := 15) (k := 3) (dc_X12_findHere 15 (23, .iload_n 3, 1) rfl rfl) rfl rfl,
    st_iret hC (n := 16) hR (dc_X12_findHere 16 (24, .ireturn, 1) rfl rfl),
    st_iinc hC (n := 17) (x := 1) (dc_X12_findHere 17 (25, .iinc 3 1, 3) rfl rfl) rfl (by decide) (by decide),
    st_goto hC (n := 18) (dc_X12_findHere 18 (28, .goto (-26), 3) rfl rfl) (by decide),
    st_iconst hC (n := 19) (x := (-1)) (dc_X12_findHere 19 (31, .iconst (-1), 1) rfl rfl) rfl (by decide),
    st_iret hC (n := 20) hR (dc_X12_findHere 20 (32, .ireturn, 1) rfl rfl), trivial⟩
set_option maxRecDepth 8000 in
theorem vc_X12_findHere : VC P_X12_findHere 4 Pre_X12_findHere Fn_X12_findHere := by
  rintro mm as hom hoa ⟨hTX, b, c, hbc, rfl⟩
  refine ⟨Nat.le_of_ble_eq_true rfl, fun X h => ?_⟩
  have eb : (nI b).toNatClampNeg = b := nI_clamp (by omega)
  have ec : (nI c).toNatClampNeg = c := nI_clamp (by omega)
  obtain ⟨RES, hR⟩ : ∃ RES, RES = fhA mm b c := ⟨_, rfl⟩
  have hF : Fn_X12_findHere mm [vR 12 0, vI (nI b), vI (nI c)] = (some (vI RES), mm) := by
    show (some (vI (fhA mm (nI b).toNatClampNeg (nI c).toNatClampNeg)), mm) = _
    rw [eb, ec, hR]
  rw [hF] at h
  have loop : ∀ k, k ≤ c → fsI (fun k => mm.2.1 55 0 (b + k) = nmV mm) (c - k) k = RES → X 2 [some (vR 12 0), some (vI (nI b)), some (vI (nI c)), some (vI (nI k))] [] mm := by
    refine up_ind c ?_ (fun k hk ih => ?_)
    · intro hr
      rw [Nat.sub_self] at hr
      have hr2 : RES = -1 := hr.symm
      show X 2 [some (vR 12 0), some (vI (nI b)), some (vI (nI c)), some (vI (nI c))] [] mm
      refine h (fun _ => false) 3000 2 _ _ _ ?_
      refine br_t (Int32.le_refl _) ?_
      show ((some (vI (-1)) : Option MV), mm) = _
      rw [hr2]
    · intro hr
      rw [show c - k = (c - (k + 1)) + 1 by omega] at hr
      have ei : (nI b + nI k).toNatClampNeg = b + k := by rw [nI_add]; exact nI_clamp (by omega)
      show X 2 [some (vR 12 0), some (vI (nI b)), some (vI (nI c)), some (vI (nI k))] [] mm
      refine h (fun i => Nat.beq i 2) 3000 2 _ _ _ ?_
      refine br_f (nI_ge (by omega) (by omega)) ?_
      refine And.intro (show inb ((nI b) + (nI k)) (alen 55) = true from (inb_o 120 rfl rfl (show (nI b) + (nI k) = nI (( b) + ( k)) by simp (disch := omega) only [li, pk_mul, nI_add, nI_clamp]) (by omega))) ?_
      refine And.intro (show Pre_X12_nameHere mm [vR 12 0] from ⟨(by repeat' (first | assumption | refine TXo_ah ?_ | refine TXo_fa ?_ | refine TXo_54 ?_ | refine TXo_55 ?_ | refine TXo_pr ?_)), rfl⟩) ?_
      refine brn_c (fun b14 => ?_) (fun b14 => ?_)
      · -- 14: lg_cmp (mm.2.1 55 0 (((nI b) + (nI k)).toNatClampNeg)) (nmV mm) = 0 taken
        replace b14 : ¬ (lg_cmp (mm.2.1 55 0 (((nI b) + (nI k)).toNatClampNeg)) (nmV mm) = 0) := b14
        (try simp only [ei, lg_cmp_eq] at b14)
        show X 2 [some (vR 12 0), some (vI (nI b)), some (vI (nI c)), some (vI ((nI k) + 1))] [] mm
        (try simp only [ei, lg_cmp_eq])
        rw [nI_1]
        rw [fsI_n (P := fun k => mm.2.1 55 0 (b + k) = nmV mm) b14] at hr 
        exact ih hr
      · -- 14: lg_cmp (mm.2.1 55 0 (((nI b) + (nI k)).toNatClampNeg)) (nmV mm) = 0 on
        replace b14 : lg_cmp (mm.2.1 55 0 (((nI b) + (nI k)).toNatClampNeg)) (nmV mm) = 0 := b14
        (try simp only [ei, lg_cmp_eq] at b14)
        show ((some (vI (nI k)) : Option MV), mm) = _
        (try simp only [ei, lg_cmp_eq])
        rw [fsI_y (P := fun k => mm.2.1 55 0 (b + k) = nmV mm) b14] at hr
        rw [hr]
  show X 0 [some (vR 12 0), some (vI (nI b)), some (vI (nI c)), none] [] mm
  refine h (fun i => Nat.beq i 2) 3000 0 _ _ _ ?_
  show X 2 [some (vR 12 0), some (vI (nI b)), some (vI (nI c)), some (vI 0)] [] mm
  exact loop 0 (by omega) hR.symm
theorem con_X12_findHere (l : Launch) : CON l y_X12_findHere prog_14_method_35_code 4 (some .int) rm_X12_findHere Pre_X12_findHere Fn_X12_findHere := CON_of (by decide) rfl rfl (sa_X12_findHere l) vc_X12_findHere
def Pre_X12_fault : PreT := fun _ as => ∃ x : Int32, as = [vR 12 0, vI x]
def Fn_X12_fault : FnT := fun m as => match as with
  | [_, Sum.inl x] => (some (vI (if x = 0 then m.1 12 0 16 else if x = 1 then m.1 12 0 17 else -1)), m)
  | _ => (none, m)
abbrev y_X12_fault : MethodName := ⟨"GivenUpModel", "fault", "(I)I"⟩
def P_X12_fault : List StpT := [s_iload 1, s_ifne 5, s_aload 0, s_getI 12 16, s_goto 12, s_iload 1, s_ic (1), s_icne 11, s_aload 0, s_getI 12 17, s_goto 12, s_ic (-1), s_iret]
def pc_X12_fault : Nat → Nat := fun i => [0, 1, 4, 5, 8, 11, 12, 13, 16, 17, 20, 23, 24].getD i 0
def dl_X12_fault : List (Nat × Instr × Nat) := [(0, .iload_n 1, 1), (1, .ifCond .ne 10, 3), (4, .aload_n 0, 1), (5, .getfield 37, 3), (8, .goto 16, 3), (11, .iload_n 1, 1), (12, .iconst 1, 1), (13, .if_icmp .ne 10, 3), (16, .aload_n 0, 1), (17, .getfield 41, 3), (20, .goto 4, 3), (23, .iconst (-1), 1), (24, .ireturn, 1)]
theorem dc_X12_fault : DEC prog_14_method_36_code pc_X12_fault dl_X12_fault := DEC_of (by decide +kernel)
abbrev rm_X12_fault : Room := { frames := 0, cells := 0, slots := 0, locals := 0 }
set_option maxRecDepth 20000 in
theorem sa_X12_fault (l : Launch) : SNDALL l prog_14_method_36_code "GivenUpModel" 2 (some .int) rm_X12_fault P_X12_fault pc_X12_fault := fun p e s m args below meth c cells slots Q D dA ad A RR hC hR => by
  have hM := RTX_room (R := rm_X12_fault) hR
  exact ⟨st_iload_n hC (n := 0) (k := 1) (dc_X12_fault 0 (0, .iload_n 1, 1) rfl rfl) rfl rfl,
    st_ifne hC (n := 1) (dc_X12_fault 1 (1, .ifCond .ne 10, 3) rfl rfl) rfl (by decide),
    st_aload_n hC (n := 2) (k := 0) (dc_X12_fault 2 (4, .aload_n 0, 1) rfl rfl) rfl rfl,
    st_getI hC (n := 3) (k := 12) (j := 16) (dc_X12_fault 3 (5, .getfield 37, 3) rfl rfl) rfl clf_12 (by decide) rfl wd_1568,
    st_goto hC (n := 4) (dc_X12_fault 4 (8, .goto 16, 3) rfl rfl) (by decide),
    st_iload_n hC (n := 5) (k := 1) (dc_X12_fault 5 (11, .iload_n 1, 1) rfl rfl) rfl rfl,
    st_iconst hC (n := 6) (x := 1) (dc_X12_fault 6 (12, .iconst 1, 1) rfl rfl) rfl (by decide),
    st_icne hC (n := 7) (dc_X12_fault 7 (13, .if_icmp .ne 10, 3) rfl rfl) rfl (by decide),
    st_aload_n hC (n := 8) (k := 0) (dc_X12_fault 8 (16, .aload_n 0, 1) rfl rfl) rfl rfl,
    st_getI hC (n := 9) (k := 12) (j := 17) (dc_X12_fault 9 (17, .getfield 41, 3) rfl rfl) rfl clf_12 (by decide) rfl wd_1569,
    st_goto hC (n := 10) (dc_X12_fault 10 (20, .goto 4, 3) rfl rfl) (by decide),
    st_iconst hC (n := 11) (x := (-1)) (dc_X12_fault 11 (23, .iconst (-1), 1) rfl rfl) rfl (by decide),
    st_iret hC (n := 12) hR (dc_X12_fault 12 (24, .ireturn, 1) rfl rfl), trivial⟩
set_option maxRecDepth 8000 in
theorem vc_X12_fault : VC P_X12_fault 2 Pre_X12_fault Fn_X12_fault := by
  rintro mm as hom hoa ⟨x, rfl⟩
  refine ⟨Nat.le_of_ble_eq_true rfl, fun X h => ?_⟩
  have hF : Fn_X12_fault mm [vR 12 0, vI x] = (some (vI (if x = 0 then mm.1 12 0 16 else if x = 1 then mm.1 12 0 17 else -1)), mm) := rfl
  rw [hF] at h
  show X 0 [some (vR 12 0), some (vI x)] [] mm
  refine h (fun _ => false) 3000 0 _ _ _ ?_
  refine brn_c (fun b1 => ?_) (fun b1 => ?_)
  · -- 1: x = 0 taken
    replace b1 : ¬ (x = 0) := b1
    refine brn_c (fun b7 => ?_) (fun b7 => ?_)
    · -- 7: x = 1 taken
      replace b7 : ¬ (x = 1) := b7
      show ((some (vI (-1)) : Option MV), mm) = _
      refine leaf ?_
      rw [if_neg b1, if_neg b7]
    · -- 7: x = 1 on
      replace b7 : x = 1 := b7
      show ((some (vI (mm.1 12 0 17)) : Option MV), mm) = _
      refine leaf ?_
      rw [if_neg b1, if_pos b7]
  · -- 1: x = 0 on
    replace b1 : x = 0 := b1
    show ((some (vI (mm.1 12 0 16)) : Option MV), mm) = _
    refine leaf ?_
    rw [if_pos b1]
theorem con_X12_fault (l : Launch) : CON l y_X12_fault prog_14_method_36_code 2 (some .int) rm_X12_fault Pre_X12_fault Fn_X12_fault := CON_of (by decide) rfl rfl (sa_X12_fault l) vc_X12_fault
def tnM (m : MM) : MM := mI m 12 0 16 (m.1 12 0 18)
def tnR (m : MM) (x : Int32) : Option MV × MM := if 0 < m.1 12 0 18 then rfM (tnM m) 9 else gvM (tnM m) x
theorem tnR_eq (m : MM) (x : Int32) : ((some (vI (if 0 < m.1 12 0 18 then -1 else x)) : Option MV), (tnR m x).2) = tnR m x := by
  unfold tnR
  split <;> rfl

--tpl ⟨_, rfl⟩ || (if 0 < {r 1 12 0 18} then -1 else {1}) || (tnR {m} {1}).2
def Pre_X12_taken : PreT := fun _ as => ∃ x : Int32, as = [vR 12 0, vI x]
def Fn_X12_taken : FnT := fun m as => match as with
  | [_, Sum.inl x] => (some (vI (if 0 < m.1 12 0 18 then -1 else x)), (tnR m x).2)
  | _ => (none, m)
abbrev y_X12_taken : MethodName := ⟨"GivenUpModel", "taken", "(I)I"⟩
def P_X12_taken : List StpT := [s_aload 0, s_aload 0, s_getI 12 18, s_putI 12 16, s_aload 0, s_getI 12 18, s_ifle 11, s_aload 0, s_ic (9), s_callV 12 1 Pre_X12_refuse Fn_X12_refuse, s_goto 14, s_aload 0, s_iload 1, s_callV 12 1 Pre_X12_gives Fn_X12_gives, s_iret]
def pc_X12_taken : Nat → Nat := fun i => [0, 1, 2, 5, 8, 9, 12, 15, 16, 18, 21, 24, 25, 26, 29].getD i 0
def dl_X12_taken : List (Nat × Instr × Nat) := [(0, .aload_n 0, 1), (1, .aload_n 0, 1), (2, .getfield 157, 3), (5, .putfield 37, 3), (8, .aload_n 0, 1), (9, .getfield 157, 3), (12, .ifCond .le 12, 3), (15, .aload_n 0, 1), (16, .bipush 9, 2), (18, .invokevirtual 87, 3), (21, .goto 8, 3), (24, .aload_n 0, 1), (25, .iload_n 1, 1), (26, .invokevirtual 91, 3), (29, .ireturn, 1)]
theorem dc_X12_taken : DEC prog_14_method_37_code pc_X12_taken dl_X12_taken := DEC_of (by decide +kernel)
abbrev rm_X12_taken : Room := { frames := 1, cells := 0, slots := 0, locals := 21 }
set_option maxRecDepth 20000 in
theorem sa_X12_taken (l : Launch) : SNDALL l prog_14_method_37_code "GivenUpModel" 2 (some .int) rm_X12_taken P_X12_taken pc_X12_taken := fun p e s m args below meth c cells slots Q D dA ad A RR hC hR => by
  have hM := RTX_room (R := rm_X12_taken) hR
  exact ⟨st_aload_n hC (n := 0) (k := 0) (dc_X12_taken 0 (0, .aload_n 0, 1) rfl rfl) rfl rfl,
    st_aload_n hC (n := 1) (k := 0) (dc_X12_taken 1 (1, .aload_n 0, 1) rfl rfl) rfl rfl,
    st_getI hC (n := 2) (k := 12) (j := 18) (dc_X12_taken 2 (2, .getfield 157, 3) rfl rfl) rfl clf_12 (by decide) rfl wd_1570,
    st_putI hC (n := 3) (k := 12) (j := 16) (dc_X12_taken 3 (5, .putfield 37, 3) rfl rfl) rfl clf_12 (by decide) rfl rfl rfl wd_1568,
    st_aload_n hC (n := 4) (k := 0) (dc_X12_taken 4 (8, .aload_n 0, 1) rfl rfl) rfl rfl,
    st_getI hC (n := 5) (k := 12) (j := 18) (dc_X12_taken 5 (9, .getfield 157, 3) rfl rfl) rfl clf_12 (by decide) rfl wd_1570,
    st_ifle hC (n := 6) (dc_X12_taken 6 (12, .ifCond .le 12, 3) rfl rfl) rfl (by decide),
    st_aload_n hC (n := 7) (k := 0) (dc_X12_taken 7 (15, .aload_n 0, 1) rfl rfl) rfl rfl,
    st_bipush hC (n := 8) (x := 9) (dc_X12_taken 8 (16, .bipush 9, 2) rfl rfl) rfl (by decide),
    st_callV hC (n := 9) (k := 12) (na := 1) (con_X12_refuse l) (dc_X12_taken 9 (18, .invokevirtual 87, 3) rfl rfl) rfl wd_1758 wd_160 (by decide) ⟨rfl, rfl, by decide, by decide⟩ hM wd_1755 wd_1757 wd_57 clf_12,
    st_goto hC (n := 10) (dc_X12_taken 10 (21, .goto 8, 3) rfl rfl) (by decide),
    st_aload_n hC (n := 11) (k := 0) (dc_X12_taken 11 (24, .aload_n 0, 1) rfl rfl) rfl rfl,
    st_iload_n hC (n := 12) (k := 1) (dc_X12_taken 12 (25, .iload_n 1, 1) rfl rfl) rfl rfl,
    st_callV hC (n := 13) (k := 12) (na := 1) (con_X12_gives l) (dc_X12_taken 13 (26, .invokevirtual 91, 3) rfl rfl) rfl wd_1849 wd_160 (by decide) ⟨rfl, rfl, by decide, by decide⟩ hM wd_1846 wd_1848 wd_79 clf_12,
    st_iret hC (n := 14) hR (dc_X12_taken 14 (29, .ireturn, 1) rfl rfl), trivial⟩
set_option maxRecDepth 8000 in
theorem vc_X12_taken : VC P_X12_taken 2 Pre_X12_taken Fn_X12_taken := by
  rintro mm as hom hoa ⟨x, rfl⟩
  refine ⟨Nat.le_of_ble_eq_true rfl, fun X h => ?_⟩
  have hF : Fn_X12_taken mm [vR 12 0, vI x] = tnR mm x := tnR_eq mm x
  rw [hF] at h
  unfold tnR at h
  show X 0 [some (vR 12 0), some (vI x)] [] mm
  refine h (fun _ => false) 3000 0 _ _ _ ?_
  refine br_c (fun b6 => ?_) (fun b6 => ?_)
  · -- 6: mm.1 12 0 18 ≤ 0 taken
    replace b6 : mm.1 12 0 18 ≤ 0 := b6
    replace b6 : mm.1 12 0 18 ≤ 0 := b6
    refine And.intro (show Pre_X12_gives (mI mm 12 0 16 (mm.1 12 0 18)) [vR 12 0, vI x] from ⟨_, rfl⟩) ?_
    show ((some (vI x) : Option MV), stM (mI mm 12 0 16 (mm.1 12 0 18)) 0) = _
    refine leaf ?_
    rw [if_neg (Int32.not_lt.mpr b6)] 
    exact rfl
  · -- 6: mm.1 12 0 18 ≤ 0 on
    replace b6 : ¬ (mm.1 12 0 18 ≤ 0) := b6
    replace b6 : ¬ mm.1 12 0 18 ≤ 0 := b6
    refine And.intro (show Pre_X12_refuse (mI mm 12 0 16 (mm.1 12 0 18)) [vR 12 0, vI 9] from ⟨_, rfl⟩) ?_
    show ((some (vI (-1)) : Option MV), stM (mI mm 12 0 16 (mm.1 12 0 18)) 9) = _
    refine leaf ?_
    rw [if_pos (Int32.not_le.mp b6)] 
    exact rfl
theorem con_X12_taken (l : Launch) : CON l y_X12_taken prog_14_method_37_code 2 (some .int) rm_X12_taken Pre_X12_taken Fn_X12_taken := CON_of (by decide) rfl rfl (sa_X12_taken l) vc_X12_taken
/-- a NAME told ahead: its number comes to a place -/
def pOl (m : MM) (b c t : Nat) : PR := if nmP m then (if fhA m b c = -1 then (false, faM (mI m 54 0 t (fhA m b c)) 3) else (true, ahM (mI m 54 0 t (fhA m b c)))) else (false, faM m 2)

--tpl ⟨(by repeat' (first | assumption | refine TXo_ah ?_ | refine TXo_fa ?_ | refine TXo_54 ?_ | refine TXo_55 ?_ | refine TXo_pr ?_)), {1N}, {2N}, {3N}, by omega, by omega, rfl⟩ || bI ((pOl {m} {1n} {2n} {3n}).1 = true) || (pOl {m} {1n} {2n} {3n}).2
def Pre_X12_oldOne : PreT := fun m as => TXo m ∧ ∃ b c t : Nat, b + c ≤ 120 ∧ t < 3060 ∧ as = [vR 12 0, vI (nI b), vI (nI c), vI (nI t)]
def Fn_X12_oldOne : FnT := fun m as => match as with
  | [_, Sum.inl b, Sum.inl c, Sum.inl t] => (some (vI (bI ((pOl m b.toNatClampNeg c.toNatClampNeg t.toNatClampNeg).1 = true))), (pOl m b.toNatClampNeg c.toNatClampNeg t.toNatClampNeg).2)
  | _ => (none, m)
abbrev y_X12_oldOne : MethodName := ⟨"GivenUpModel", "oldOne", "(III)Z"⟩
def P_X12_oldOne : List StpT := [s_aload 0, s_ldS 1, s_callV 12 1 Pre_X12_isName Fn_X12_isName, s_ifne 8, s_aload 0, s_ic (2), s_callV 12 1 Pre_X12_fails Fn_X12_fails, s_zret, s_aload 0, s_getR 12 0 54, s_iload 3, s_aload 0, s_iload 1, s_iload 2, s_callV 12 2 Pre_X12_findHere Fn_X12_findHere, s_iast, s_aload 0, s_getR 12 0 54, s_iload 3, s_iald, s_ic (-1), s_icne 26, s_aload 0, s_ic (3), s_callV 12 1 Pre_X12_fails Fn_X12_fails, s_zret, s_aload 0, s_callV 12 0 Pre_X12_ahead Fn_X12_ahead, s_ic (1), s_zret]
def pc_X12_oldOne : Nat → Nat := fun i => [0, 1, 3, 6, 9, 10, 11, 14, 15, 16, 19, 20, 21, 22, 23, 26, 27, 28, 31, 32, 33, 34, 37, 38, 39, 42, 43, 44, 47, 48].getD i 0
def dl_X12_oldOne : List (Nat × Instr × Nat) := [(0, .aload_n 0, 1), (1, .ldc 180, 2), (3, .invokevirtual 182, 3), (6, .ifCond .ne 9, 3), (9, .aload_n 0, 1), (10, .iconst 2, 1), (11, .invokevirtual 169, 3), (14, .ireturn, 1), (15, .aload_n 0, 1), (16, .getfield 7, 3), (19, .iload_n 3, 1), (20, .aload_n 0, 1), (21, .iload_n 1, 1), (22, .iload_n 2, 1), (23, .invokevirtual 186, 3), (26, .iastore, 1), (27, .aload_n 0, 1), (28, .getfield 7, 3), (31, .iload_n 3, 1), (32, .iaload, 1), (33, .iconst (-1), 1), (34, .if_icmp .ne 9, 3), (37, .aload_n 0, 1), (38, .iconst 3, 1), (39, .invokevirtual 169, 3), (42, .ireturn, 1), (43, .aload_n 0, 1), (44, .invokevirtual 163, 3), (47, .iconst 1, 1), (48, .ireturn, 1)]
theorem dc_X12_oldOne : DEC prog_14_method_40_code pc_X12_oldOne dl_X12_oldOne := DEC_of (by decide +kernel)
abbrev rm_X12_oldOne : Room := { frames := 7, cells := 0, slots := 0, locals := 153 }
set_option maxRecDepth 20000 in
theorem sa_X12_oldOne (l : Launch) : SNDALL l prog_14_method_40_code "GivenUpModel" 4 (some .boolean) rm_X12_oldOne P_X12_oldOne pc_X12_oldOne := fun p e s m args below meth c cells slots Q D dA ad A RR hC hR => by
  have hM := RTX_room (R := rm_X12_oldOne) hR
  exact ⟨st_aload_n hC (n := 0) (k := 0) (dc_X12_oldOne 0 (0, .aload_n 0, 1) rfl rfl) rfl rfl,
    st_ldS1 hC (n := 1) (dc_X12_oldOne 1 (1, .ldc 180, 2) rfl rfl) rfl rfl,
    st_callV hC (n := 2) (k := 12) (na := 1) (con_X12_isName l) (dc_X12_oldOne 2 (3, .invokevirtual 182, 3) rfl rfl) rfl wd_1785 wd_160 (by decide) ⟨rfl, rfl, by decide, by decide⟩ hM wd_1782 wd_1784 wd_63 clf_12,
    st_ifne hC (n := 3) (dc_X12_oldOne 3 (6, .ifCond .ne 9, 3) rfl rfl) rfl (by decide),
    st_aload_n hC (n := 4) (k := 0) (dc_X12_oldOne 4 (9, .aload_n 0, 1) rfl rfl) rfl rfl,
    st_iconst hC (n := 5) (x := 2) (dc_X12_oldOne 5 (10, .iconst 2, 1) rfl rfl) rfl (by decide),
    st_callV hC (n := 6) (k := 12) (na := 1) (con_X12_fails l) (dc_X12_oldOne 6 (11, .invokevirtual 169, 3) rfl rfl) rfl wd_1781 wd_160 (by decide) ⟨rfl, rfl, by decide, by decide⟩ hM wd_1778 wd_1780 wd_62 clf_12,
    st_zret hC (n := 7) hR (dc_X12_oldOne 7 (14, .ireturn, 1) rfl rfl),
    st_aload_n hC (n := 8) (k := 0) (dc_X12_oldOne 8 (15, .aload_n 0, 1) rfl rfl) rfl rfl,
    st_getR hC (n := 9) (k := 12) (j := 0) (dc_X12_oldOne 9 (16, .getfield 7, 3) rfl rfl) rfl clf_12 (by decide) rfl (by decide) wd_1552,
    st_iload_n hC (n := 10) (k := 3) (dc_X12_oldOne 10 (19, .iload_n 3, 1) rfl rfl) rfl rfl,
    st_aload_n hC (n := 11) (k := 0) (dc_X12_oldOne 11 (20, .aload_n 0, 1) rfl rfl) rfl rfl,
    st_iload_n hC (n := 12) (k := 1) (dc_X12_oldOne 12 (21, .iload_n 1, 1) rfl rfl) rfl rfl,
    st_iload_n hC (n := 13) (k := 2) (dc_X12_oldOne 13 (22, .iload_n 2, 1) rfl rfl) rfl rfl,
    st_callV hC (n := 14) (k := 12) (na := 2) (con_X12_findHere l) (dc_X12_oldOne 14 (23, .invokevirtual 186, 3) rfl rfl) rfl wd_1789 wd_160 (by decide) ⟨rfl, rfl, by decide, by decide⟩ hM wd_1786 wd_1788 wd_64 clf_12,
    st_iast hC (n := 15) (dc_X12_oldOne 15 (26, .iastore, 1) rfl rfl) rfl,
    st_aload_n hC (n := 16) (k := 0) (dc_X12_oldOne 16 (27, .aload_n 0, 1) rfl rfl) rfl rfl,
    st_getR hC (n := 17) (k := 12) (j := 0) (dc_X12_oldOne 17 (28, .getfield 7, 3) rfl rfl) rfl clf_12 (by decide) rfl (by decide) wd_1552,
    st_iload_n hC (n := 18) (k := 3) (dc_X12_oldOne 18 (31, .iload_n 3, 1) rfl rfl) rfl rfl,
    st_iald hC (n := 19) (dc_X12_oldOne 19 (32, .iaload, 1) rfl rfl) rfl,
    st_iconst hC (n := 20) (x := (-1)) (dc_X12_oldOne 20 (33, .iconst (-1), 1) rfl rfl) rfl (by decide),
    st_icne hC (n := 21) (dc_X12_oldOne 21 (34, .if_icmp .ne 9, 3) rfl rfl) rfl (by decide),
    st_aload_n hC (n := 22) (k := 0) (dc_X12_oldOne 22 (37, .aload_n 0, 1) rfl rfl) rfl rfl,
    st_iconst hC (n := 23) (x := 3) (dc_X12_oldOne 23 (38, .iconst 3, 1) rfl rfl) rfl (by decide),
    st_callV hC (n := 24) (k := 12) (na := 1) (con_X12_fails l) (dc_X12_oldOne 24 (39, .invokevirtual 169, 3) rfl rfl) rfl wd_1781 wd_160 (by decide) ⟨rfl, rfl, by decide, by decide⟩ hM wd_1778 wd_1780 wd_62 clf_12,
    st_zret hC (n := 25) hR (dc_X12_oldOne 25 (42, .ireturn, 1) rfl rfl),
    st_aload_n hC (n := 26) (k := 0) (dc_X12_oldOne 26 (43, .aload_n 0, 1) rfl rfl) rfl rfl,
    st_callV hC (n := 27) (k := 12) (na := 0) (con_X12_ahead l) (dc_X12_oldOne 27 (44, .invokevirtual 163, 3) rfl rfl) rfl wd_1742 wd_160 (by decide) ⟨rfl, rfl, by decide, by decide⟩ hM wd_1739 wd_1741 wd_55 clf_12,
    st_iconst hC (n := 28) (x := 1) (dc_X12_oldOne 28 (47, .iconst 1, 1) rfl rfl) rfl (by decide),
    st_zret hC (n := 29) hR (dc_X12_oldOne 29 (48, .ireturn, 1) rfl rfl), trivial⟩
set_option maxRecDepth 8000 in
theorem vc_X12_oldOne : VC P_X12_oldOne 4 Pre_X12_oldOne Fn_X12_oldOne := by
  rintro mm as hom hoa ⟨hTX, b, c, t, hbc, ht, rfl⟩
  refine ⟨Nat.le_of_ble_eq_true rfl, fun X h => ?_⟩
  have eb : (nI b).toNatClampNeg = b := nI_clamp (by omega)
  have ec : (nI c).toNatClampNeg = c := nI_clamp (by omega)
  have et : (nI t).toNatClampNeg = t := nI_clamp (by omega)
  have hF : Fn_X12_oldOne mm [vR 12 0, vI (nI b), vI (nI c), vI (nI t)] = (some (vI (bI ((pOl mm b c t).1 = true))), (pOl mm b c t).2) := by
    show (some (vI (bI ((pOl mm (nI b).toNatClampNeg (nI c).toNatClampNeg (nI t).toNatClampNeg).1 = true))), (pOl mm (nI b).toNatClampNeg (nI c).toNatClampNeg (nI t).toNatClampNeg).2) = _
    rw [eb, ec, et]
  rw [hF] at h
  suffices z : nmP mm → X 16 [some (vR 12 0), some (vI (nI b)), some (vI (nI c)), some (vI (nI t))] [] (mI mm 54 0 t (fhA mm b c)) by
    show X 0 [some (vR 12 0), some (vI (nI b)), some (vI (nI c)), some (vI (nI t))] [] mm
    refine h (fun i => Nat.beq i 16) 3000 0 _ _ _ ?_
    refine And.intro (show Pre_X12_isName mm [vR 12 0, vR 72 1] from ⟨(by repeat' (first | assumption | refine TXo_ah ?_ | refine TXo_fa ?_ | refine TXo_54 ?_ | refine TXo_55 ?_ | refine TXo_pr ?_)), rfl⟩) ?_
    refine brn_c (fun b3 => ?_) (fun b3 => ?_)
    · -- 3: bI (nmP mm) = 0 taken
      replace b3 : nmP mm := bI_n0.mp b3
      refine And.intro (show Pre_X12_findHere mm [vR 12 0, vI (nI b), vI (nI c)] from ⟨(by repeat' (first | assumption | refine TXo_ah ?_ | refine TXo_fa ?_ | refine TXo_54 ?_ | refine TXo_55 ?_ | refine TXo_pr ?_)), b, c, by omega, rfl⟩) ?_
      refine And.intro (show inb (nI t) (alen 54) = true from (inb_o 3060 rfl rfl rfl (by omega))) ?_
      show X 16 [some (vR 12 0), some (vI (nI b)), some (vI (nI c)), some (vI (nI t))] [] (mRow mm 54 0 (upd (mm.1 54 0) (nI t).toNatClampNeg (fhA mm (nI b).toNatClampNeg (nI c).toNatClampNeg)))
      rw [eb, ec, et]
      exact z b3
    · -- 3: bI (nmP mm) = 0 on
      replace b3 : ¬ (nmP mm) := bI_0.mp b3
      refine And.intro (show Pre_X12_fails mm [vR 12 0, vI 2] from ⟨_, rfl⟩) ?_
      refine And.intro (Or.inl rfl) ?_
      show ((some (vI 0) : Option MV), faM mm 2) = _
      exact PR_f (if_neg b3)
  intro hn
  have e54 : (mI mm 54 0 t (fhA mm b c)).1 54 0 t = fhA mm b c := upd_eq
  show X 16 [some (vR 12 0), some (vI (nI b)), some (vI (nI c)), some (vI (nI t))] [] (mI mm 54 0 t (fhA mm b c))
  refine h (fun _ => false) 3000 16 _ _ _ ?_
  refine And.intro (show inb (nI t) (alen 54) = true from (inb_o 3060 rfl rfl rfl (by omega))) ?_
  refine brn_c (fun b21 => ?_) (fun b21 => ?_)
  · -- 21: (mI mm 54 0 t (fhA mm b c)).1 54 0 ((nI t).toNatClampNeg) = (-1) taken
    replace b21 : ¬ ((mI mm 54 0 t (fhA mm b c)).1 54 0 ((nI t).toNatClampNeg) = (-1)) := b21
    (try simp only [et, e54] at b21)
    refine And.intro (show Pre_X12_ahead (mI mm 54 0 t (fhA mm b c)) [vR 12 0] from (TXo_pre (by repeat' (first | assumption | refine TXo_ah ?_ | refine TXo_fa ?_ | refine TXo_54 ?_ | refine TXo_55 ?_ | refine TXo_pr ?_)))) ?_
    refine And.intro (Or.inr rfl) ?_
    show ((some (vI 1) : Option MV), ahM (mI mm 54 0 t (fhA mm b c))) = _
    (try simp only [et, e54])
    exact PR_t ((if_pos hn).trans (if_neg b21))
  · -- 21: (mI mm 54 0 t (fhA mm b c)).1 54 0 ((nI t).toNatClampNeg) = (-1) on
    replace b21 : (mI mm 54 0 t (fhA mm b c)).1 54 0 ((nI t).toNatClampNeg) = (-1) := b21
    (try simp only [et, e54] at b21)
    refine And.intro (show Pre_X12_fails (mI mm 54 0 t (fhA mm b c)) [vR 12 0, vI 3] from ⟨_, rfl⟩) ?_
    refine And.intro (Or.inl rfl) ?_
    show ((some (vI 0) : Option MV), faM (mI mm 54 0 t (fhA mm b c)) 3) = _
    (try simp only [et, e54])
    exact PR_f ((if_pos hn).trans (if_pos b21))
theorem con_X12_oldOne (l : Launch) : CON l y_X12_oldOne prog_14_method_40_code 4 (some .boolean) rm_X12_oldOne Pre_X12_oldOne Fn_X12_oldOne := CON_of (by decide) rfl rfl (sa_X12_oldOne l) vc_X12_oldOne
/-- a new NAME -/
abbrev nwP (m : MM) : Prop := fhA m 80 (m.1 54 0 2040).toNatClampNeg = -1 ∧ fhA m 84 (m.1 54 0 2041).toNatClampNeg = -1 ∧ fhA m 88 (m.1 54 0 2042).toNatClampNeg = -1
def pNw (m : MM) (q : Nat) (most : Int32) (k : Nat) : PR := if m.1 54 0 (2040 + q) = most then (false, faM m 6) else if nmP (ahM m) then (if nwP (ahM m) then (true, ahM (mRowL (ahM m) 55 0 (vp_updL (m.2.1 55 0) (80 + k + (m.1 54 0 (2040 + q)).toNatClampNeg) (nmV (ahM m))))) else (false, faM (ahM m) 3)) else (false, faM (ahM m) 2)
/-- what is counted of the new VALLEY -/
def CNo (m : MM) : Prop := ∃ ns nm nt : Nat, m.1 54 0 2040 = nI ns ∧ ns ≤ 4 ∧ m.1 54 0 2041 = nI nm ∧ nm ≤ 4 ∧ m.1 54 0 2042 = nI nt ∧ nt ≤ 12

--tpl rfl || bI ((pNw {m} {1n} {2} {3n}).1 = true) || (pNw {m} {1n} {2} {3n}).2
def Pre_X12_newOne : PreT := fun m as => TXo m ∧ CNo m ∧ ((as = [vR 12 0, vI 0, vI 4, vI 0]) ∨ (as = [vR 12 0, vI 1, vI 4, vI 4]) ∨ (as = [vR 12 0, vI 2, vI 12, vI 8]))
def Fn_X12_newOne : FnT := fun m as => match as with
  | [_, Sum.inl q, Sum.inl x, Sum.inl k] => (some (vI (bI ((pNw m q.toNatClampNeg x k.toNatClampNeg).1 = true))), (pNw m q.toNatClampNeg x k.toNatClampNeg).2)
  | _ => (none, m)
abbrev y_X12_newOne : MethodName := ⟨"GivenUpModel", "newOne", "(III)Z"⟩
def P_X12_newOne : List StpT := [s_aload 0, s_getR 12 0 54, s_ic (2040), s_iload 1, s_iadd, s_iald, s_iload 2, s_icne 12, s_aload 0, s_ic (6), s_callV 12 1 Pre_X12_fails Fn_X12_fails, s_zret, s_aload 0, s_callV 12 0 Pre_X12_ahead Fn_X12_ahead, s_aload 0, s_ldS 1, s_callV 12 1 Pre_X12_isName Fn_X12_isName, s_ifne 22, s_aload 0, s_ic (2), s_callV 12 1 Pre_X12_fails Fn_X12_fails, s_zret, s_aload 0, s_ic (80), s_aload 0, s_getR 12 0 54, s_ic (2040), s_iald, s_callV 12 2 Pre_X12_findHere Fn_X12_findHere, s_ic (-1), s_icne 49, s_aload 0, s_ic (84), s_aload 0, s_getR 12 0 54, s_ic (2041), s_iald, s_callV 12 2 Pre_X12_findHere Fn_X12_findHere, s_ic (-1), s_icne 49, s_aload 0, s_ic (88), s_aload 0, s_getR 12 0 54, s_ic (2042), s_iald, s_callV 12 2 Pre_X12_findHere Fn_X12_findHere, s_ic (-1), s_iceq 53, s_aload 0, s_ic (3), s_callV 12 1 Pre_X12_fails Fn_X12_fails, s_zret, s_aload 0, s_getR 12 1 55, s_ic (80), s_iload 3, s_iadd, s_aload 0, s_getR 12 0 54, s_ic (2040), s_iload 1, s_iadd, s_iald, s_iadd, s_aload 0, s_callV 12 0 Pre_X12_nameHere Fn_X12_nameHere, s_last, s_aload 0, s_callV 12 0 Pre_X12_ahead Fn_X12_ahead, s_ic (1), s_zret]
def pc_X12_newOne : Nat → Nat := fun i => [0, 1, 4, 7, 8, 9, 10, 11, 14, 15, 17, 20, 21, 22, 25, 26, 28, 31, 34, 35, 36, 39, 40, 41, 43, 44, 47, 50, 51, 54, 55, 58, 59, 61, 62, 65, 68, 69, 72, 73, 76, 77, 79, 80, 83, 86, 87, 90, 91, 94, 95, 96, 99, 100, 101, 104, 106, 107, 108, 109, 112, 115, 116, 117, 118, 119, 120, 123, 124, 125, 128, 129].getD i 0
def dl_X12_newOne : List (Nat × Instr × Nat) := [(0, .aload_n 0, 1), (1, .getfield 7, 3), (4, .sipush 2040, 3), (7, .iload_n 1, 1), (8, .iadd, 1), (9, .iaload, 1), (10, .iload_n 2, 1), (11, .if_icmp .ne 10, 3), (14, .aload_n 0, 1), (15, .bipush 6, 2), (17, .invokevirtual 169, 3), (20, .ireturn, 1), (21, .aload_n 0, 1), (22, .invokevirtual 163, 3), (25, .aload_n 0, 1), (26, .ldc 180, 2), (28, .invokevirtual 182, 3), (31, .ifCond .ne 9, 3), (34, .aload_n 0, 1), (35, .iconst 2, 1), (36, .invokevirtual 169, 3), (39, .ireturn, 1), (40, .aload_n 0, 1), (41, .bipush 80, 2), (43, .aload_n 0, 1), (44, .getfield 7, 3), (47, .sipush 2040, 3), (50, .iaload, 1), (51, .invokevirtual 186, 3), (54, .iconst (-1), 1), (55, .if_icmp .ne 39, 3), (58, .aload_n 0, 1), (59, .bipush 84, 2), (61, .aload_n 0, 1), (62, .getfield 7, 3), (65, .sipush 2041, 3), (68, .iaload, 1), (69, .invokevirtual 186, 3), (72, .iconst (-1), 1), (73, .if_icmp .ne 21, 3), (76, .aload_n 0, 1), (77, .bipush 88, 2), (79, .aload_n 0, 1), (80, .getfield 7, 3), (83, .sipush 2042, 3), (86, .iaload, 1), (87, .invokevirtual 186, 3), (90, .iconst (-1), 1), (91, .if_icmp .eq 9, 3), (94, .aload_n 0, 1), (95, .iconst 3, 1), (96, .invokevirtual 169, 3), (99, .ireturn, 1), (100, .aload_n 0, 1), (101, .getfield 13, 3), (104, .bipush 80, 2), (106, .iload_n 3, 1), (107, .iadd, 1), (108, .aload_n 0, 1), (109, .getfield 7, 3), (112, .sipush 2040, 3), (115, .iload_n 1, 1), (116, .iadd, 1), (117, .iaload, 1), (118, .iadd, 1), (119, .aload_n 0, 1), (120, .invokevirtual 176, 3), (123, .lastore, 1), (124, .aload_n 0, 1), (125, .invokevirtual 163, 3), (128, .iconst 1, 1), (129, .ireturn, 1)]
theorem dc_X12_newOne : DEC prog_14_method_39_code pc_X12_newOne dl_X12_newOne := DEC_of (by decide +kernel)
abbrev rm_X12_newOne : Room := { frames := 7, cells := 0, slots := 0, locals := 153 }
set_option maxRecDepth 20000 in
theorem sa_X12_newOne (l : Launch) : SNDALL l prog_14_method_39_code "GivenUpModel" 4 (some .boolean) rm_X12_newOne P_X12_newOne pc_X12_newOne := fun p e s m args below meth c cells slots Q D dA ad A RR hC hR => by
  have hM := RTX_room (R := rm_X12_newOne) hR
  exact ⟨st_aload_n hC (n := 0) (k := 0) (dc_X12_newOne 0 (0, .aload_n 0, 1) rfl rfl) rfl rfl,
    st_getR hC (n := 1) (k := 12) (j := 0) (dc_X12_newOne 1 (1, .getfield 7, 3) rfl rfl) rfl clf_12 (by decide) rfl (by decide) wd_1552,
    st_sipush hC (n := 2) (x := 2040) (dc_X12_newOne 2 (4, .sipush 2040, 3) rfl rfl) rfl (by decide),
    st_iload_n hC (n := 3) (k := 1) (dc_X12_newOne 3 (7, .iload_n 1, 1) rfl rfl) rfl rfl,
    st_iadd hC (n := 4) (dc_X12_newOne 4 (8, .iadd, 1) rfl rfl) rfl,
    st_iald hC (n := 5) (dc_X12_newOne 5 (9, .iaload, 1) rfl rfl) rfl,
    st_iload_n hC (n := 6) (k := 2) (dc_X12_newOne 6 (10, .iload_n 2, 1) rfl rfl) rfl rfl,
    st_icne hC (n := 7) (dc_X12_newOne 7 (11, .if_icmp .ne 10, 3) rfl rfl) rfl (by decide),
    st_aload_n hC (n := 8) (k := 0) (dc_X12_newOne 8 (14, .aload_n 0, 1) rfl rfl) rfl rfl,
    st_bipush hC (n := 9) (x := 6) (dc_X12_newOne 9 (15, .bipush 6, 2) rfl rfl) rfl (by decide),
    st_callV hC (n := 10) (k := 12) (na := 1) (con_X12_fails l) (dc_X12_newOne 10 (17, .invokevirtual 169, 3) rfl rfl) rfl wd_1781 wd_160 (by decide) ⟨rfl, rfl, by decide, by decide⟩ hM wd_1778 wd_1780 wd_62 clf_12,
    st_zret hC (n := 11) hR (dc_X12_newOne 11 (20, .ireturn, 1) rfl rfl),
    st_aload_n hC (n := 12) (k := 0) (dc_X12_newOne 12 (21, .aload_n 0, 1) rfl rfl) rfl rfl,
    st_callV hC (n := 13) (k := 12) (na := 0) (con_X12_ahead l) (dc_X12_newOne 13 (22, .invokevirtual 163, 3) rfl rfl) rfl wd_1742 wd_160 (by decide) ⟨rfl, rfl, by decide, by decide⟩ hM wd_1739 wd_1741 wd_55 clf_12,
    st_aload_n hC (n := 14) (k := 0) (dc_X12_newOne 14 (25, .aload_n 0, 1) rfl rfl) rfl rfl,
    st_ldS1 hC (n := 15) (dc_X12_newOne 15 (26, .ldc 180, 2) rfl rfl) rfl rfl,
    st_callV hC (n := 16) (k := 12) (na := 1) (con_X12_isName l) (dc_X12_newOne 16 (28, .invokevirtual 182, 3) rfl rfl) rfl wd_1785 wd_160 (by decide) ⟨rfl, rfl, by decide, by decide⟩ hM wd_1782 wd_1784 wd_63 clf_12,
    st_ifne hC (n := 17) (dc_X12_newOne 17 (31, .ifCond .ne 9, 3) rfl rfl) rfl (by decide),
    st_aload_n hC (n := 18) (k := 0) (dc_X12_newOne 18 (34, .aload_n 0, 1) rfl rfl) rfl rfl,
    st_iconst hC (n := 19) (x := 2) (dc_X12_newOne 19 (35, .iconst 2, 1) rfl rfl) rfl (by decide),
    st_callV hC (n := 20) (k := 12) (na := 1) (con_X12_fails l) (dc_X12_newOne 20 (36, .invokevirtual 169, 3) rfl rfl) rfl wd_1781 wd_160 (by decide) ⟨rfl, rfl, by decide, by decide⟩ hM wd_1778 wd_1780 wd_62 clf_12,
    st_zret hC (n := 21) hR (dc_X12_newOne 21 (39, .ireturn, 1) rfl rfl),
    st_aload_n hC (n := 22) (k := 0) (dc_X12_newOne 22 (40, .aload_n 0, 1) rfl rfl) rfl rfl,
    st_bipush hC (n := 23) (x := 80) (dc_X12_newOne 23 (41, .bipush 80, 2) rfl rfl) rfl (by decide),
    st_aload_n hC (n := 24) (k := 0) (dc_X12_newOne 24 (43, .aload_n 0, 1) rfl rfl) rfl rfl,
    st_getR hC (n := 25) (k := 12) (j := 0) (dc_X12_newOne 25 (44, .getfield 7, 3) rfl rfl) rfl clf_12 (by decide) rfl (by decide) wd_1552,
    st_sipush hC (n := 26) (x := 2040) (dc_X12_newOne 26 (47, .sipush 2040, 3) rfl rfl) rfl (by decide),
    st_iald hC (n := 27) (dc_X12_newOne 27 (50, .iaload, 1) rfl rfl) rfl,
    st_callV hC (n := 28) (k := 12) (na := 2) (con_X12_findHere l) (dc_X12_newOne 28 (51, .invokevirtual 186, 3) rfl rfl) rfl wd_1789 wd_160 (by decide) ⟨rfl, rfl, by decide, by decide⟩ hM wd_1786 wd_1788 wd_64 clf_12,
    st_iconst hC (n := 29) (x := (-1)) (dc_X12_newOne 29 (54, .iconst (-1), 1) rfl rfl) rfl (by decide),
    st_icne hC (n := 30) (dc_X12_newOne 30 (55, .if_icmp .ne 39, 3) rfl rfl) rfl (by decide),
    st_aload_n hC (n := 31) (k := 0) (dc_X12_newOne 31 (58, .aload_n 0, 1) rfl rfl) rfl rfl,
    st_bipush hC (n := 32) (x := 84) (dc_X12_newOne 32 (59, .bipush 84, 2) rfl rfl) rfl (by decide),
    st_aload_n hC (n := 33) (k := 0) (dc_X12_newOne 33 (61, .aload_n 0, 1) rfl rfl) rfl rfl,
    st_getR hC (n := 34) (k := 12) (j := 0) (dc_X12_newOne 34 (62, .getfield 7, 3) rfl rfl) rfl clf_12 (by decide) rfl (by decide) wd_1552,
    st_sipush hC (n := 35) (x := 2041) (dc_X12_newOne 35 (65, .sipush 2041, 3) rfl rfl) rfl (by decide),
    st_iald hC (n := 36) (dc_X12_newOne 36 (68, .iaload, 1) rfl rfl) rfl,
    st_callV hC (n := 37) (k := 12) (na := 2) (con_X12_findHere l) (dc_X12_newOne 37 (69, .invokevirtual 186, 3) rfl rfl) rfl wd_1789 wd_160 (by decide) ⟨rfl, rfl, by decide, by decide⟩ hM wd_1786 wd_1788 wd_64 clf_12,
    st_iconst hC (n := 38) (x := (-1)) (dc_X12_newOne 38 (72, .iconst (-1), 1) rfl rfl) rfl (by decide),
    st_icne hC (n := 39) (dc_X12_newOne 39 (73, .if_icmp .ne 21, 3) rfl rfl) rfl (by decide),
    st_aload_n hC (n := 40) (k := 0) (dc_X12_newOne 40 (76, .aload_n 0, 1) rfl rfl) rfl rfl,
    st_bipush hC (n := 41) (x := 88) (dc_X12_newOne 41 (77, .bipush 88, 2) rfl rfl) rfl (by decide),
    st_aload_n hC (n := 42) (k := 0) (dc_X12_newOne 42 (79, .aload_n 0, 1) rfl rfl) rfl rfl,
    st_getR hC (n := 43) (k := 12) (j := 0) (dc_X12_newOne 43 (80, .getfield 7, 3) rfl rfl) rfl clf_12 (by decide) rfl (by decide) wd_1552,
    st_sipush hC (n := 44) (x := 2042) (dc_X12_newOne 44 (83, .sipush 2042, 3) rfl rfl) rfl (by decide),
    st_iald hC (n := 45) (dc_X12_newOne 45 (86, .iaload, 1) rfl rfl) rfl,
    st_callV hC (n := 46) (k := 12) (na := 2) (con_X12_findHere l) (dc_X12_newOne 46 (87, .invokevirtual 186, 3) rfl rfl) rfl wd_1789 wd_160 (by decide) ⟨rfl, rfl, by decide, by decide⟩ hM wd_1786 wd_1788 wd_64 clf_12,
    st_iconst hC (n := 47) (x := (-1)) (dc_X12_newOne 47 (90, .iconst (-1), 1) rfl rfl) rfl (by decide),
    st_iceq hC (n := 48) (dc_X12_newOne 48 (91, .if_icmp .eq 9, 3) rfl rfl) rfl (by decide),
    st_aload_n hC (n := 49) (k := 0) (dc_X12_newOne 49 (94, .aload_n 0, 1) rfl rfl) rfl rfl,
    st_iconst hC (n := 50) (x := 3) (dc_X12_newOne 50 (95, .iconst 3, 1) rfl rfl) rfl (by decide),
    st_callV hC (n := 51) (k := 12) (na := 1) (con_X12_fails l) (dc_X12_newOne 51 (96, .invokevirtual 169, 3) rfl rfl) rfl wd_1781 wd_160 (by decide) ⟨rfl, rfl, by decide, by decide⟩ hM wd_1778 wd_1780 wd_62 clf_12,
    st_zret hC (n := 52) hR (dc_X12_newOne 52 (99, .ireturn, 1) rfl rfl),
    st_aload_n hC (n := 53) (k := 0) (dc_X12_newOne 53 (100, .aload_n 0, 1) rfl rfl) rfl rfl,
    st_getR hC (n := 54) (k := 12) (j := 1) (dc_X12_newOne 54 (101, .getfield 13, 3) rfl rfl) rfl clf_12 (by decide) rfl (by decide) wd_1553,
    st_bipush hC (n := 55) (x := 80) (dc_X12_newOne 55 (104, .bipush 80, 2) rfl rfl) rfl (by decide),
    st_iload_n hC (n := 56) (k := 3) (dc_X12_newOne 56 (106, .iload_n 3, 1) rfl rfl) rfl rfl,
    st_iadd hC (n := 57) (dc_X12_newOne 57 (107, .iadd, 1) rfl rfl) rfl,
    st_aload_n hC (n := 58) (k := 0) (dc_X12_newOne 58 (108, .aload_n 0, 1) rfl rfl) rfl rfl,
    st_getR hC (n := 59) (k := 12) (j := 0) (dc_X12_newOne 59 (109, .getfield 7, 3) rfl rfl) rfl clf_12 (by decide) rfl (by decide) wd_1552,
    st_sipush hC (n := 60) (x := 2040) (dc_X12_newOne 60 (112, .sipush 2040, 3) rfl rfl) rfl (by decide),
    st_iload_n hC (n := 61) (k := 1) (dc_X12_newOne 61 (115, .iload_n 1, 1) rfl rfl) rfl rfl,
    st_iadd hC (n := 62) (dc_X12_newOne 62 (116, .iadd, 1) rfl rfl) rfl,
    st_iald hC (n := 63) (dc_X12_newOne 63 (117, .iaload, 1) rfl rfl) rfl,
    st_iadd hC (n := 64) (dc_X12_newOne 64 (118, .iadd, 1) rfl rfl) rfl,
    st_aload_n hC (n := 65) (k := 0) (dc_X12_newOne 65 (119, .aload_n 0, 1) rfl rfl) rfl rfl,
    st_callV hC (n := 66) (k := 12) (na := 0) (con_X12_nameHere l) (dc_X12_newOne 66 (120, .invokevirtual 176, 3) rfl rfl) rfl wd_1793 wd_160 (by decide) ⟨rfl, rfl, by decide, by decide⟩ hM wd_1790 wd_1792 wd_65 clf_12,
    st_last hC (n := 67) (dc_X12_newOne 67 (123, .lastore, 1) rfl rfl) rfl,
    st_aload_n hC (n := 68) (k := 0) (dc_X12_newOne 68 (124, .aload_n 0, 1) rfl rfl) rfl rfl,
    st_callV hC (n := 69) (k := 12) (na := 0) (con_X12_ahead l) (dc_X12_newOne 69 (125, .invokevirtual 163, 3) rfl rfl) rfl wd_1742 wd_160 (by decide) ⟨rfl, rfl, by decide, by decide⟩ hM wd_1739 wd_1741 wd_55 clf_12,
    st_iconst hC (n := 70) (x := 1) (dc_X12_newOne 70 (128, .iconst 1, 1) rfl rfl) rfl (by decide),
    st_zret hC (n := 71) hR (dc_X12_newOne 71 (129, .ireturn, 1) rfl rfl), trivial⟩
set_option maxRecDepth 8000 in
theorem vc_X12_newOne : VC P_X12_newOne 4 Pre_X12_newOne Fn_X12_newOne := by
  rintro mm as hom hoa ⟨hTX, ⟨ns, nm, nt, h0, hns, h1, hnm, h2, hnt⟩, has⟩
  refine ⟨by rcases has with rfl | rfl | rfl <;> exact Nat.le_of_ble_eq_true rfl, fun X h => ?_⟩
  suffices z : ∀ (q most k c : Nat), q < 3 → most ≤ 12 → k ≤ 8 → mm.1 54 0 (2040 + q) = nI c → c ≤ most → RUN P_X12_newOne (fun r m' => (r, m') = (some (vI (bI ((pNw mm q (nI most) k).1 = true))), (pNw mm q (nI most) k).2)) X → X 0 [some (vR 12 0), some (vI (nI q)), some (vI (nI most)), some (vI (nI k))] [] mm by
    rcases has with rfl | rfl | rfl
    · exact z 0 4 0 ns (by decide) (by decide) (by decide) h0 hns h
    · exact z 1 4 4 nm (by decide) (by decide) (by decide) h1 hnm h
    · exact z 2 12 8 nt (by decide) (by decide) (by decide) h2 hnt h
  intro q most k c hq hmost hk hc hcm
  clear h has
  intro h
  have e1 : (2040 + nI q).toNatClampNeg = 2040 + q := by simp (disch := omega) only [li, pk_mul, nI_add, nI_clamp]
  have eq : nI c = nI most ↔ c = most := nI_eq (by omega) (by omega)
  have T1 : TXo (ahM mm) := TXo_ah hTX
  obtain ⟨M, hM⟩ : ∃ M, M = ahM mm := ⟨_, rfl⟩
  have e54 : M.1 54 0 = mm.1 54 0 := by rw [hM]; rfl
  have e55 : M.2.1 55 0 = mm.2.1 55 0 := by rw [hM]; rfl
  have hp : pNw mm q (nI most) k = if mm.1 54 0 (2040 + q) = nI most then (false, faM mm 6) else if nmP M then (if nwP M then (true, ahM (mRowL M 55 0 (vp_updL (mm.2.1 55 0) (80 + k + (mm.1 54 0 (2040 + q)).toNatClampNeg) (nmV M)))) else (false, faM M 3)) else (false, faM M 2) := by rw [hM]; rfl
  rw [hp, ← e55] at h
  rw [← hM] at T1
  have k0 : M.1 54 0 2040 = nI ns := by rw [e54]; exact h0
  have k1 : M.1 54 0 2041 = nI nm := by rw [e54]; exact h1
  have k2 : M.1 54 0 2042 = nI nt := by rw [e54]; exact h2
  have kc : M.1 54 0 (2040 + q) = nI c := by rw [e54]; exact hc
  have two : ¬ mm.1 54 0 (2040 + q) = nI most → X 14 [some (vR 12 0), some (vI (nI q)), some (vI (nI most)), some (vI (nI k))] [] (M) := by
    intro hne
    rw [if_neg hne] at h
    have hlt : c < most := by
      rcases Nat.eq_or_lt_of_le hcm with w | w
      · exact absurd (by rw [hc, w]) hne
      · exact w
    have bad : nmP M → ¬ nwP M → X 49 [some (vR 12 0), some (vI (nI q)), some (vI (nI most)), some (vI (nI k))] [] (M) := by
      intro hn hw
      show X 49 [some (vR 12 0), some (vI (nI q)), some (vI (nI most)), some (vI (nI k))] [] M
      refine h (fun _ => false) 3000 49 _ _ _ ?_
      refine And.intro (show Pre_X12_fails M [vR 12 0, vI 3] from ⟨_, rfl⟩) ?_
      refine And.intro (Or.inl rfl) ?_
      show ((some (vI 0) : Option MV), faM M 3) = _
      exact PR_f ((if_pos hn).trans (if_neg hw))
    have good : nmP M → nwP M → X 53 [some (vR 12 0), some (vI (nI q)), some (vI (nI most)), some (vI (nI k))] [] (M) := by
      intro hn hw
      have e2 : (80 + nI k + nI c).toNatClampNeg = 80 + k + c := by simp (disch := omega) only [li, pk_mul, nI_add, nI_clamp]
      show X 53 [some (vR 12 0), some (vI (nI q)), some (vI (nI most)), some (vI (nI k))] [] M
      refine h (fun _ => false) 3000 53 _ _ _ ?_
      refine And.intro (show inb (2040 + (nI q)) (alen 54) = true from (inb_o 3060 rfl rfl (by simp (disch := omega) only [li, pk_mul, nI_add, nI_clamp]; rfl) (by omega))) ?_
      refine And.intro (show Pre_X12_nameHere M [vR 12 0] from ⟨(by repeat' (first | assumption | refine TXo_ah ?_ | refine TXo_fa ?_ | refine TXo_54 ?_ | refine TXo_55 ?_ | refine TXo_pr ?_)), rfl⟩) ?_
      refine And.intro (show inb ((80 + (nI k)) + (M.1 54 0 ((2040 + (nI q)).toNatClampNeg))) (alen 55) = true from (by rw [e1, kc]; exact inb_o 120 rfl rfl (j := 80 + k + c) (by simp (disch := omega) only [li, pk_mul, nI_add, nI_clamp]) (by omega))) ?_
      refine And.intro (show Pre_X12_ahead (mRowL M 55 0 (vp_updL (M.2.1 55 0) ((80 + (nI k)) + (M.1 54 0 ((2040 + (nI q)).toNatClampNeg))).toNatClampNeg (nmV M))) [vR 12 0] from (TXo_pre (TXo_55 T1))) ?_
      refine And.intro (Or.inr rfl) ?_
      show ((some (vI 1) : Option MV), ahM (mRowL M 55 0 (vp_updL (M.2.1 55 0) ((80 + (nI k)) + (M.1 54 0 ((2040 + (nI q)).toNatClampNeg))).toNatClampNeg (nmV M)))) = _
      refine PR_t ((if_pos hn).trans ((if_pos hw).trans ?_))
      rw [e1, kc, e2, ← e54, kc, nI_clamp (show c < 2 ^ 31 by omega)]
    show X 14 [some (vR 12 0), some (vI (nI q)), some (vI (nI most)), some (vI (nI k))] [] M
    refine h (fun i => Nat.beq i 49 || Nat.beq i 53) 3000 14 _ _ _ ?_
    refine And.intro (show Pre_X12_isName M [vR 12 0, vR 72 1] from ⟨(by repeat' (first | assumption | refine TXo_ah ?_ | refine TXo_fa ?_ | refine TXo_54 ?_ | refine TXo_55 ?_ | refine TXo_pr ?_)), rfl⟩) ?_
    refine brn_c (fun b17 => ?_) (fun b17 => ?_)
    · -- 17: bI (nmP M) = 0 taken
      replace b17 : nmP M := bI_n0.mp b17
      refine And.intro (show inb 2040 (alen 54) = true from rfl) ?_
      refine And.intro (show Pre_X12_findHere M [vR 12 0, vI 80, vI (M.1 54 0 2040)] from ⟨T1, 80, ns, by omega, by rw [k0]; rfl⟩) ?_
      refine brn_c (fun b30 => ?_) (fun b30 => ?_)
      · -- 30: fhA M 80 (M.1 54 0 2040).toNatClampNeg = (-1) taken
        replace b30 : ¬ (fhA M 80 (M.1 54 0 2040).toNatClampNeg = (-1)) := b30
        show X 49 [some (vR 12 0), some (vI (nI q)), some (vI (nI most)), some (vI (nI k))] [] M
        exact bad b17 (fun z => b30 z.1)
      · -- 30: fhA M 80 (M.1 54 0 2040).toNatClampNeg = (-1) on
        replace b30 : fhA M 80 (M.1 54 0 2040).toNatClampNeg = (-1) := b30
        refine And.intro (show inb 2041 (alen 54) = true from rfl) ?_
        refine And.intro (show Pre_X12_findHere M [vR 12 0, vI 84, vI (M.1 54 0 2041)] from ⟨T1, 84, nm, by omega, by rw [k1]; rfl⟩) ?_
        refine brn_c (fun b39 => ?_) (fun b39 => ?_)
        · -- 39: fhA M 84 (M.1 54 0 2041).toNatClampNeg = (-1) taken
          replace b39 : ¬ (fhA M 84 (M.1 54 0 2041).toNatClampNeg = (-1)) := b39
          show X 49 [some (vR 12 0), some (vI (nI q)), some (vI (nI most)), some (vI (nI k))] [] M
          exact bad b17 (fun z => b39 z.2.1)
        · -- 39: fhA M 84 (M.1 54 0 2041).toNatClampNeg = (-1) on
          replace b39 : fhA M 84 (M.1 54 0 2041).toNatClampNeg = (-1) := b39
          refine And.intro (show inb 2042 (alen 54) = true from rfl) ?_
          refine And.intro (show Pre_X12_findHere M [vR 12 0, vI 88, vI (M.1 54 0 2042)] from ⟨T1, 88, nt, by omega, by rw [k2]; rfl⟩) ?_
          refine br_c (fun b48 => ?_) (fun b48 => ?_)
          · -- 48: fhA M 88 (M.1 54 0 2042).toNatClampNeg = (-1) taken
            replace b48 : fhA M 88 (M.1 54 0 2042).toNatClampNeg = (-1) := b48
            show X 53 [some (vR 12 0), some (vI (nI q)), some (vI (nI most)), some (vI (nI k))] [] M
            exact good b17 ⟨b30, b39, b48⟩
          · -- 48: fhA M 88 (M.1 54 0 2042).toNatClampNeg = (-1) on
            replace b48 : ¬ (fhA M 88 (M.1 54 0 2042).toNatClampNeg = (-1)) := b48
            show X 49 [some (vR 12 0), some (vI (nI q)), some (vI (nI most)), some (vI (nI k))] [] M
            exact bad b17 (fun z => b48 z.2.2)
    · -- 17: bI (nmP M) = 0 on
      replace b17 : ¬ (nmP M) := bI_0.mp b17
      refine And.intro (show Pre_X12_fails M [vR 12 0, vI 2] from ⟨_, rfl⟩) ?_
      refine And.intro (Or.inl rfl) ?_
      show ((some (vI 0) : Option MV), faM M 2) = _
      exact PR_f (if_neg b17)
  show X 0 [some (vR 12 0), some (vI (nI q)), some (vI (nI most)), some (vI (nI k))] [] mm
  refine h (fun i => Nat.beq i 14) 3000 0 _ _ _ ?_
  refine And.intro (show inb (2040 + (nI q)) (alen 54) = true from (inb_o 3060 rfl rfl (show 2040 + (nI q) = nI (2040 + ( q)) by simp (disch := omega) only [li, pk_mul, nI_add, nI_clamp]) (by omega))) ?_
  refine brn_c (fun b7 => ?_) (fun b7 => ?_)
  · -- 7: mm.1 54 0 ((2040 + (nI q)).toNatClampNeg) = nI most taken
    replace b7 : ¬ (mm.1 54 0 ((2040 + (nI q)).toNatClampNeg) = nI most) := b7
    (try simp only [e1] at b7)
    refine And.intro (show Pre_X12_ahead mm [vR 12 0] from (TXo_pre hTX)) ?_
    show X 14 [some (vR 12 0), some (vI (nI q)), some (vI (nI most)), some (vI (nI k))] [] (ahM mm)
    (try simp only [e1])
    rw [← hM]
    exact two b7
  · -- 7: mm.1 54 0 ((2040 + (nI q)).toNatClampNeg) = nI most on
    replace b7 : mm.1 54 0 ((2040 + (nI q)).toNatClampNeg) = nI most := b7
    (try simp only [e1] at b7)
    refine And.intro (show Pre_X12_fails mm [vR 12 0, vI 6] from ⟨_, rfl⟩) ?_
    refine And.intro (Or.inl rfl) ?_
    show ((some (vI 0) : Option MV), faM mm 6) = _
    (try simp only [e1])
    exact PR_f (if_pos b7)
theorem con_X12_newOne (l : Launch) : CON l y_X12_newOne prog_14_method_39_code 4 (some .boolean) rm_X12_newOne Pre_X12_newOne Fn_X12_newOne := CON_of (by decide) rfl rfl (sa_X12_newOne l) vc_X12_newOne
