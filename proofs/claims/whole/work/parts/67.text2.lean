/-! PART 67: the class: numbers, steps -/

theorem upd_cm {f : Nat → Int32} {i j : Nat} {x y : Int32} (h : i ≠ j) : upd (upd f i x) j y = upd (upd f j y) i x := by
  funext k
  unfold upd
  by_cases a : k = j
  · rw [if_pos a, if_neg (fun z => h (z.symm.trans a)), if_pos a]
  · rw [if_neg a]
    by_cases b : k = i
    · rw [if_pos b, if_pos b]
    · rw [if_neg b, if_neg b, if_neg a]
theorem mI2 {m : MM} {k g j : Nat} {x y : Int32} : mI (mI m k g j x) k g j y = mI m k g j y := by
  show mRow (mRow m k g _) k g (upd ((mRow m k g _).1 k g) j y) = _
  rw [mRow2, mRow_row, upd2]
theorem mIc {m : MM} {k g i j : Nat} {x y : Int32} (h : i ≠ j) : mI (mI m k g i x) k g j y = mI (mI m k g j y) k g i x := by
  show mRow (mRow m k g _) k g (upd ((mRow m k g _).1 k g) j y) = mRow (mRow m k g _) k g (upd ((mRow m k g _).1 k g) i x)
  rw [mRow2, mRow_row, mRow2, mRow_row, upd_cm h]
theorem mI_self {m : MM} {k g j : Nat} {x : Int32} (h : m.1 k g j = x) : mI m k g j x = m := by
  show mRow m k g _ = m
  rw [upd_self h, mRow_self]
/-- the class's text: next, number -/
def TN (m : MM) (e : Int32) (x : Int32) : MM := mI (mI m 4 0 3 e) 4 0 7 x
theorem TN3 {m : MM} {e x y : Int32} : mI (TN m e x) 4 0 3 y = TN m y x := by
  unfold TN
  rw [mIc (i := 7) (j := 3) (by decide), mI2]
theorem TN7 {m : MM} {e x y : Int32} : mI (TN m e x) 4 0 7 y = TN m e y := by
  unfold TN
  rw [mI2]
def rnE (T : Nat → Int32) (S s : Nat) : Nat := adv (cDg T S) (S - s) s
def rnM (m : MM) (s : Nat) : MM := mI (TN m (nI (rnE (m.1 26 0) (m.1 4 0 2).toNatClampNeg s)) (nc4 (m.1 26 0) s (rnE (m.1 26 0) (m.1 4 0 2).toNatClampNeg s - s))) 4 0 6 (if 4 < rnE (m.1 26 0) (m.1 4 0 2).toNatClampNeg s - s then 38 else 32)

def Pre_X4_readNumber : PreT := fun m as => ∃ S s : Nat, m.1 4 0 2 = nI S ∧ S ≤ 900 ∧ m.1 4 0 3 = nI s ∧ m.1 4 0 4 = nI s ∧ s ≤ S ∧ as = [vR 4 0]
def Fn_X4_readNumber : FnT := fun m _ => (some (vI (bI ((m.1 4 0 3).toNatClampNeg < rnE (m.1 26 0) (m.1 4 0 2).toNatClampNeg (m.1 4 0 3).toNatClampNeg))), rnM m (m.1 4 0 3).toNatClampNeg)
--tpl rfl || bI (({r 1 4 0 3}).toNatClampNeg < rnE ({r 1 26 0}) ({r 1 4 0 2}).toNatClampNeg ({r 1 4 0 3}).toNatClampNeg) || rnM {m} ({r 1 4 0 3}).toNatClampNeg
abbrev y_X4_readNumber : MethodName := ⟨"GivenUp$Text", "readNumber", "()Z"⟩
def P_X4_readNumber : List StpT := [s_aload 0, s_ic (0), s_putI 4 7, s_aload 0, s_getI 4 3, s_aload 0, s_getI 4 2, s_icge 50, s_aload 0, s_getR 4 0 26, s_aload 0, s_getI 4 3, s_bald, s_ic (48), s_iclt 50, s_aload 0, s_getR 4 0 26, s_aload 0, s_getI 4 3, s_bald, s_ic (57), s_icgt 50, s_aload 0, s_getI 4 3, s_aload 0, s_getI 4 4, s_isub, s_ic (4), s_icge 43, s_aload 0, s_aload 0, s_getI 4 7, s_ic (10), s_imul, s_aload 0, s_getR 4 0 26, s_aload 0, s_getI 4 3, s_bald, s_ic (48), s_isub, s_iadd, s_putI 4 7, s_aload 0, s_dup, s_getI 4 3, s_ic (1), s_iadd, s_putI 4 3, s_goto 3, s_aload 0, s_aload 0, s_getI 4 3, s_aload 0, s_getI 4 4, s_isub, s_ic (4), s_icle 60, s_ic (38), s_goto 61, s_ic (32), s_putI 4 6, s_aload 0, s_getI 4 3, s_aload 0, s_getI 4 4, s_icle 69, s_ic (1), s_goto 70, s_ic (0), s_zret]
def pc_X4_readNumber : Nat → Nat := fun i => [0, 1, 2, 5, 6, 9, 10, 13, 16, 17, 20, 21, 24, 25, 27, 30, 31, 34, 35, 38, 39, 41, 44, 45, 48, 49, 52, 53, 54, 57, 58, 59, 62, 64, 65, 66, 69, 70, 73, 74, 76, 77, 78, 81, 82, 83, 86, 87, 88, 91, 94, 95, 96, 99, 100, 103, 104, 105, 108, 110, 113, 115, 118, 119, 122, 123, 126, 129, 130, 133, 134].getD i 0
def dl_X4_readNumber : List (Nat × Instr × Nat) := [(0, .aload_n 0, 1), (1, .iconst 0, 1), (2, .putfield 35, 3), (5, .aload_n 0, 1), (6, .getfield 23, 3), (9, .aload_n 0, 1), (10, .getfield 19, 3), (13, .if_icmp .ge 81, 3), (16, .aload_n 0, 1), (17, .getfield 9, 3), (20, .aload_n 0, 1), (21, .getfield 23, 3), (24, .baload, 1), (25, .bipush 48, 2), (27, .if_icmp .lt 67, 3), (30, .aload_n 0, 1), (31, .getfield 9, 3), (34, .aload_n 0, 1), (35, .getfield 23, 3), (38, .baload, 1), (39, .bipush 57, 2), (41, .if_icmp .gt 53, 3), (44, .aload_n 0, 1), (45, .getfield 23, 3), (48, .aload_n 0, 1), (49, .getfield 26, 3), (52, .isub, 1), (53, .iconst 4, 1), (54, .if_icmp .ge 27, 3), (57, .aload_n 0, 1), (58, .aload_n 0, 1), (59, .getfield 35, 3), (62, .bipush 10, 2), (64, .imul, 1), (65, .aload_n 0, 1), (66, .getfield 9, 3), (69, .aload_n 0, 1), (70, .getfield 23, 3), (73, .baload, 1), (74, .bipush 48, 2), (76, .isub, 1), (77, .iadd, 1), (78, .putfield 35, 3), (81, .aload_n 0, 1), (82, .dup, 1), (83, .getfield 23, 3), (86, .iconst 1, 1), (87, .iadd, 1), (88, .putfield 23, 3), (91, .goto (-86), 3), (94, .aload_n 0, 1), (95, .aload_n 0, 1), (96, .getfield 23, 3), (99, .aload_n 0, 1), (100, .getfield 26, 3), (103, .isub, 1), (104, .iconst 4, 1), (105, .if_icmp .le 8, 3), (108, .bipush 38, 2), (110, .goto 5, 3), (113, .bipush 32, 2), (115, .putfield 32, 3), (118, .aload_n 0, 1), (119, .getfield 23, 3), (122, .aload_n 0, 1), (123, .getfield 26, 3), (126, .if_icmp .le 7, 3), (129, .iconst 1, 1), (130, .goto 4, 3), (133, .iconst 0, 1), (134, .ireturn, 1)]
theorem dc_X4_readNumber : DEC prog_6_method_6_code pc_X4_readNumber dl_X4_readNumber := DEC_of (by decide +kernel)
abbrev rm_X4_readNumber : Room := { frames := 0, cells := 0, slots := 0, locals := 0 }
set_option maxRecDepth 20000 in
theorem sa_X4_readNumber (l : Launch) : SNDALL l prog_6_method_6_code "GivenUp$Text" 1 (some .boolean) rm_X4_readNumber P_X4_readNumber pc_X4_readNumber := fun p e s m args below meth c cells slots Q D dA ad A RR hC hR => by
  have hM := RTX_room (R := rm_X4_readNumber) hR
  exact ⟨st_aload_n hC (n := 0) (k := 0) (dc_X4_readNumber 0 (0, .aload_n 0, 1) rfl rfl) rfl rfl,
    st_iconst hC (n := 1) (x := 0) (dc_X4_readNumber 1 (1, .iconst 0, 1) rfl rfl) rfl (by decide),
    st_putI hC (n := 2) (k := 4) (j := 7) (dc_X4_readNumber 2 (2, .putfield 35, 3) rfl rfl) rfl clf_4 (by decide) rfl rfl rfl wd_240,
    st_aload_n hC (n := 3) (k := 0) (dc_X4_readNumber 3 (5, .aload_n 0, 1) rfl rfl) rfl rfl,
    st_getI hC (n := 4) (k := 4) (j := 3) (dc_X4_readNumber 4 (6, .getfield 23, 3) rfl rfl) rfl clf_4 (by decide) rfl wd_233,
    st_aload_n hC (n := 5) (k := 0) (dc_X4_readNumber 5 (9, .aload_n 0, 1) rfl rfl) rfl rfl,
    st_getI hC (n := 6) (k := 4) (j := 2) (dc_X4_readNumber 6 (10, .getfield 19, 3) rfl rfl) rfl clf_4 (by decide) rfl wd_232,
    st_icge hC (n := 7) (dc_X4_readNumber 7 (13, .if_icmp .ge 81, 3) rfl rfl) rfl (by decide),
    st_aload_n hC (n := 8) (k := 0) (dc_X4_readNumber 8 (16, .aload_n 0, 1) rfl rfl) rfl rfl,
    st_getR hC (n := 9) (k := 4) (j := 0) (dc_X4_readNumber 9 (17, .getfield 9, 3) rfl rfl) rfl clf_4 (by decide) rfl (by decide) wd_230,
    st_aload_n hC (n := 10) (k := 0) (dc_X4_readNumber 10 (20, .aload_n 0, 1) rfl rfl) rfl rfl,
    st_getI hC (n := 11) (k := 4) (j := 3) (dc_X4_readNumber 11 (21, .getfield 23, 3) rfl rfl) rfl clf_4 (by decide) rfl wd_233,
    st_bald hC (n := 12) (dc_X4_readNumber 12 (24, .baload, 1) rfl rfl) rfl,
    st_bipush hC (n := 13) (x := 48) (dc_X4_readNumber 13 (25, .bipush 48, 2) rfl rfl) rfl (by decide),
    st_iclt hC (n := 14) (dc_X4_readNumber 14 (27, .if_icmp .lt 67, 3) rfl rfl) rfl (by decide),
    st_aload_n hC (n := 15) (k := 0) (dc_X4_readNumber 15 (30, .aload_n 0, 1) rfl rfl) rfl rfl,
    st_getR hC (n := 16) (k := 4) (j := 0) (dc_X4_readNumber 16 (31, .getfield 9, 3) rfl rfl) rfl clf_4 (by decide) rfl (by decide) wd_230,
    st_aload_n hC (n := 17) (k := 0) (dc_X4_readNumber 17 (34, .aload_n 0, 1) rfl rfl) rfl rfl,
    st_getI hC (n := 18) (k := 4) (j := 3) (dc_X4_readNumber 18 (35, .getfield 23, 3) rfl rfl) rfl clf_4 (by decide) rfl wd_233,
    st_bald hC (n := 19) (dc_X4_readNumber 19 (38, .baload, 1) rfl rfl) rfl,
    st_bipush hC (n := 20) (x := 57) (dc_X4_readNumber 20 (39, .bipush 57, 2) rfl rfl) rfl (by decide),
    st_icgt hC (n := 21) (dc_X4_readNumber 21 (41, .if_icmp .gt 53, 3) rfl rfl) rfl (by decide),
    st_aload_n hC (n := 22) (k := 0) (dc_X4_readNumber 22 (44, .aload_n 0, 1) rfl rfl) rfl rfl,
    st_getI hC (n := 23) (k := 4) (j := 3) (dc_X4_readNumber 23 (45, .getfield 23, 3) rfl rfl) rfl clf_4 (by decide) rfl wd_233,
    st_aload_n hC (n := 24) (k := 0) (dc_X4_readNumber 24 (48, .aload_n 0, 1) rfl rfl) rfl rfl,
    st_getI hC (n := 25) (k := 4) (j := 4) (dc_X4_readNumber 25 (49, .getfield 26, 3) rfl rfl) rfl clf_4 (by decide) rfl wd_234,
    st_isub hC (n := 26) (dc_X4_readNumber 26 (52, .isub, 1) rfl rfl) rfl,
    st_iconst hC (n := 27) (x := 4) (dc_X4_readNumber 27 (53, .iconst 4, 1) rfl rfl) rfl (by decide),
    st_icge hC (n := 28) (dc_X4_readNumber 28 (54, .if_icmp .ge 27, 3) rfl rfl) rfl (by decide),
    st_aload_n hC (n := 29) (k := 0) (dc_X4_readNumber 29 (57, .aload_n 0, 1) rfl rfl) rfl rfl,
    st_aload_n hC (n := 30) (k := 0) (dc_X4_readNumber 30 (58, .aload_n 0, 1) rfl rfl) rfl rfl,
    st_getI hC (n := 31) (k := 4) (j := 7) (dc_X4_readNumber 31 (59, .getfield 35, 3) rfl rfl) rfl clf_4 (by decide) rfl wd_240,
    st_bipush hC (n := 32) (x := 10) (dc_X4_readNumber 32 (62, .bipush 10, 2) rfl rfl) rfl (by decide),
    st_imul hC (n := 33) (dc_X4_readNumber 33 (64, .imul, 1) rfl rfl) rfl,
    st_aload_n hC (n := 34) (k := 0) (dc_X4_readNumber 34 (65, .aload_n 0, 1) rfl rfl) rfl rfl,
    st_getR hC (n := 35) (k := 4) (j := 0) (dc_X4_readNumber 35 (66, .getfield 9, 3) rfl rfl) rfl clf_4 (by decide) rfl (by decide) wd_230,
    st_aload_n hC (n := 36) (k := 0) (dc_X4_readNumber 36 (69, .aload_n 0, 1) rfl rfl) rfl rfl,
    st_getI hC (n := 37) (k := 4) (j := 3) (dc_X4_readNumber 37 (70, .getfield 23, 3) rfl rfl) rfl clf_4 (by decide) rfl wd_233,
    st_bald hC (n := 38) (dc_X4_readNumber 38 (73, .baload, 1) rfl rfl) rfl,
    st_bipush hC (n := 39) (x := 48) (dc_X4_readNumber 39 (74, .bipush 48, 2) rfl rfl) rfl (by decide),
    st_isub hC (n := 40) (dc_X4_readNumber 40 (76, .isub, 1) rfl rfl) rfl,
    st_iadd hC (n := 41) (dc_X4_readNumber 41 (77, .iadd, 1) rfl rfl) rfl,
    st_putI hC (n := 42) (k := 4) (j := 7) (dc_X4_readNumber 42 (78, .putfield 35, 3) rfl rfl) rfl clf_4 (by decide) rfl rfl rfl wd_240,
    st_aload_n hC (n := 43) (k := 0) (dc_X4_readNumber 43 (81, .aload_n 0, 1) rfl rfl) rfl rfl,
    st_dup hC (n := 44) (dc_X4_readNumber 44 (82, .dup, 1) rfl rfl) rfl,
    st_getI hC (n := 45) (k := 4) (j := 3) (dc_X4_readNumber 45 (83, .getfield 23, 3) rfl rfl) rfl clf_4 (by decide) rfl wd_233,
    st_iconst hC (n := 46) (x := 1) (dc_X4_readNumber 46 (86, .iconst 1, 1) rfl rfl) rfl (by decide),
    st_iadd hC (n := 47) (dc_X4_readNumber 47 (87, .iadd, 1) rfl rfl) rfl,
    st_putI hC (n := 48) (k := 4) (j := 3) (dc_X4_readNumber 48 (88, .putfield 23, 3) rfl rfl) rfl clf_4 (by decide) rfl rfl rfl wd_233,
    st_goto hC (n := 49) (dc_X4_readNumber 49 (91, .goto (-86), 3) rfl rfl) (by decide),
    st_aload_n hC (n := 50) (k := 0) (dc_X4_readNumber 50 (94, .aload_n 0, 1) rfl rfl) rfl rfl,
    st_aload_n hC (n := 51) (k := 0) (dc_X4_readNumber 51 (95, .aload_n 0, 1) rfl rfl) rfl rfl,
    st_getI hC (n := 52) (k := 4) (j := 3) (dc_X4_readNumber 52 (96, .getfield 23, 3) rfl rfl) rfl clf_4 (by decide) rfl wd_233,
    st_aload_n hC (n := 53) (k := 0) (dc_X4_readNumber 53 (99, .aload_n 0, 1) rfl rfl) rfl rfl,
    st_getI hC (n := 54) (k := 4) (j := 4) (dc_X4_readNumber 54 (100, .getfield 26, 3) rfl rfl) rfl clf_4 (by decide) rfl wd_234,
    st_isub hC (n := 55) (dc_X4_readNumber 55 (103, .isub, 1) rfl rfl) rfl,
    st_iconst hC (n := 56) (x := 4) (dc_X4_readNumber 56 (104, .iconst 4, 1) rfl rfl) rfl (by decide),
    st_icle hC (n := 57) (dc_X4_readNumber 57 (105, .if_icmp .le 8, 3) rfl rfl) rfl (by decide),
    st_bipush hC (n := 58) (x := 38) (dc_X4_readNumber 58 (108, .bipush 38, 2) rfl rfl) rfl (by decide),
    st_goto hC (n := 59) (dc_X4_readNumber 59 (110, .goto 5, 3) rfl rfl) (by decide),
    st_bipush hC (n := 60) (x := 32) (dc_X4_readNumber 60 (113, .bipush 32, 2) rfl rfl) rfl (by decide),
    st_putI hC (n := 61) (k := 4) (j := 6) (dc_X4_readNumber 61 (115, .putfield 32, 3) rfl rfl) rfl clf_4 (by decide) rfl rfl rfl wd_237,
    st_aload_n hC (n := 62) (k := 0) (dc_X4_readNumber 62 (118, .aload_n 0, 1) rfl rfl) rfl rfl,
    st_getI hC (n := 63) (k := 4) (j := 3) (dc_X4_readNumber 63 (119, .getfield 23, 3) rfl rfl) rfl clf_4 (by decide) rfl wd_233,
    st_aload_n hC (n := 64) (k := 0) (dc_X4_readNumber 64 (122, .aload_n 0, 1) rfl rfl) rfl rfl,
    st_getI hC (n := 65) (k := 4) (j := 4) (dc_X4_readNumber 65 (123, .getfield 26, 3) rfl rfl) rfl clf_4 (by decide) rfl wd_234,
    st_icle hC (n := 66) (dc_X4_readNumber 66 (126, .if_icmp .le 7, 3) rfl rfl) rfl (by decide),
    st_iconst hC (n := 67) (x := 1) (dc_X4_readNumber 67 (129, .iconst 1, 1) rfl rfl) rfl (by decide),
    st_goto hC (n := 68) (dc_X4_readNumber 68 (130, .goto 4, 3) rfl rfl) (by decide),
    st_iconst hC (n := 69) (x := 0) (dc_X4_readNumber 69 (133, .iconst 0, 1) rfl rfl) rfl (by decide),
    st_zret hC (n := 70) hR (dc_X4_readNumber 70 (134, .ireturn, 1) rfl rfl), trivial⟩
set_option maxRecDepth 8000 in
theorem vc_X4_readNumber : VC P_X4_readNumber 1 Pre_X4_readNumber Fn_X4_readNumber := by
  rintro mm as hom hoa ⟨S, s, hS, hS9, hs, hst, hsS, rfl⟩
  refine ⟨Nat.le_of_ble_eq_true rfl, fun X h => ?_⟩
  have hSn : (mm.1 4 0 2).toNatClampNeg = S := by rw [hS]; exact nI_clamp (by omega)
  obtain ⟨T, hT⟩ : ∃ T, mm.1 26 0 = T := ⟨_, rfl⟩
  have hF : Fn_X4_readNumber mm [vR 4 0] = (some (vI (bI (s < rnE T S s))), mI (TN mm (nI (rnE T S s)) (nc4 T s (rnE T S s - s))) 4 0 6 (if 4 < rnE T S s - s then 38 else 32)) := by
    show (some (vI (bI ((mm.1 4 0 3).toNatClampNeg < rnE (mm.1 26 0) (mm.1 4 0 2).toNatClampNeg (mm.1 4 0 3).toNatClampNeg))), rnM mm (mm.1 4 0 3).toNatClampNeg) = _
    unfold rnM
    rw [hSn, hs, hT]
    simp only [nI_clamp (show s < 2 ^ 31 by omega)]
  rw [hF] at h
  obtain ⟨E, hE⟩ : ∃ E, E = rnE T S s := ⟨_, rfl⟩
  have hsE : s ≤ E := by rw [hE]; exact adv_ge _ _ _
  have hES : E ≤ S := by
    have := adv_le (cDg T S) (S - s) s
    rw [hE]; unfold rnE; omega
  rw [← hE] at h
  obtain ⟨w, hw⟩ : ∃ w, w = nc4 T s (E - s) := ⟨_, rfl⟩
  rw [← hw] at h
  have fin : ∀ K, K = (if 4 < E - s then (38 : Int32) else 32) → X 62 [some (vR 4 0)] [] (mI (TN mm (nI E) w) 4 0 6 K) := by
    intro K hK
    subst hK
    have k : nI E ≤ nI s ↔ ¬ s < E := by rw [nI_leI (by omega) (by omega)]; omega
    show X 62 [some (vR 4 0)] [] (mI (TN mm (nI E) w) 4 0 6 (if 4 < E - s then 38 else 32))
    refine h (fun _ => false) 3000 62 _ _ _ ?_
    refine br_c (fun b66 => ?_) (fun b66 => ?_)
    · -- 66: nI E ≤ mm.1 4 0 4 taken
      replace b66 : nI E ≤ mm.1 4 0 4 := b66
      (try simp only [hst] at b66)
      refine And.intro (Or.inl rfl) ?_
      show ((some (vI 0) : Option MV), mI (TN mm (nI E) w) 4 0 6 (if 4 < E - s then 38 else 32)) = _
      (try simp only [hst])
      exact ret_f (k.mp b66)
    · -- 66: nI E ≤ mm.1 4 0 4 on
      replace b66 : ¬ (nI E ≤ mm.1 4 0 4) := b66
      (try simp only [hst] at b66)
      refine And.intro (Or.inr rfl) ?_
      show ((some (vI 1) : Option MV), mI (TN mm (nI E) w) 4 0 6 (if 4 < E - s then 38 else 32)) = _
      (try simp only [hst])
      exact ret_t (Classical.byContradiction (fun z => b66 (k.mpr z)))
  have s50 : X 50 [some (vR 4 0)] [] (TN mm (nI E) w) := by
    have k : nI E - nI s ≤ 4 ↔ ¬ 4 < E - s := by
      rw [nI_sb hsE, show (4 : Int32) = nI 4 from rfl, nI_leI (by omega) (by omega)]
      omega
    show X 50 [some (vR 4 0)] [] (TN mm (nI E) w)
    refine h (fun i => Nat.beq i 62) 3000 50 _ _ _ ?_
    refine br_c (fun b57 => ?_) (fun b57 => ?_)
    · -- 57: (nI E) - (mm.1 4 0 4) ≤ 4 taken
      replace b57 : (nI E) - (mm.1 4 0 4) ≤ 4 := b57
      (try simp only [hst] at b57)
      show X 62 [some (vR 4 0)] [] (mI (TN mm (nI E) w) 4 0 6 32)
      (try simp only [hst])
      exact fin _ (by rw [if_neg (k.mp b57)])
    · -- 57: (nI E) - (mm.1 4 0 4) ≤ 4 on
      replace b57 : ¬ ((nI E) - (mm.1 4 0 4) ≤ 4) := b57
      (try simp only [hst] at b57)
      show X 62 [some (vR 4 0)] [] (mI (TN mm (nI E) w) 4 0 6 38)
      (try simp only [hst])
      exact fin _ (by rw [if_pos (Classical.byContradiction (fun z => b57 (k.mpr z)))])
  have loop : ∀ f n, S - (s + n) < f → s + n ≤ S → adv (cDg T S) (S - (s + n)) (s + n) = E → X 3 [some (vR 4 0)] [] (TN mm (nI (s + n)) (nc4 T s n)) := by
    intro f
    induction f with
    | zero => intro n h1; omega
    | succ f ih =>
      intro n h1 h2 ha
      have en : (nI (s + n)).toNatClampNeg = s + n := nI_clamp (by omega)
      have stop : ¬ cDg T S (s + n) → X 50 [some (vR 4 0)] [] (TN mm (nI (s + n)) (nc4 T s n)) := by
        intro hc
        rw [adv_n hc] at ha
        have hn : n = E - s := by omega
        rw [ha, hn, ← hw]
        exact s50
      have go : cDg T S (s + n) → X 22 [some (vR 4 0)] [] (TN mm (nI (s + n)) (nc4 T s n)) := by
        intro hc
        have hlt := hc.1
        rw [show S - (s + n) = (S - (s + (n + 1))) + 1 by omega, adv_y hc] at ha
        have next := ih (n + 1) (by omega) (by omega) ha
        have k8 : 4 ≤ nI (s + n) - nI s ↔ ¬ n < 4 := by
          rw [nI_sb (by omega), show (4 : Int32) = nI 4 from rfl, nI_leI (by omega) (by omega)]
          omega
        rw [nc4] at next
        show X 22 [some (vR 4 0)] [] (TN mm (nI (s + n)) (nc4 T s n))
        refine h (fun i => Nat.beq i 3) 3000 22 _ _ _ ?_
        refine br_c (fun b28 => ?_) (fun b28 => ?_)
        · -- 28: 4 ≤ (nI (s + n)) - (mm.1 4 0 4) taken
          replace b28 : 4 ≤ (nI (s + n)) - (mm.1 4 0 4) := b28
          (try simp only [hst, hT, en] at b28)
          show X 3 [some (vR 4 0)] [] (mI (TN mm (nI (s + n)) (nc4 T s n)) 4 0 3 ((nI (s + n)) + 1))
          (try simp only [hst, hT, en])
          rw [if_neg (k8.mp b28)] at next
          rw [TN3, nI_1] 
          exact next
        · -- 28: 4 ≤ (nI (s + n)) - (mm.1 4 0 4) on
          replace b28 : ¬ (4 ≤ (nI (s + n)) - (mm.1 4 0 4)) := b28
          (try simp only [hst, hT, en] at b28)
          refine And.intro (show inb (nI (s + n)) (alen 26) = true from (inb_o 900 rfl rfl rfl (by omega))) ?_
          show X 3 [some (vR 4 0)] [] (mI (mI (TN mm (nI (s + n)) (nc4 T s n)) 4 0 7 (((nc4 T s n) * 10) + ((mm.1 26 0 ((nI (s + n)).toNatClampNeg)) - 48))) 4 0 3 ((nI (s + n)) + 1))
          (try simp only [hst, hT, en])
          rw [if_pos (Classical.byContradiction (fun z => b28 (k8.mpr z)))] at next
          rw [TN7, TN3, nI_1] 
          exact next
      show X 3 [some (vR 4 0)] [] (TN mm (nI (s + n)) (nc4 T s n))
      refine h (fun i => Nat.beq i 22 || Nat.beq i 50) 3000 3 _ _ _ ?_
      refine br_c (fun b7 => ?_) (fun b7 => ?_)
      · -- 7: mm.1 4 0 2 ≤ nI (s + n) taken
        replace b7 : mm.1 4 0 2 ≤ nI (s + n) := b7
        (try simp only [hT, hS, en] at b7)
        show X 50 [some (vR 4 0)] [] (TN mm (nI (s + n)) (nc4 T s n))
        (try simp only [hT, hS, en])
        exact stop (fun z => by rw [nI_leI (by omega) (by omega)] at b7; have := z.1; omega)
      · -- 7: mm.1 4 0 2 ≤ nI (s + n) on
        replace b7 : ¬ (mm.1 4 0 2 ≤ nI (s + n)) := b7
        (try simp only [hT, hS, en] at b7)
        refine And.intro (show inb (nI (s + n)) (alen 26) = true from (inb_o 900 rfl rfl rfl (by rw [nI_leI (by omega) (by omega)] at b7; omega))) ?_
        refine br_c (fun b14 => ?_) (fun b14 => ?_)
        · -- 14: mm.1 26 0 ((nI (s + n)).toNatClampNeg) < 48 taken
          replace b14 : mm.1 26 0 ((nI (s + n)).toNatClampNeg) < 48 := b14
          (try simp only [hT, hS, en] at b14)
          show X 50 [some (vR 4 0)] [] (TN mm (nI (s + n)) (nc4 T s n))
          (try simp only [hT, hS, en])
          exact stop (fun z => z.2.1 b14)
        · -- 14: mm.1 26 0 ((nI (s + n)).toNatClampNeg) < 48 on
          replace b14 : ¬ (mm.1 26 0 ((nI (s + n)).toNatClampNeg) < 48) := b14
          (try simp only [hT, hS, en] at b14)
          refine And.intro (show inb (nI (s + n)) (alen 26) = true from (inb_o 900 rfl rfl rfl (by rw [nI_leI (by omega) (by omega)] at b7; omega))) ?_
          refine br_c (fun b21 => ?_) (fun b21 => ?_)
          · -- 21: 57 < mm.1 26 0 ((nI (s + n)).toNatClampNeg) taken
            replace b21 : 57 < mm.1 26 0 ((nI (s + n)).toNatClampNeg) := b21
            (try simp only [hT, hS, en] at b21)
            show X 50 [some (vR 4 0)] [] (TN mm (nI (s + n)) (nc4 T s n))
            (try simp only [hT, hS, en])
            exact stop (fun z => z.2.2 b21)
          · -- 21: 57 < mm.1 26 0 ((nI (s + n)).toNatClampNeg) on
            replace b21 : ¬ (57 < mm.1 26 0 ((nI (s + n)).toNatClampNeg)) := b21
            (try simp only [hT, hS, en] at b21)
            show X 22 [some (vR 4 0)] [] (TN mm (nI (s + n)) (nc4 T s n))
            (try simp only [hT, hS, en])
            exact go ⟨by rw [nI_leI (by omega) (by omega)] at b7; omega, b14, b21⟩
  have l0 := loop (S - s + 1) 0 (by omega) hsS hE.symm
  show X 0 [some (vR 4 0)] [] mm
  refine h (fun i => Nat.beq i 3) 3000 0 _ _ _ ?_
  show X 3 [some (vR 4 0)] [] (mI mm 4 0 7 0)
  rw [show mI mm 4 0 7 0 = TN mm (nI (s + 0)) (nc4 T s 0) by rw [Nat.add_zero, ← hs]; unfold TN; rw [mI_self rfl]; rfl]
  exact l0
theorem con_X4_readNumber (l : Launch) : CON l y_X4_readNumber prog_6_method_6_code 1 (some .boolean) rm_X4_readNumber Pre_X4_readNumber Fn_X4_readNumber := CON_of (by decide) rfl rfl (sa_X4_readNumber l) vc_X4_readNumber
def sgK (c : Int32) : Int32 := if c = 59 then 33 else if c = 60 then 34 else if c = 61 then 36 else if c = 62 then 35 else 38

def Pre_X4_signKind : PreT := fun _ as => ∃ c : Int32, as = [vI c]
def Fn_X4_signKind : FnT := fun m as => match as with
  | [Sum.inl c] => (some (vI (sgK c)), m)
  | _ => (none, m)
--tpl ⟨_, rfl⟩ || sgK {0}
abbrev y_X4_signKind : MethodName := ⟨"GivenUp$Text", "signKind", "(I)I"⟩
def P_X4_signKind : List StpT := [s_iload 0, s_sw (tsw (59) [2, 4, 8, 6]) 10, s_ic (33), s_iret, s_ic (34), s_iret, s_ic (35), s_iret, s_ic (36), s_iret, s_ic (38), s_iret]
def pc_X4_signKind : Nat → Nat := fun i => [0, 1, 32, 34, 35, 37, 38, 40, 41, 43, 44, 46].getD i 0
def dl_X4_signKind : List (Nat × Instr × Nat) := [(0, .iload_n 0, 1), (1, .tableswitch 43 59 62 #[31, 34, 40, 37], 31), (32, .bipush 33, 2), (34, .ireturn, 1), (35, .bipush 34, 2), (37, .ireturn, 1), (38, .bipush 35, 2), (40, .ireturn, 1), (41, .bipush 36, 2), (43, .ireturn, 1), (44, .bipush 38, 2), (46, .ireturn, 1)]
theorem dc_X4_signKind : DEC prog_6_method_7_code pc_X4_signKind dl_X4_signKind := DEC_of (by decide +kernel)
abbrev rm_X4_signKind : Room := { frames := 0, cells := 0, slots := 0, locals := 0 }
set_option maxRecDepth 20000 in
theorem sa_X4_signKind (l : Launch) : SNDALL l prog_6_method_7_code "GivenUp$Text" 1 (some .int) rm_X4_signKind P_X4_signKind pc_X4_signKind := fun p e s m args below meth c cells slots Q D dA ad A RR hC hR => by
  have hM := RTX_room (R := rm_X4_signKind) hR
  exact ⟨st_iload_n hC (n := 0) (k := 0) (dc_X4_signKind 0 (0, .iload_n 0, 1) rfl rfl) rfl rfl,
    st_table hC (n := 1) (ts := [2, 4, 8, 6]) (dc_X4_signKind 1 (1, .tableswitch 43 59 62 #[31, 34, 40, 37], 31) rfl rfl) (by decide) (by decide) (by decide) (by decide) (swt_of _ _ _ (by decide +kernel)),
    st_bipush hC (n := 2) (x := 33) (dc_X4_signKind 2 (32, .bipush 33, 2) rfl rfl) rfl (by decide),
    st_iret hC (n := 3) hR (dc_X4_signKind 3 (34, .ireturn, 1) rfl rfl),
    st_bipush hC (n := 4) (x := 34) (dc_X4_signKind 4 (35, .bipush 34, 2) rfl rfl) rfl (by decide),
    st_iret hC (n := 5) hR (dc_X4_signKind 5 (37, .ireturn, 1) rfl rfl),
    st_bipush hC (n := 6) (x := 35) (dc_X4_signKind 6 (38, .bipush 35, 2) rfl rfl) rfl (by decide),
    st_iret hC (n := 7) hR (dc_X4_signKind 7 (40, .ireturn, 1) rfl rfl),
    st_bipush hC (n := 8) (x := 36) (dc_X4_signKind 8 (41, .bipush 36, 2) rfl rfl) rfl (by decide),
    st_iret hC (n := 9) hR (dc_X4_signKind 9 (43, .ireturn, 1) rfl rfl),
    st_bipush hC (n := 10) (x := 38) (dc_X4_signKind 10 (44, .bipush 38, 2) rfl rfl) rfl (by decide),
    st_iret hC (n := 11) hR (dc_X4_signKind 11 (46, .ireturn, 1) rfl rfl), trivial⟩
set_option maxRecDepth 8000 in
theorem vc_X4_signKind : VC P_X4_signKind 1 Pre_X4_signKind Fn_X4_signKind := by
  rintro mm as hom hoa ⟨c, rfl⟩
  refine ⟨Nat.le_of_ble_eq_true rfl, fun X h => ?_⟩
  replace h : RUN P_X4_signKind (fun r m' => (r, m') = (some (vI (sgK c)), mm)) X := h
  show X 0 [some (vI c)] [] mm
  refine h (fun _ => false) 3000 0 _ _ _ ?_
  refine And.intro ⟨fun b1 => ?_, fun b1 => ?_, fun b1 => ?_, fun b1 => ?_, trivial⟩ ?_
  · replace b1 : c = 59 := b1
    show ((some (vI 33) : Option MV), mm) = _
    unfold sgK
    rw [b1] 
    rfl
  · replace b1 : c = 60 := b1
    show ((some (vI 34) : Option MV), mm) = _
    unfold sgK
    rw [b1] 
    rfl
  · replace b1 : c = 61 := b1
    show ((some (vI 36) : Option MV), mm) = _
    unfold sgK
    rw [b1] 
    rfl
  · replace b1 : c = 62 := b1
    show ((some (vI 35) : Option MV), mm) = _
    unfold sgK
    rw [b1] 
    rfl
  · intro b1
    have n1_59 : ¬ c = 59 := b1 (59, 2) (by decide)
    have n1_60 : ¬ c = 60 := b1 (60, 4) (by decide)
    have n1_61 : ¬ c = 61 := b1 (61, 8) (by decide)
    have n1_62 : ¬ c = 62 := b1 (62, 6) (by decide)
    show ((some (vI 38) : Option MV), mm) = _
    unfold sgK
    rw [if_neg n1_59, if_neg n1_60, if_neg n1_61, if_neg n1_62]
theorem con_X4_signKind (l : Launch) : CON l y_X4_signKind prog_6_method_7_code 1 (some .int) rm_X4_signKind Pre_X4_signKind Fn_X4_signKind := CON_of (by decide) rfl rfl (sa_X4_signKind l) vc_X4_signKind
def blE (T : Nat → Int32) (S s : Nat) : Nat := adv (cBl T S) (S - s) s
def seM (m : MM) (e : Nat) : MM := mI (mI m 4 0 3 (nI e)) 4 0 4 (nI e)
def sp2 (m : MM) (T : Nat → Int32) (S e : Nat) : MM := if S ≤ e then mI (seM m e) 4 0 6 37 else if e < rwE T S e then rwM (seM m e) e else if e < rnE T S e then rnM (rwM (seM m e) e) e else mI (mI (rnM (rwM (seM m e) e) e) 4 0 6 (sgK (T e))) 4 0 3 (nI (e + 1))
def spM (m : MM) : MM := sp2 m (m.1 26 0) (m.1 4 0 2).toNatClampNeg (blE (m.1 26 0) (m.1 4 0 2).toNatClampNeg (m.1 4 0 3).toNatClampNeg)
def TXp (m : MM) : Prop := ∃ S n : Nat, m.1 4 0 2 = nI S ∧ S ≤ 900 ∧ m.1 4 0 3 = nI n ∧ n ≤ S

def Pre_X4_step : PreT := fun m as => TXp m ∧ as = [vR 4 0]
def Fn_X4_step : FnT := fun m _ => (none, spM m)
--tpl ⟨by assumption, rfl⟩ ||  || spM {m}
abbrev y_X4_step : MethodName := ⟨"GivenUp$Text", "step", "()V"⟩
def P_X4_step : List StpT := [s_aload 0, s_getI 4 3, s_aload 0, s_getI 4 2, s_icge 26, s_aload 0, s_getR 4 0 26, s_aload 0, s_getI 4 3, s_bald, s_ic (10), s_iceq 19, s_aload 0, s_getR 4 0 26, s_aload 0, s_getI 4 3, s_bald, s_ic (32), s_icne 26, s_aload 0, s_dup, s_getI 4 3, s_ic (1), s_iadd, s_putI 4 3, s_goto 0, s_aload 0, s_aload 0, s_getI 4 3, s_putI 4 4, s_aload 0, s_getI 4 3, s_aload 0, s_getI 4 2, s_iclt 39, s_aload 0, s_ic (37), s_putI 4 6, s_goto 59, s_aload 0, s_callV 4 0 Pre_X4_readWord Fn_X4_readWord, s_ifne 59, s_aload 0, s_callV 4 0 Pre_X4_readNumber Fn_X4_readNumber, s_ifne 59, s_aload 0, s_aload 0, s_getR 4 0 26, s_aload 0, s_getI 4 3, s_bald, s_callS 1 Pre_X4_signKind Fn_X4_signKind, s_putI 4 6, s_aload 0, s_dup, s_getI 4 3, s_ic (1), s_iadd, s_putI 4 3, s_vret]
def pc_X4_step : Nat → Nat := fun i => [0, 1, 4, 5, 8, 11, 12, 15, 16, 19, 20, 22, 25, 26, 29, 30, 33, 34, 36, 39, 40, 41, 44, 45, 46, 49, 52, 53, 54, 57, 60, 61, 64, 65, 68, 71, 72, 74, 77, 80, 81, 84, 87, 88, 91, 94, 95, 96, 99, 100, 103, 104, 107, 110, 111, 112, 115, 116, 117, 120].getD i 0
def dl_X4_step : List (Nat × Instr × Nat) := [(0, .aload_n 0, 1), (1, .getfield 23, 3), (4, .aload_n 0, 1), (5, .getfield 19, 3), (8, .if_icmp .ge 44, 3), (11, .aload_n 0, 1), (12, .getfield 9, 3), (15, .aload_n 0, 1), (16, .getfield 23, 3), (19, .baload, 1), (20, .bipush 10, 2), (22, .if_icmp .eq 17, 3), (25, .aload_n 0, 1), (26, .getfield 9, 3), (29, .aload_n 0, 1), (30, .getfield 23, 3), (33, .baload, 1), (34, .bipush 32, 2), (36, .if_icmp .ne 16, 3), (39, .aload_n 0, 1), (40, .dup, 1), (41, .getfield 23, 3), (44, .iconst 1, 1), (45, .iadd, 1), (46, .putfield 23, 3), (49, .goto (-49), 3), (52, .aload_n 0, 1), (53, .aload_n 0, 1), (54, .getfield 23, 3), (57, .putfield 26, 3), (60, .aload_n 0, 1), (61, .getfield 23, 3), (64, .aload_n 0, 1), (65, .getfield 19, 3), (68, .if_icmp .lt 12, 3), (71, .aload_n 0, 1), (72, .bipush 37, 2), (74, .putfield 32, 3), (77, .goto 43, 3), (80, .aload_n 0, 1), (81, .invokevirtual 71, 3), (84, .ifCond .ne 36, 3), (87, .aload_n 0, 1), (88, .invokevirtual 75, 3), (91, .ifCond .ne 29, 3), (94, .aload_n 0, 1), (95, .aload_n 0, 1), (96, .getfield 9, 3), (99, .aload_n 0, 1), (100, .getfield 23, 3), (103, .baload, 1), (104, .invokestatic 78, 3), (107, .putfield 32, 3), (110, .aload_n 0, 1), (111, .dup, 1), (112, .getfield 23, 3), (115, .iconst 1, 1), (116, .iadd, 1), (117, .putfield 23, 3), (120, .return_, 1)]
theorem dc_X4_step : DEC prog_6_method_4_code pc_X4_step dl_X4_step := DEC_of (by decide +kernel)
abbrev rm_X4_step : Room := { frames := 1, cells := 0, slots := 0, locals := 21 }
set_option maxRecDepth 20000 in
theorem sa_X4_step (l : Launch) : SNDALL l prog_6_method_4_code "GivenUp$Text" 1 none rm_X4_step P_X4_step pc_X4_step := fun p e s m args below meth c cells slots Q D dA ad A RR hC hR => by
  have hM := RTX_room (R := rm_X4_step) hR
  exact ⟨st_aload_n hC (n := 0) (k := 0) (dc_X4_step 0 (0, .aload_n 0, 1) rfl rfl) rfl rfl,
    st_getI hC (n := 1) (k := 4) (j := 3) (dc_X4_step 1 (1, .getfield 23, 3) rfl rfl) rfl clf_4 (by decide) rfl wd_233,
    st_aload_n hC (n := 2) (k := 0) (dc_X4_step 2 (4, .aload_n 0, 1) rfl rfl) rfl rfl,
    st_getI hC (n := 3) (k := 4) (j := 2) (dc_X4_step 3 (5, .getfield 19, 3) rfl rfl) rfl clf_4 (by decide) rfl wd_232,
    st_icge hC (n := 4) (dc_X4_step 4 (8, .if_icmp .ge 44, 3) rfl rfl) rfl (by decide),
    st_aload_n hC (n := 5) (k := 0) (dc_X4_step 5 (11, .aload_n 0, 1) rfl rfl) rfl rfl,
    st_getR hC (n := 6) (k := 4) (j := 0) (dc_X4_step 6 (12, .getfield 9, 3) rfl rfl) rfl clf_4 (by decide) rfl (by decide) wd_230,
    st_aload_n hC (n := 7) (k := 0) (dc_X4_step 7 (15, .aload_n 0, 1) rfl rfl) rfl rfl,
    st_getI hC (n := 8) (k := 4) (j := 3) (dc_X4_step 8 (16, .getfield 23, 3) rfl rfl) rfl clf_4 (by decide) rfl wd_233,
    st_bald hC (n := 9) (dc_X4_step 9 (19, .baload, 1) rfl rfl) rfl,
    st_bipush hC (n := 10) (x := 10) (dc_X4_step 10 (20, .bipush 10, 2) rfl rfl) rfl (by decide),
    st_iceq hC (n := 11) (dc_X4_step 11 (22, .if_icmp .eq 17, 3) rfl rfl) rfl (by decide),
    st_aload_n hC (n := 12) (k := 0) (dc_X4_step 12 (25, .aload_n 0, 1) rfl rfl) rfl rfl,
    st_getR hC (n := 13) (k := 4) (j := 0) (dc_X4_step 13 (26, .getfield 9, 3) rfl rfl) rfl clf_4 (by decide) rfl (by decide) wd_230,
    st_aload_n hC (n := 14) (k := 0) (dc_X4_step 14 (29, .aload_n 0, 1) rfl rfl) rfl rfl,
    st_getI hC (n := 15) (k := 4) (j := 3) (dc_X4_step 15 (30, .getfield 23, 3) rfl rfl) rfl clf_4 (by decide) rfl wd_233,
    st_bald hC (n := 16) (dc_X4_step 16 (33, .baload, 1) rfl rfl) rfl,
    st_bipush hC (n := 17) (x := 32) (dc_X4_step 17 (34, .bipush 32, 2) rfl rfl) rfl (by decide),
    st_icne hC (n := 18) (dc_X4_step 18 (36, .if_icmp .ne 16, 3) rfl rfl) rfl (by decide),
    st_aload_n hC (n := 19) (k := 0) (dc_X4_step 19 (39, .aload_n 0, 1) rfl rfl) rfl rfl,
    st_dup hC (n := 20) (dc_X4_step 20 (40, .dup, 1) rfl rfl) rfl,
    st_getI hC (n := 21) (k := 4) (j := 3) (dc_X4_step 21 (41, .getfield 23, 3) rfl rfl) rfl clf_4 (by decide) rfl wd_233,
    st_iconst hC (n := 22) (x := 1) (dc_X4_step 22 (44, .iconst 1, 1) rfl rfl) rfl (by decide),
    st_iadd hC (n := 23) (dc_X4_step 23 (45, .iadd, 1) rfl rfl) rfl,
    st_putI hC (n := 24) (k := 4) (j := 3) (dc_X4_step 24 (46, .putfield 23, 3) rfl rfl) rfl clf_4 (by decide) rfl rfl rfl wd_233,
    st_goto hC (n := 25) (dc_X4_step 25 (49, .goto (-49), 3) rfl rfl) (by decide),
    st_aload_n hC (n := 26) (k := 0) (dc_X4_step 26 (52, .aload_n 0, 1) rfl rfl) rfl rfl,
    st_aload_n hC (n := 27) (k := 0) (dc_X4_step 27 (53, .aload_n 0, 1) rfl rfl) rfl rfl,
    st_getI hC (n := 28) (k := 4) (j := 3) (dc_X4_step 28 (54, .getfield 23, 3) rfl rfl) rfl clf_4 (by decide) rfl wd_233,
    st_putI hC (n := 29) (k := 4) (j := 4) (dc_X4_step 29 (57, .putfield 26, 3) rfl rfl) rfl clf_4 (by decide) rfl rfl rfl wd_234,
    st_aload_n hC (n := 30) (k := 0) (dc_X4_step 30 (60, .aload_n 0, 1) rfl rfl) rfl rfl,
    st_getI hC (n := 31) (k := 4) (j := 3) (dc_X4_step 31 (61, .getfield 23, 3) rfl rfl) rfl clf_4 (by decide) rfl wd_233,
    st_aload_n hC (n := 32) (k := 0) (dc_X4_step 32 (64, .aload_n 0, 1) rfl rfl) rfl rfl,
    st_getI hC (n := 33) (k := 4) (j := 2) (dc_X4_step 33 (65, .getfield 19, 3) rfl rfl) rfl clf_4 (by decide) rfl wd_232,
    st_iclt hC (n := 34) (dc_X4_step 34 (68, .if_icmp .lt 12, 3) rfl rfl) rfl (by decide),
    st_aload_n hC (n := 35) (k := 0) (dc_X4_step 35 (71, .aload_n 0, 1) rfl rfl) rfl rfl,
    st_bipush hC (n := 36) (x := 37) (dc_X4_step 36 (72, .bipush 37, 2) rfl rfl) rfl (by decide),
    st_putI hC (n := 37) (k := 4) (j := 6) (dc_X4_step 37 (74, .putfield 32, 3) rfl rfl) rfl clf_4 (by decide) rfl rfl rfl wd_237,
    st_goto hC (n := 38) (dc_X4_step 38 (77, .goto 43, 3) rfl rfl) (by decide),
    st_aload_n hC (n := 39) (k := 0) (dc_X4_step 39 (80, .aload_n 0, 1) rfl rfl) rfl rfl,
    st_callV hC (n := 40) (k := 4) (na := 0) (con_X4_readWord l) (dc_X4_step 40 (81, .invokevirtual 71, 3) rfl rfl) rfl wd_863 wd_144 (by decide) ⟨rfl, rfl, by decide, by decide⟩ hM wd_860 wd_862 wd_4 clf_4,
    st_ifne hC (n := 41) (dc_X4_step 41 (84, .ifCond .ne 36, 3) rfl rfl) rfl (by decide),
    st_aload_n hC (n := 42) (k := 0) (dc_X4_step 42 (87, .aload_n 0, 1) rfl rfl) rfl rfl,
    st_callV hC (n := 43) (k := 4) (na := 0) (con_X4_readNumber l) (dc_X4_step 43 (88, .invokevirtual 75, 3) rfl rfl) rfl wd_867 wd_144 (by decide) ⟨rfl, rfl, by decide, by decide⟩ hM wd_864 wd_866 wd_5 clf_4,
    st_ifne hC (n := 44) (dc_X4_step 44 (91, .ifCond .ne 29, 3) rfl rfl) rfl (by decide),
    st_aload_n hC (n := 45) (k := 0) (dc_X4_step 45 (94, .aload_n 0, 1) rfl rfl) rfl rfl,
    st_aload_n hC (n := 46) (k := 0) (dc_X4_step 46 (95, .aload_n 0, 1) rfl rfl) rfl rfl,
    st_getR hC (n := 47) (k := 4) (j := 0) (dc_X4_step 47 (96, .getfield 9, 3) rfl rfl) rfl clf_4 (by decide) rfl (by decide) wd_230,
    st_aload_n hC (n := 48) (k := 0) (dc_X4_step 48 (99, .aload_n 0, 1) rfl rfl) rfl rfl,
    st_getI hC (n := 49) (k := 4) (j := 3) (dc_X4_step 49 (100, .getfield 23, 3) rfl rfl) rfl clf_4 (by decide) rfl wd_233,
    st_bald hC (n := 50) (dc_X4_step 50 (103, .baload, 1) rfl rfl) rfl,
    st_callS hC (n := 51) (na := 1) (con_X4_signKind l) (dc_X4_step 51 (104, .invokestatic 78, 3) rfl rfl) rfl wd_870 wd_144 (by decide) ⟨rfl, rfl, by decide, by decide⟩ hM wd_868 wd_869,
    st_putI hC (n := 52) (k := 4) (j := 6) (dc_X4_step 52 (107, .putfield 32, 3) rfl rfl) rfl clf_4 (by decide) rfl rfl rfl wd_237,
    st_aload_n hC (n := 53) (k := 0) (dc_X4_step 53 (110, .aload_n 0, 1) rfl rfl) rfl rfl,
    st_dup hC (n := 54) (dc_X4_step 54 (111, .dup, 1) rfl rfl) rfl,
    st_getI hC (n := 55) (k := 4) (j := 3) (dc_X4_step 55 (112, .getfield 23, 3) rfl rfl) rfl clf_4 (by decide) rfl wd_233,
    st_iconst hC (n := 56) (x := 1) (dc_X4_step 56 (115, .iconst 1, 1) rfl rfl) rfl (by decide),
    st_iadd hC (n := 57) (dc_X4_step 57 (116, .iadd, 1) rfl rfl) rfl,
    st_putI hC (n := 58) (k := 4) (j := 3) (dc_X4_step 58 (117, .putfield 23, 3) rfl rfl) rfl clf_4 (by decide) rfl rfl rfl wd_233,
    st_vret hC (n := 59) hR (dc_X4_step 59 (120, .return_, 1) rfl rfl), trivial⟩
set_option maxRecDepth 8000 in
theorem vc_X4_step : VC P_X4_step 1 Pre_X4_step Fn_X4_step := by
  rintro mm as hom hoa ⟨⟨S, n, hS, hS9, hn, hnS⟩, rfl⟩
  refine ⟨Nat.le_of_ble_eq_true rfl, fun X h => ?_⟩
  have hSn : (mm.1 4 0 2).toNatClampNeg = S := by rw [hS]; exact nI_clamp (by omega)
  obtain ⟨T, hT⟩ : ∃ T, mm.1 26 0 = T := ⟨_, rfl⟩
  obtain ⟨e, he⟩ : ∃ e, e = blE T S n := ⟨_, rfl⟩
  have hF : Fn_X4_step mm [vR 4 0] = (none, sp2 mm T S e) := by
    show (none, spM mm) = _
    unfold spM
    rw [hSn, hn, hT, nI_clamp (show n < 2 ^ 31 by omega), he]
  rw [hF] at h
  have hne : n ≤ e := by rw [he]; exact adv_ge _ _ _
  have heS : e ≤ S := by
    have := adv_le (cBl T S) (S - n) n
    rw [he]; unfold blE; omega
  have ee : (nI e).toNatClampNeg = e := nI_clamp (by omega)
  have c45 : ∀ M, ¬ S ≤ e → ¬ e < rwE T S e → ¬ e < rnE T S e → M = rnM (rwM (seM mm e) e) e → M.1 26 0 = T → M.1 4 0 3 = nI e → X 45 [some (vR 4 0)] [] (M) := by
    intro M h1 h2 h3 hM h26 h43
    show X 45 [some (vR 4 0)] [] M
    refine h (fun _ => false) 3000 45 _ _ _ ?_
    refine And.intro (show inb (M.1 4 0 3) (alen 26) = true from (inb_o 900 rfl rfl h43 (by omega))) ?_
    refine And.intro (show Pre_X4_signKind M [vI (M.1 26 0 ((M.1 4 0 3).toNatClampNeg))] from ⟨_, rfl⟩) ?_
    show ((none : Option MV), mI (mI M 4 0 6 (sgK (M.1 26 0 ((M.1 4 0 3).toNatClampNeg)))) 4 0 3 ((M.1 4 0 3) + 1)) = _
    (try simp only [h26, h43, ee])
    unfold sp2
    rw [if_neg h1, if_neg h2, if_neg h3, ← hM, nI_1]
  have c42 : ∀ M, ¬ S ≤ e → ¬ e < rwE T S e → M = rwM (seM mm e) e → M.1 26 0 = T → M.1 4 0 2 = nI S → M.1 4 0 3 = nI e → M.1 4 0 4 = nI e → X 42 [some (vR 4 0)] [] (M) := by
    intro M h1 h2 hM h26 h42 h43 h44
    have hs2 : (M.1 4 0 2).toNatClampNeg = S := by rw [h42]; exact nI_clamp (by omega)
    show X 42 [some (vR 4 0)] [] M
    refine h (fun i => Nat.beq i 45) 3000 42 _ _ _ ?_
    refine And.intro (show Pre_X4_readNumber M [vR 4 0] from ⟨S, e, h42, hS9, h43, h44, heS, rfl⟩) ?_
    refine brn_c (fun b44 => ?_) (fun b44 => ?_)
    · -- 44: bI ((M.1 4 0 3).toNatClampNeg < rnE (M.1 26 0) (M.1 4 0 2).toNatClampNeg (M.1 4 0 3).toNatClampNeg) = 0 taken
      replace b44 : (M.1 4 0 3).toNatClampNeg < rnE (M.1 26 0) (M.1 4 0 2).toNatClampNeg (M.1 4 0 3).toNatClampNeg := bI_n0.mp b44
      (try simp only [h26, h43, h42, ee, nI_clamp (show S < 2 ^ 31 by omega)] at b44)
      show ((none : Option MV), rnM M (M.1 4 0 3).toNatClampNeg) = _
      (try simp only [h26, h43, h42, ee, nI_clamp (show S < 2 ^ 31 by omega)])
      unfold sp2
      rw [if_neg h1, if_neg h2, if_pos b44, ← hM]
    · -- 44: bI ((M.1 4 0 3).toNatClampNeg < rnE (M.1 26 0) (M.1 4 0 2).toNatClampNeg (M.1 4 0 3).toNatClampNeg) = 0 on
      replace b44 : ¬ ((M.1 4 0 3).toNatClampNeg < rnE (M.1 26 0) (M.1 4 0 2).toNatClampNeg (M.1 4 0 3).toNatClampNeg) := bI_0.mp b44
      (try simp only [h26, h43, h42, ee, nI_clamp (show S < 2 ^ 31 by omega)] at b44)
      show X 45 [some (vR 4 0)] [] (rnM M (M.1 4 0 3).toNatClampNeg)
      (try simp only [h26, h43, h42, ee, nI_clamp (show S < 2 ^ 31 by omega)])
      refine c45 _ h1 h2 b44 (by rw [hM]) h26 ?_
      show nI (rnE (M.1 26 0) (M.1 4 0 2).toNatClampNeg e) = nI e 
      rw [h26, hs2, show rnE T S e = e from Nat.le_antisymm (Nat.not_lt.mp b44) (adv_ge _ _ _)]
  have c39 : ∀ M, ¬ S ≤ e → M = seM mm e → M.1 26 0 = T → M.1 4 0 2 = nI S → M.1 4 0 3 = nI e → M.1 4 0 4 = nI e → X 39 [some (vR 4 0)] [] (M) := by
    intro M h1 hM h26 h42 h43 h44
    have hs2 : (M.1 4 0 2).toNatClampNeg = S := by rw [h42]; exact nI_clamp (by omega)
    show X 39 [some (vR 4 0)] [] M
    refine h (fun i => Nat.beq i 42) 3000 39 _ _ _ ?_
    refine And.intro (show Pre_X4_readWord M [vR 4 0] from ⟨S, e, h42, hS9, h43, h44, heS, rfl⟩) ?_
    refine brn_c (fun b41 => ?_) (fun b41 => ?_)
    · -- 41: bI ((M.1 4 0 3).toNatClampNeg < rwE (M.1 26 0) (M.1 4 0 2).toNatClampNeg (M.1 4 0 3).toNatClampNeg) = 0 taken
      replace b41 : (M.1 4 0 3).toNatClampNeg < rwE (M.1 26 0) (M.1 4 0 2).toNatClampNeg (M.1 4 0 3).toNatClampNeg := bI_n0.mp b41
      (try simp only [h26, h43, h42, ee, nI_clamp (show S < 2 ^ 31 by omega)] at b41)
      show ((none : Option MV), rwM M (M.1 4 0 3).toNatClampNeg) = _
      (try simp only [h26, h43, h42, ee, nI_clamp (show S < 2 ^ 31 by omega)])
      unfold sp2
      rw [if_neg h1, if_pos b41, ← hM]
    · -- 41: bI ((M.1 4 0 3).toNatClampNeg < rwE (M.1 26 0) (M.1 4 0 2).toNatClampNeg (M.1 4 0 3).toNatClampNeg) = 0 on
      replace b41 : ¬ ((M.1 4 0 3).toNatClampNeg < rwE (M.1 26 0) (M.1 4 0 2).toNatClampNeg (M.1 4 0 3).toNatClampNeg) := bI_0.mp b41
      (try simp only [h26, h43, h42, ee, nI_clamp (show S < 2 ^ 31 by omega)] at b41)
      show X 42 [some (vR 4 0)] [] (rwM M (M.1 4 0 3).toNatClampNeg)
      (try simp only [h26, h43, h42, ee, nI_clamp (show S < 2 ^ 31 by omega)])
      refine c42 _ h1 b41 (by rw [hM]) h26 h42 ?_ h44
      show nI (rwE (M.1 26 0) (M.1 4 0 2).toNatClampNeg e) = nI e 
      rw [h26, hs2, show rwE T S e = e from Nat.le_antisymm (Nat.not_lt.mp b41) (adv_ge _ _ _)]
  have c26 : X 26 [some (vR 4 0)] [] (mI mm 4 0 3 (nI e)) := by
    show X 26 [some (vR 4 0)] [] (mI mm 4 0 3 (nI e))
    refine h (fun i => Nat.beq i 39) 3000 26 _ _ _ ?_
    refine br_c (fun b34 => ?_) (fun b34 => ?_)
    · -- 34: nI e < mm.1 4 0 2 taken
      replace b34 : nI e < mm.1 4 0 2 := b34
      (try simp only [hS] at b34)
      show X 39 [some (vR 4 0)] [] (mI (mI mm 4 0 3 (nI e)) 4 0 4 (nI e))
      (try simp only [hS])
      exact c39 _ (by rw [nI_ltI (by omega) (by omega)] at b34; omega) rfl hT hS rfl rfl
    · -- 34: nI e < mm.1 4 0 2 on
      replace b34 : ¬ (nI e < mm.1 4 0 2) := b34
      (try simp only [hS] at b34)
      show ((none : Option MV), mI (mI (mI mm 4 0 3 (nI e)) 4 0 4 (nI e)) 4 0 6 37) = _
      (try simp only [hS])
      unfold sp2
      rw [if_pos (by rw [nI_ltI (by omega) (by omega)] at b34; omega)] 
      rfl
  have loop : ∀ f j, S - j < f → j ≤ S → adv (cBl T S) (S - j) j = e → X 0 [some (vR 4 0)] [] (mI mm 4 0 3 (nI j)) := by
    intro f
    induction f with
    | zero => intro j h1; omega
    | succ f ih =>
      intro j h1 h2 ha
      have ej : (nI j).toNatClampNeg = j := nI_clamp (by omega)
      have stop : ¬ cBl T S j → X 26 [some (vR 4 0)] [] (mI mm 4 0 3 (nI j)) := by
        intro hc
        rw [adv_n hc] at ha
        rw [ha]
        exact c26
      have go : cBl T S j → X 19 [some (vR 4 0)] [] (mI mm 4 0 3 (nI j)) := by
        intro hc
        have hlt := hc.1
        rw [show S - j = (S - (j + 1)) + 1 by omega, adv_y hc] at ha
        have next := ih (j + 1) (by omega) (by omega) ha
        show X 19 [some (vR 4 0)] [] (mI mm 4 0 3 (nI j))
        refine h (fun i => Nat.beq i 0) 3000 19 _ _ _ ?_
        show X 0 [some (vR 4 0)] [] (mI (mI mm 4 0 3 (nI j)) 4 0 3 ((nI j) + 1))
        rw [mI2, nI_1]
        exact next
      show X 0 [some (vR 4 0)] [] (mI mm 4 0 3 (nI j))
      refine h (fun i => Nat.beq i 19 || Nat.beq i 26) 3000 0 _ _ _ ?_
      refine br_c (fun b4 => ?_) (fun b4 => ?_)
      · -- 4: mm.1 4 0 2 ≤ nI j taken
        replace b4 : mm.1 4 0 2 ≤ nI j := b4
        (try simp only [hT, hS, ej] at b4)
        show X 26 [some (vR 4 0)] [] (mI mm 4 0 3 (nI j))
        (try simp only [hT, hS, ej])
        exact stop (fun z => by rw [nI_leI (by omega) (by omega)] at b4; have := z.1; omega)
      · -- 4: mm.1 4 0 2 ≤ nI j on
        replace b4 : ¬ (mm.1 4 0 2 ≤ nI j) := b4
        (try simp only [hT, hS, ej] at b4)
        refine And.intro (show inb (nI j) (alen 26) = true from (inb_o 900 rfl rfl rfl (by rw [nI_leI (by omega) (by omega)] at b4; omega))) ?_
        refine br_c (fun b11 => ?_) (fun b11 => ?_)
        · -- 11: mm.1 26 0 ((nI j).toNatClampNeg) = 10 taken
          replace b11 : mm.1 26 0 ((nI j).toNatClampNeg) = 10 := b11
          (try simp only [hT, hS, ej] at b11)
          show X 19 [some (vR 4 0)] [] (mI mm 4 0 3 (nI j))
          (try simp only [hT, hS, ej])
          exact go ⟨by rw [nI_leI (by omega) (by omega)] at b4; omega, Or.inl b11⟩
        · -- 11: mm.1 26 0 ((nI j).toNatClampNeg) = 10 on
          replace b11 : ¬ (mm.1 26 0 ((nI j).toNatClampNeg) = 10) := b11
          (try simp only [hT, hS, ej] at b11)
          refine And.intro (show inb (nI j) (alen 26) = true from (inb_o 900 rfl rfl rfl (by rw [nI_leI (by omega) (by omega)] at b4; omega))) ?_
          refine brn_c (fun b18 => ?_) (fun b18 => ?_)
          · -- 18: mm.1 26 0 ((nI j).toNatClampNeg) = 32 taken
            replace b18 : ¬ (mm.1 26 0 ((nI j).toNatClampNeg) = 32) := b18
            (try simp only [hT, hS, ej] at b18)
            show X 26 [some (vR 4 0)] [] (mI mm 4 0 3 (nI j))
            (try simp only [hT, hS, ej])
            exact stop (fun z => z.2.elim b11 b18)
          · -- 18: mm.1 26 0 ((nI j).toNatClampNeg) = 32 on
            replace b18 : mm.1 26 0 ((nI j).toNatClampNeg) = 32 := b18
            (try simp only [hT, hS, ej] at b18)
            show X 19 [some (vR 4 0)] [] (mI mm 4 0 3 (nI j))
            (try simp only [hT, hS, ej])
            exact go ⟨by rw [nI_leI (by omega) (by omega)] at b4; omega, Or.inr b18⟩
  have l0 := loop (S - n + 1) n (by omega) hnS he.symm
  rw [mI_self hn] at l0
  exact l0
theorem con_X4_step (l : Launch) : CON l y_X4_step prog_6_method_4_code 1 none rm_X4_step Pre_X4_step Fn_X4_step := CON_of (by decide) rfl rfl (sa_X4_step l) vc_X4_step
