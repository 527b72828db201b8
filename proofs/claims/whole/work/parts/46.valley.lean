/-! PART 46: the model: a text begins; a valley's text -/

/-- a row with 0s from a place on -/
def zrR (o : Nat → Int32) (b k : Nat) : Nat → Int32 := fun j => if b ≤ j ∧ j < b + k then 0 else o j
theorem zrR_s (o : Nat → Int32) (b k : Nat) : upd (zrR o b k) (b + k) 0 = zrR o b (k + 1) := by
  funext j
  unfold upd zrR
  repeat' split
  all_goals first | rfl | (exfalso; omega)
theorem zrR_0 (o : Nat → Int32) (b : Nat) : zrR o b 0 = o := by
  funext j
  unfold zrR
  rw [if_neg (by omega)]
def plR (o : Nat → Int32) (b : Nat) : Nat → Int32 := upd (upd (upd (zrR o b 510) (b + 4) 2) (b + 5) 4) (b + 10) (-1)

--tpl ⟨{1N}, by omega, rfl⟩ ||  || mRow {m} 54 0 (plR ({r 1 54 0}) {1n})
def Pre_X12_plain : PreT := fun _ as => ∃ b : Nat, b + 510 ≤ 3060 ∧ as = [vR 12 0, vI (nI b)]
def Fn_X12_plain : FnT := fun m as => match as with
  | [_, Sum.inl x] => (none, mRow m 54 0 (plR (m.1 54 0) x.toNatClampNeg))
  | _ => (none, m)
abbrev y_X12_plain : MethodName := ⟨"GivenUpModel", "plain", "(I)V"⟩
def P_X12_plain : List StpT := [s_ic (0), s_istore 2, s_iload 2, s_ic (510), s_icge 14, s_aload 0, s_getR 12 0 54, s_iload 1, s_iload 2, s_iadd, s_ic (0), s_iast, s_iinc 2 (1), s_goto 2, s_aload 0, s_getR 12 0 54, s_iload 1, s_ic (4), s_iadd, s_ic (2), s_iast, s_aload 0, s_getR 12 0 54, s_iload 1, s_ic (5), s_iadd, s_ic (4), s_iast, s_aload 0, s_getR 12 0 54, s_iload 1, s_ic (10), s_iadd, s_ic (-1), s_iast, s_vret]
def pc_X12_plain : Nat → Nat := fun i => [0, 1, 2, 3, 6, 9, 10, 13, 14, 15, 16, 17, 18, 21, 24, 25, 28, 29, 30, 31, 32, 33, 34, 37, 38, 39, 40, 41, 42, 43, 46, 47, 49, 50, 51, 52].getD i 0
def dl_X12_plain : List (Nat × Instr × Nat) := [(0, .iconst 0, 1), (1, .istore_n 2, 1), (2, .iload_n 2, 1), (3, .sipush 510, 3), (6, .if_icmp .ge 18, 3), (9, .aload_n 0, 1), (10, .getfield 7, 3), (13, .iload_n 1, 1), (14, .iload_n 2, 1), (15, .iadd, 1), (16, .iconst 0, 1), (17, .iastore, 1), (18, .iinc 2 1, 3), (21, .goto (-19), 3), (24, .aload_n 0, 1), (25, .getfield 7, 3), (28, .iload_n 1, 1), (29, .iconst 4, 1), (30, .iadd, 1), (31, .iconst 2, 1), (32, .iastore, 1), (33, .aload_n 0, 1), (34, .getfield 7, 3), (37, .iload_n 1, 1), (38, .iconst 5, 1), (39, .iadd, 1), (40, .iconst 4, 1), (41, .iastore, 1), (42, .aload_n 0, 1), (43, .getfield 7, 3), (46, .iload_n 1, 1), (47, .bipush 10, 2), (49, .iadd, 1), (50, .iconst (-1), 1), (51, .iastore, 1), (52, .return_, 1)]
theorem dc_X12_plain : DEC prog_14_method_2_code pc_X12_plain dl_X12_plain := DEC_of (by decide +kernel)
abbrev rm_X12_plain : Room := { frames := 0, cells := 0, slots := 0, locals := 0 }
set_option maxRecDepth 20000 in
theorem sa_X12_plain (l : Launch) : SNDALL l prog_14_method_2_code "GivenUpModel" 3 none rm_X12_plain P_X12_plain pc_X12_plain := fun p e s m args below meth c cells slots Q D dA ad A RR hC hR => by
  have hM := RTX_room (R := rm_X12_plain) hR
  exact ⟨st_iconst hC (n := 0) (x := 0) (dc_X12_plain 0 (0, .iconst 0, 1) rfl rfl) rfl (by decide),
    st_istore_n hC (n := 1) (k := 2) (dc_X12_plain 1 (1, .istore_n 2, 1) rfl rfl) rfl rfl (by decide),
    st_iload_n hC (n := 2) (k := 2) (dc_X12_plain 2 (2, .iload_n 2, 1) rfl rfl) rfl rfl,
    st_sipush hC (n := 3) (x := 510) (dc_X12_plain 3 (3, .sipush 510, 3) rfl rfl) rfl (by decide),
    st_icge hC (n := 4) (dc_X12_plain 4 (6, .if_icmp .ge 18, 3) rfl rfl) rfl (by decide),
    st_aload_n hC (n := 5) (k := 0) (dc_X12_plain 5 (9, .aload_n 0, 1) rfl rfl) rfl rfl,
    st_getR hC (n := 6) (k := 12) (j := 0) (dc_X12_plain 6 (10, .getfield 7, 3) rfl rfl) rfl clf_12 (by decide) rfl (by decide) wd_1552,
    st_iload_n hC (n := 7) (k := 1) (dc_X12_plain 7 (13, .iload_n 1, 1) rfl rfl) rfl rfl,
    st_iload_n hC (n := 8) (k := 2) (dc_X12_plain 8 (14, .iload_n 2, 1) rfl rfl) rfl rfl,
    st_iadd hC (n := 9) (dc_X12_plain 9 (15, .iadd, 1) rfl rfl) rfl,
    st_iconst hC (n := 10) (x := 0) (dc_X12_plain 10 (16, .iconst 0, 1) rfl rfl) rfl (by decide),
    st_iast hC (n := 11) (dc_X12_plain 11 (17, .iastore, 1) rfl rfl) rfl,
    st_iinc hC (n := 12) (x := 1) (dc_X12_plain 12 (18, .iinc 2 1, 3) rfl rfl) rfl (by decide) (by decide),
    st_goto hC (n := 13) (dc_X12_plain 13 (21, .goto (-19), 3) rfl rfl) (by decide),
    st_aload_n hC (n := 14) (k := 0) (dc_X12_plain 14 (24, .aload_n 0, 1) rfl rfl) rfl rfl,
    st_getR hC (n := 15) (k := 12) (j := 0) (dc_X12_plain 15 (25, .getfield 7, 3) rfl rfl) rfl clf_12 (by decide) rfl (by decide) wd_1552,
    st_iload_n hC (n := 16) (k := 1) (dc_X12_plain 16 (28, .iload_n 1, 1) rfl rfl) rfl rfl,
    st_iconst hC (n := 17) (x := 4) (dc_X12_plain 17 (29, .iconst 4, 1) rfl rfl) rfl (by decide),
    st_iadd hC (n := 18) (dc_X12_plain 18 (30, .iadd, 1) rfl rfl) rfl,
    st_iconst hC (n := 19) (x := 2) (dc_X12_plain 19 (31, .iconst 2, 1) rfl rfl) rfl (by decide),
    st_iast hC (n := 20) (dc_X12_plain 20 (32, .iastore, 1) rfl rfl) rfl,
    st_aload_n hC (n := 21) (k := 0) (dc_X12_plain 21 (33, .aload_n 0, 1) rfl rfl) rfl rfl,
    st_getR hC (n := 22) (k := 12) (j := 0) (dc_X12_plain 22 (34, .getfield 7, 3) rfl rfl) rfl clf_12 (by decide) rfl (by decide) wd_1552,
    st_iload_n hC (n := 23) (k := 1) (dc_X12_plain 23 (37, .iload_n 1, 1) rfl rfl) rfl rfl,
    st_iconst hC (n := 24) (x := 5) (dc_X12_plain 24 (38, .iconst 5, 1) rfl rfl) rfl (by decide),
    st_iadd hC (n := 25) (dc_X12_plain 25 (39, .iadd, 1) rfl rfl) rfl,
    st_iconst hC (n := 26) (x := 4) (dc_X12_plain 26 (40, .iconst 4, 1) rfl rfl) rfl (by decide),
    st_iast hC (n := 27) (dc_X12_plain 27 (41, .iastore, 1) rfl rfl) rfl,
    st_aload_n hC (n := 28) (k := 0) (dc_X12_plain 28 (42, .aload_n 0, 1) rfl rfl) rfl rfl,
    st_getR hC (n := 29) (k := 12) (j := 0) (dc_X12_plain 29 (43, .getfield 7, 3) rfl rfl) rfl clf_12 (by decide) rfl (by decide) wd_1552,
    st_iload_n hC (n := 30) (k := 1) (dc_X12_plain 30 (46, .iload_n 1, 1) rfl rfl) rfl rfl,
    st_bipush hC (n := 31) (x := 10) (dc_X12_plain 31 (47, .bipush 10, 2) rfl rfl) rfl (by decide),
    st_iadd hC (n := 32) (dc_X12_plain 32 (49, .iadd, 1) rfl rfl) rfl,
    st_iconst hC (n := 33) (x := (-1)) (dc_X12_plain 33 (50, .iconst (-1), 1) rfl rfl) rfl (by decide),
    st_iast hC (n := 34) (dc_X12_plain 34 (51, .iastore, 1) rfl rfl) rfl,
    st_vret hC (n := 35) hR (dc_X12_plain 35 (52, .return_, 1) rfl rfl), trivial⟩
set_option maxRecDepth 8000 in
theorem vc_X12_plain : VC P_X12_plain 3 Pre_X12_plain Fn_X12_plain := by
  rintro mm as hom hoa ⟨b, hb, rfl⟩
  refine ⟨Nat.le_of_ble_eq_true rfl, fun X h => ?_⟩
  have eb : (nI b).toNatClampNeg = b := nI_clamp (by omega)
  have hF : Fn_X12_plain mm [vR 12 0, vI (nI b)] = (none, mRow mm 54 0 (plR (mm.1 54 0) b)) := by
    show (none, mRow mm 54 0 (plR (mm.1 54 0) (nI b).toNatClampNeg)) = _
    rw [eb]
  rw [hF] at h
  have loop : ∀ k, k ≤ 510 → X 2 [some (vR 12 0), some (vI (nI b)), some (vI (nI k))] [] (mRow mm 54 0 (zrR (mm.1 54 0) b k)) := by
    refine up_ind 510 ?_ (fun k hk ih => ?_)
    · have e4 : (nI b + 4).toNatClampNeg = b + 4 := by simp (disch := omega) only [li, pk_mul, nI_add, nI_clamp]
      have e5 : (nI b + 5).toNatClampNeg = b + 5 := by simp (disch := omega) only [li, pk_mul, nI_add, nI_clamp]
      have e10 : (nI b + 10).toNatClampNeg = b + 10 := by simp (disch := omega) only [li, pk_mul, nI_add, nI_clamp]
      show X 2 [some (vR 12 0), some (vI (nI b)), some (vI (nI 510))] [] (mRow mm 54 0 (zrR (mm.1 54 0) b 510))
      refine h (fun _ => false) 3000 2 _ _ _ ?_
      refine br_t (Int32.le_refl _) ?_
      refine And.intro (show inb ((nI b) + 4) (alen 54) = true from (inb_o 3060 rfl rfl (show nI b + 4 = nI (b + 4) by simp (disch := omega) only [li, pk_mul, nI_add, nI_clamp]) (by omega))) ?_
      refine And.intro (show inb ((nI b) + 5) (alen 54) = true from (inb_o 3060 rfl rfl (show nI b + 5 = nI (b + 5) by simp (disch := omega) only [li, pk_mul, nI_add, nI_clamp]) (by omega))) ?_
      refine And.intro (show inb ((nI b) + 10) (alen 54) = true from (inb_o 3060 rfl rfl (show nI b + 10 = nI (b + 10) by simp (disch := omega) only [li, pk_mul, nI_add, nI_clamp]) (by omega))) ?_
      show ((none : Option MV), mRow (mRow (mRow (mRow mm 54 0 (zrR (mm.1 54 0) b 510)) 54 0 (upd (zrR (mm.1 54 0) b 510) ((nI b) + 4).toNatClampNeg 2)) 54 0 (upd (upd (zrR (mm.1 54 0) b 510) ((nI b) + 4).toNatClampNeg 2) ((nI b) + 5).toNatClampNeg 4)) 54 0 (upd (upd (upd (zrR (mm.1 54 0) b 510) ((nI b) + 4).toNatClampNeg 2) ((nI b) + 5).toNatClampNeg 4) ((nI b) + 10).toNatClampNeg (-1))) = _
      rw [e4, e5, e10, mRow2, mRow2, mRow2]
      exact rfl
    · have ek : (nI b + nI k).toNatClampNeg = b + k := by simp (disch := omega) only [li, pk_mul, nI_add, nI_clamp]
      show X 2 [some (vR 12 0), some (vI (nI b)), some (vI (nI k))] [] (mRow mm 54 0 (zrR (mm.1 54 0) b k))
      refine h (fun i => Nat.beq i 2) 3000 2 _ _ _ ?_
      refine br_f (show ¬ nI 510 ≤ nI k from nI_ge hk (by omega)) ?_
      refine And.intro (show inb ((nI b) + (nI k)) (alen 54) = true from (inb_o 3060 rfl rfl (show (nI b) + (nI k) = nI (( b) + ( k)) by simp (disch := omega) only [li, pk_mul, nI_add, nI_clamp]) (by omega))) ?_
      show X 2 [some (vR 12 0), some (vI (nI b)), some (vI ((nI k) + 1))] [] (mRow (mRow mm 54 0 (zrR (mm.1 54 0) b k)) 54 0 (upd (zrR (mm.1 54 0) b k) ((nI b) + (nI k)).toNatClampNeg 0))
      rw [ek, mRow2, zrR_s, nI_1]
      exact ih
  have l0 := loop 0 (by omega)
  have e0 : mRow mm 54 0 (zrR (mm.1 54 0) b 0) = mm := by rw [zrR_0]; exact mRow_self _ _ _
  rw [e0] at l0
  show X 0 [some (vR 12 0), some (vI (nI b)), none] [] mm
  refine h (fun i => Nat.beq i 2) 3000 0 _ _ _ ?_
  show X 2 [some (vR 12 0), some (vI (nI b)), some (vI 0)] [] mm
  exact l0
theorem con_X12_plain (l : Launch) : CON l y_X12_plain prog_14_method_2_code 3 none rm_X12_plain Pre_X12_plain Fn_X12_plain := CON_of (by decide) rfl rfl (sa_X12_plain l) vc_X12_plain
/-- the first bytes of the tape come to the text -/
def cpB (T P : Nat → Int32) (k : Nat) : Nat → Int32 := fun j => if j < k then vp_nar .byte (P j) else T j
theorem cpB_s (T P : Nat → Int32) (k : Nat) : upd (cpB T P k) k (vp_nar .byte (P k)) = cpB T P (k + 1) := by
  funext j
  unfold upd cpB
  by_cases h : j = k
  · subst h
    rw [if_pos rfl, if_pos (by omega)]
  · rw [if_neg h]
    by_cases h2 : j < k
    · rw [if_pos h2, if_pos (by omega)]
    · rw [if_neg h2, if_neg (by omega)]
theorem cpB_0 (T P : Nat → Int32) : cpB T P 0 = T := by
  funext j
  unfold cpB
  rw [if_neg (by omega)]
abbrev bgP (m : MM) (n q : Int32) : Prop := ¬ n < 0 ∧ ¬ m.1 12 0 10 < n ∧ ¬ q < n
def bgT (m : MM) (k : Nat) : MM := mRow (mI m 12 0 11 (nI k)) 60 0 (cpB (m.1 60 0) (m.1 59 0) k)
def bgF (m : MM) : MM := mI (mI (mI (mI (mI m 12 0 10 0) 12 0 18 0) 12 0 17 (-1)) 12 0 14 0) 12 0 19 0
def bgM (m : MM) (k : Nat) : MM := ahM (bgF (bgT m k))
theorem bg_pre {m : MM} {k : Nat} (hk : k ≤ 900) : Pre_X12_ahead (bgF (bgT m k)) [vR 12 0] := ⟨k, 0, rfl, hk, rfl, by omega, rfl⟩

--tpl ⟨_, _, _, by assumption, by assumption, rfl⟩ || bI (bgP {m} {1} {2}) || mite (bgP {m} {1} {2}) (bgM {m} {1n}) {m}
def Pre_X12_begins : PreT := fun m as => ∃ (t : Nat) (n q : Int32), m.1 12 0 10 = nI t ∧ t ≤ 900 ∧ as = [vR 12 0, vI n, vI q]
def Fn_X12_begins : FnT := fun m as => match as with
  | [_, Sum.inl n, Sum.inl q] => (some (vI (bI (bgP m n q))), mite (bgP m n q) (bgM m n.toNatClampNeg) m)
  | _ => (none, m)
abbrev y_X12_begins : MethodName := ⟨"GivenUpModel", "begins", "(II)Z"⟩
def P_X12_begins : List StpT := [s_iload 1, s_iflt 9, s_iload 1, s_aload 0, s_getI 12 10, s_icgt 9, s_iload 1, s_iload 2, s_icle 11, s_ic (0), s_zret, s_aload 0, s_iload 1, s_putI 12 11, s_ic (0), s_istore 3, s_iload 3, s_iload 1, s_icge 29, s_aload 0, s_getR 12 9 60, s_iload 3, s_aload 0, s_getR 12 8 59, s_iload 3, s_bald, s_bast, s_iinc 3 (1), s_goto 16, s_aload 0, s_ic (0), s_putI 12 10, s_aload 0, s_ic (0), s_putI 12 18, s_aload 0, s_ic (-1), s_putI 12 17, s_aload 0, s_ic (0), s_putI 12 14, s_aload 0, s_ic (0), s_putI 12 19, s_aload 0, s_callV 12 0 Pre_X12_ahead Fn_X12_ahead, s_ic (1), s_zret]
def pc_X12_begins : Nat → Nat := fun i => [0, 1, 4, 5, 6, 9, 12, 13, 14, 17, 18, 19, 20, 21, 24, 25, 26, 27, 28, 31, 32, 35, 36, 37, 40, 41, 42, 43, 46, 49, 50, 51, 54, 55, 56, 59, 60, 61, 64, 65, 66, 69, 70, 71, 74, 75, 78, 79].getD i 0
def dl_X12_begins : List (Nat × Instr × Nat) := [(0, .iload_n 1, 1), (1, .ifCond .lt 16, 3), (4, .iload_n 1, 1), (5, .aload_n 0, 1), (6, .getfield 111, 3), (9, .if_icmp .gt 8, 3), (12, .iload_n 1, 1), (13, .iload_n 2, 1), (14, .if_icmp .le 5, 3), (17, .iconst 0, 1), (18, .ireturn, 1), (19, .aload_n 0, 1), (20, .iload_n 1, 1), (21, .putfield 117, 3), (24, .iconst 0, 1), (25, .istore_n 3, 1), (26, .iload_n 3, 1), (27, .iload_n 1, 1), (28, .if_icmp .ge 21, 3), (31, .aload_n 0, 1), (32, .getfield 34, 3), (35, .iload_n 3, 1), (36, .aload_n 0, 1), (37, .getfield 30, 3), (40, .iload_n 3, 1), (41, .baload, 1), (42, .bastore, 1), (43, .iinc 3 1, 3), (46, .goto (-20), 3), (49, .aload_n 0, 1), (50, .iconst 0, 1), (51, .putfield 111, 3), (54, .aload_n 0, 1), (55, .iconst 0, 1), (56, .putfield 157, 3), (59, .aload_n 0, 1), (60, .iconst (-1), 1), (61, .putfield 41, 3), (64, .aload_n 0, 1), (65, .iconst 0, 1), (66, .putfield 120, 3), (69, .aload_n 0, 1), (70, .iconst 0, 1), (71, .putfield 160, 3), (74, .aload_n 0, 1), (75, .invokevirtual 163, 3), (78, .iconst 1, 1), (79, .ireturn, 1)]
theorem dc_X12_begins : DEC prog_14_method_29_code pc_X12_begins dl_X12_begins := DEC_of (by decide +kernel)
abbrev rm_X12_begins : Room := { frames := 2, cells := 0, slots := 0, locals := 42 }
set_option maxRecDepth 20000 in
theorem sa_X12_begins (l : Launch) : SNDALL l prog_14_method_29_code "GivenUpModel" 4 (some .boolean) rm_X12_begins P_X12_begins pc_X12_begins := fun p e s m args below meth c cells slots Q D dA ad A RR hC hR => by
  have hM := RTX_room (R := rm_X12_begins) hR
  exact ⟨st_iload_n hC (n := 0) (k := 1) (dc_X12_begins 0 (0, .iload_n 1, 1) rfl rfl) rfl rfl,
    st_iflt hC (n := 1) (dc_X12_begins 1 (1, .ifCond .lt 16, 3) rfl rfl) rfl (by decide),
    st_iload_n hC (n := 2) (k := 1) (dc_X12_begins 2 (4, .iload_n 1, 1) rfl rfl) rfl rfl,
    st_aload_n hC (n := 3) (k := 0) (dc_X12_begins 3 (5, .aload_n 0, 1) rfl rfl) rfl rfl,
    st_getI hC (n := 4) (k := 12) (j := 10) (dc_X12_begins 4 (6, .getfield 111, 3) rfl rfl) rfl clf_12 (by decide) rfl wd_1562,
    st_icgt hC (n := 5) (dc_X12_begins 5 (9, .if_icmp .gt 8, 3) rfl rfl) rfl (by decide),
    st_iload_n hC (n := 6) (k := 1) (dc_X12_begins 6 (12, .iload_n 1, 1) rfl rfl) rfl rfl,
    st_iload_n hC (n := 7) (k := 2) (dc_X12_begins 7 (13, .iload_n 2, 1) rfl rfl) rfl rfl,
    st_icle hC (n := 8) (dc_X12_begins 8 (14, .if_icmp .le 5, 3) rfl rfl) rfl (by decide),
    st_iconst hC (n := 9) (x := 0) (dc_X12_begins 9 (17, .iconst 0, 1) rfl rfl) rfl (by decide),
    st_zret hC (n := 10) hR (dc_X12_begins 10 (18, .ireturn, 1) rfl rfl),
    st_aload_n hC (n := 11) (k := 0) (dc_X12_begins 11 (19, .aload_n 0, 1) rfl rfl) rfl rfl,
    st_iload_n hC (n := 12) (k := 1) (dc_X12_begins 12 (20, .iload_n 1, 1) rfl rfl) rfl rfl,
    st_putI hC (n := 13) (k := 12) (j := 11) (dc_X12_begins 13 (21, .putfield 117, 3) rfl rfl) rfl clf_12 (by decide) rfl rfl rfl wd_1563,
    st_iconst hC (n := 14) (x := 0) (dc_X12_begins 14 (24, .iconst 0, 1) rfl rfl) rfl (by decide),
    st_istore_n hC (n := 15) (k := 3) (dc_X12_begins 15 (25, .istore_n 3, 1) rfl rfl) rfl rfl (by decide),
    st_iload_n hC (n := 16) (k := 3) (dc_X12_begins 16 (26, .iload_n 3, 1) rfl rfl) rfl rfl,
    st_iload_n hC (n := 17) (k := 1) (dc_X12_begins 17 (27, .iload_n 1, 1) rfl rfl) rfl rfl,
    st_icge hC (n := 18) (dc_X12_begins 18 (28, .if_icmp .ge 21, 3) rfl rfl) rfl (by decide),
    st_aload_n hC (n := 19) (k := 0) (dc_X12_begins 19 (31, .aload_n 0, 1) rfl rfl) rfl rfl,
    st_getR hC (n := 20) (k := 12) (j := 9) (dc_X12_begins 20 (32, .getfield 34, 3) rfl rfl) rfl clf_12 (by decide) rfl (by decide) wd_1561,
    st_iload_n hC (n := 21) (k := 3) (dc_X12_begins 21 (35, .iload_n 3, 1) rfl rfl) rfl rfl,
    st_aload_n hC (n := 22) (k := 0) (dc_X12_begins 22 (36, .aload_n 0, 1) rfl rfl) rfl rfl,
    st_getR hC (n := 23) (k := 12) (j := 8) (dc_X12_begins 23 (37, .getfield 30, 3) rfl rfl) rfl clf_12 (by decide) rfl (by decide) wd_1560,
    st_iload_n hC (n := 24) (k := 3) (dc_X12_begins 24 (40, .iload_n 3, 1) rfl rfl) rfl rfl,
    st_bald hC (n := 25) (dc_X12_begins 25 (41, .baload, 1) rfl rfl) rfl,
    st_bast hC (n := 26) (dc_X12_begins 26 (42, .bastore, 1) rfl rfl) rfl,
    st_iinc hC (n := 27) (x := 1) (dc_X12_begins 27 (43, .iinc 3 1, 3) rfl rfl) rfl (by decide) (by decide),
    st_goto hC (n := 28) (dc_X12_begins 28 (46, .goto (-20), 3) rfl rfl) (by decide),
    st_aload_n hC (n := 29) (k := 0) (dc_X12_begins 29 (49, .aload_n 0, 1) rfl rfl) rfl rfl,
    st_iconst hC (n := 30) (x := 0) (dc_X12_begins 30 (50, .iconst 0, 1) rfl rfl) rfl (by decide),
    st_putI hC (n := 31) (k := 12) (j := 10) (dc_X12_begins 31 (51, .putfield 111, 3) rfl rfl) rfl clf_12 (by decide) rfl rfl rfl wd_1562,
    st_aload_n hC (n := 32) (k := 0) (dc_X12_begins 32 (54, .aload_n 0, 1) rfl rfl) rfl rfl,
    st_iconst hC (n := 33) (x := 0) (dc_X12_begins 33 (55, .iconst 0, 1) rfl rfl) rfl (by decide),
    st_putI hC (n := 34) (k := 12) (j := 18) (dc_X12_begins 34 (56, .putfield 157, 3) rfl rfl) rfl clf_12 (by decide) rfl rfl rfl wd_1570,
    st_aload_n hC (n := 35) (k := 0) (dc_X12_begins 35 (59, .aload_n 0, 1) rfl rfl) rfl rfl,
    st_iconst hC (n := 36) (x := (-1)) (dc_X12_begins 36 (60, .iconst (-1), 1) rfl rfl) rfl (by decide),
    st_putI hC (n := 37) (k := 12) (j := 17) (dc_X12_begins 37 (61, .putfield 41, 3) rfl rfl) rfl clf_12 (by decide) rfl rfl rfl wd_1569,
    st_aload_n hC (n := 38) (k := 0) (dc_X12_begins 38 (64, .aload_n 0, 1) rfl rfl) rfl rfl,
    st_iconst hC (n := 39) (x := 0) (dc_X12_begins 39 (65, .iconst 0, 1) rfl rfl) rfl (by decide),
    st_putI hC (n := 40) (k := 12) (j := 14) (dc_X12_begins 40 (66, .putfield 120, 3) rfl rfl) rfl clf_12 (by decide) rfl rfl rfl wd_1566,
    st_aload_n hC (n := 41) (k := 0) (dc_X12_begins 41 (69, .aload_n 0, 1) rfl rfl) rfl rfl,
    st_iconst hC (n := 42) (x := 0) (dc_X12_begins 42 (70, .iconst 0, 1) rfl rfl) rfl (by decide),
    st_putI hC (n := 43) (k := 12) (j := 19) (dc_X12_begins 43 (71, .putfield 160, 3) rfl rfl) rfl clf_12 (by decide) rfl rfl rfl wd_1571,
    st_aload_n hC (n := 44) (k := 0) (dc_X12_begins 44 (74, .aload_n 0, 1) rfl rfl) rfl rfl,
    st_callV hC (n := 45) (k := 12) (na := 0) (con_X12_ahead l) (dc_X12_begins 45 (75, .invokevirtual 163, 3) rfl rfl) rfl wd_1742 wd_160 (by decide) ⟨rfl, rfl, by decide, by decide⟩ hM wd_1739 wd_1741 wd_55 clf_12,
    st_iconst hC (n := 46) (x := 1) (dc_X12_begins 46 (78, .iconst 1, 1) rfl rfl) rfl (by decide),
    st_zret hC (n := 47) hR (dc_X12_begins 47 (79, .ireturn, 1) rfl rfl), trivial⟩
set_option maxRecDepth 8000 in
theorem vc_X12_begins : VC P_X12_begins 4 Pre_X12_begins Fn_X12_begins := by
  rintro mm as hom hoa ⟨t, n, q, ht, ht9, rfl⟩
  refine ⟨Nat.le_of_ble_eq_true rfl, fun X h => ?_⟩
  have hF : Fn_X12_begins mm [vR 12 0, vI n, vI q] = (some (vI (bI (bgP mm n q))), mite (bgP mm n q) (bgM mm n.toNatClampNeg) mm) := rfl
  rw [hF] at h
  have no : ¬ bgP mm n q → X 9 [some (vR 12 0), some (vI (n)), some (vI (q)), none] [] mm := by
    intro hc
    show X 9 [some (vR 12 0), some (vI n), some (vI q), none] [] mm
    refine h (fun _ => false) 3000 9 _ _ _ ?_
    refine And.intro (Or.inl rfl) ?_
    show ((some (vI 0) : Option MV), mm) = _
    exact rit_f hc
  have yes : bgP mm n q → X 11 [some (vR 12 0), some (vI (n)), some (vI (q)), none] [] mm := by
    intro hc
    obtain ⟨k, hk, rfl⟩ : ∃ k, k ≤ 900 ∧ n = nI k := by
      have h2 := hc.2.1
      rw [ht] at h2
      obtain ⟨k, hk, e⟩ := nI_of2 (n := t) (x := n) (nI_toInt (by omega)) hc.1 (Int32.not_lt.mp h2)
      exact ⟨k, by omega, e⟩
    have hr := rit_t (a := bgM mm (nI k).toNatClampNeg) (b := mm) hc
    rw [← hr, nI_clamp (show k < 2 ^ 31 by omega)] at h
    have loop : ∀ i, i ≤ k → X 16 [some (vR 12 0), some (vI (nI k)), some (vI (q)), some (vI (nI i))] [] (mRow (mI mm 12 0 11 (nI k)) 60 0 (cpB (mm.1 60 0) (mm.1 59 0) i)) := by
      refine up_ind k ?_ (fun i hi ih => ?_)
      ·
        show X 16 [some (vR 12 0), some (vI (nI k)), some (vI q), some (vI (nI k))] [] (mRow (mI mm 12 0 11 (nI k)) 60 0 (cpB (mm.1 60 0) (mm.1 59 0) k))
        refine h (fun _ => false) 3000 16 _ _ _ ?_
        refine br_t (Int32.le_refl _) ?_
        refine And.intro (show Pre_X12_ahead (mI (mI (mI (mI (mI (mRow (mI mm 12 0 11 (nI k)) 60 0 (cpB (mm.1 60 0) (mm.1 59 0) k)) 12 0 10 0) 12 0 18 0) 12 0 17 (-1)) 12 0 14 0) 12 0 19 0) [vR 12 0] from bg_pre (m := mm) hk) ?_
        refine And.intro (Or.inr rfl) ?_
        show ((some (vI 1) : Option MV), ahM (mI (mI (mI (mI (mI (mRow (mI mm 12 0 11 (nI k)) 60 0 (cpB (mm.1 60 0) (mm.1 59 0) k)) 12 0 10 0) 12 0 18 0) 12 0 17 (-1)) 12 0 14 0) 12 0 19 0)) = _
        exact rfl
      · have ei : (nI i).toNatClampNeg = i := nI_clamp (by omega)
        show X 16 [some (vR 12 0), some (vI (nI k)), some (vI q), some (vI (nI i))] [] (mRow (mI mm 12 0 11 (nI k)) 60 0 (cpB (mm.1 60 0) (mm.1 59 0) i))
        refine h (fun i => Nat.beq i 16) 3000 16 _ _ _ ?_
        refine br_f (nI_ge hi (by omega)) ?_
        refine And.intro (show inb (nI i) (alen 59) = true from (inb_o 900 rfl rfl rfl (by omega))) ?_
        refine And.intro (show inb (nI i) (alen 60) = true from (inb_o 900 rfl rfl rfl (by omega))) ?_
        show X 16 [some (vR 12 0), some (vI (nI k)), some (vI q), some (vI ((nI i) + 1))] [] (mRow (mRow (mI mm 12 0 11 (nI k)) 60 0 (cpB (mm.1 60 0) (mm.1 59 0) i)) 60 0 (upd (cpB (mm.1 60 0) (mm.1 59 0) i) (nI i).toNatClampNeg (vp_nar .byte (mm.1 59 0 ((nI i).toNatClampNeg)))))
        rw [ei, mRow2, cpB_s, nI_1]
        exact ih
    have l0 := loop 0 (by omega)
    have e0 : mRow (mI mm 12 0 11 (nI k)) 60 0 (cpB (mm.1 60 0) (mm.1 59 0) 0) = mI mm 12 0 11 (nI k) := by rw [cpB_0]; exact mRow_self (mI mm 12 0 11 (nI k)) 60 0
    rw [e0] at l0
    show X 11 [some (vR 12 0), some (vI (nI k)), some (vI q), none] [] mm
    refine h (fun i => Nat.beq i 16) 3000 11 _ _ _ ?_
    show X 16 [some (vR 12 0), some (vI (nI k)), some (vI q), some (vI 0)] [] (mI mm 12 0 11 (nI k))
    exact l0
  show X 0 [some (vR 12 0), some (vI n), some (vI q), none] [] mm
  refine h (fun i => Nat.beq i 9 || Nat.beq i 11) 3000 0 _ _ _ ?_
  refine br_c (fun b1 => ?_) (fun b1 => ?_)
  · -- 1: n < 0 taken
    replace b1 : n < 0 := b1
    show X 9 [some (vR 12 0), some (vI n), some (vI q), none] [] mm
    exact no (fun z => z.1 b1)
  · -- 1: n < 0 on
    replace b1 : ¬ (n < 0) := b1
    refine br_c (fun b5 => ?_) (fun b5 => ?_)
    · -- 5: mm.1 12 0 10 < n taken
      replace b5 : mm.1 12 0 10 < n := b5
      show X 9 [some (vR 12 0), some (vI n), some (vI q), none] [] mm
      exact no (fun z => z.2.1 b5)
    · -- 5: mm.1 12 0 10 < n on
      replace b5 : ¬ (mm.1 12 0 10 < n) := b5
      refine br_c (fun b8 => ?_) (fun b8 => ?_)
      · -- 8: n ≤ q taken
        replace b8 : n ≤ q := b8
        show X 11 [some (vR 12 0), some (vI n), some (vI q), none] [] mm
        exact yes ⟨b1, b5, Int32.not_lt.mpr b8⟩
      · -- 8: n ≤ q on
        replace b8 : ¬ (n ≤ q) := b8
        show X 9 [some (vR 12 0), some (vI n), some (vI q), none] [] mm
        exact no (fun z => z.2.2 (Int32.not_le.mp b8))
theorem con_X12_begins (l : Launch) : CON l y_X12_begins prog_14_method_29_code 4 (some .boolean) rm_X12_begins Pre_X12_begins Fn_X12_begins := CON_of (by decide) rfl rfl (sa_X12_begins l) vc_X12_begins
/-- the TOKEN doesn't go back -/
def GT (m m' : MM) : Prop := TXo m' ∧ m'.1 12 0 11 = m.1 12 0 11 ∧ txs m ≤ txs m'
theorem GT_r {m : MM} (h : TXo m) : GT m m := ⟨h, rfl, Nat.le_refl _⟩
theorem GT_mk {m m' m'' : MM} (h : GT m m') (hT : TXo m'') (h1 : m''.1 12 0 11 = m'.1 12 0 11) (h2 : txs m' ≤ txs m'') : GT m m'' := ⟨hT, h1.trans h.2.1, Nat.le_trans h.2.2 h2⟩
theorem txs_ah {m : MM} (h : TXo m) : txe m ≤ txs (ahM m) := by
  obtain ⟨S, s, e, hS, hS9, hs, he, hse, heS⟩ := h
  have hSn : (m.1 12 0 11).toNatClampNeg = S := by rw [hS]; exact nI_clamp (by omega)
  have hen : (m.1 12 0 14).toNatClampNeg = e := by rw [he]; exact nI_clamp (by omega)
  show (m.1 12 0 14).toNatClampNeg ≤ (nI (tkS (m.1 60 0) (m.1 12 0 11).toNatClampNeg (m.1 12 0 14).toNatClampNeg)).toNatClampNeg
  rw [hSn, hen]
  have h1 := tkS_ge (m.1 60 0) S e
  have h2 := tkS_le (m.1 60 0) heS
  rw [nI_clamp (by omega)]
  exact h1
theorem txs_e {m : MM} (h : TXo m) : txs m ≤ txe m := by
  obtain ⟨S, s, e, hS, hS9, hs, he, hse, heS⟩ := h
  show (m.1 12 0 13).toNatClampNeg ≤ (m.1 12 0 14).toNatClampNeg
  rw [hs, he, nI_clamp (by omega), nI_clamp (by omega)]
  exact hse
theorem GT_ah {m m' : MM} (h : GT m m') : GT m (ahM m') := GT_mk h (TXo_ah h.1) rfl (Nat.le_trans (txs_e h.1) (txs_ah h.1))
theorem GT_fa {m m' : MM} {k : Int32} (h : GT m m') : GT m (faM m' k) := by
  refine GT_mk h (TXo_fa h.1) ?_ (Nat.le_of_eq ?_)
  · unfold faM mite; split <;> rfl
  · unfold faM mite; split <;> rfl
theorem GT_54 {m m' : MM} {f : Nat → Int32} (h : GT m m') : GT m (mRow m' 54 0 f) := h
theorem GT_55 {m m' : MM} {f : Nat → Int64} (h : GT m m') : GT m (mRowL m' 55 0 f) := h
theorem GT_20 {m m' : MM} {x : Int32} (h : GT m m') : GT m (mI m' 12 0 20 x) := h
theorem GT_sg {m m' : MM} {c : Int32} (h : GT m m') : GT m (pSg m' c).2 := by
  unfold pSg; split
  · exact GT_ah h
  · exact GT_fa h
theorem GT_ww {m m' : MM} {c : Int32} (h : GT m m') : GT m (pWW m' c).2 := by
  unfold pWW; split
  · exact GT_ah h
  · exact GT_fa h
theorem GT_th {m m' : MM} {c : Int32} (h : GT m m') : GT m (pTh m' c).2 := by
  unfold pTh; split
  · exact GT_ah h
  · exact h
theorem GT_nu {m m' : MM} {t : Nat} {lo hi : Int32} (h : GT m m') : GT m (pNu m' t lo hi).2 := by
  unfold pNu; split
  · split
    · exact GT_fa h
    · exact GT_ah (GT_54 h)
  · exact GT_fa h
theorem GT_ol {m m' : MM} {b c t : Nat} (h : GT m m') : GT m (pOl m' b c t).2 := by
  unfold pOl; split
  · split
    · exact GT_fa (GT_54 h)
    · exact GT_ah (GT_54 h)
  · exact GT_fa h
theorem GT_nwf {m m' : MM} {q k : Nat} {most : Int32} (h : GT m m') : GT m (pNw m' q most k).2 := by
  unfold pNw; split
  · exact GT_fa h
  split
  · split
    · exact GT_ah (GT_55 (GT_ah h))
    · exact GT_fa (GT_ah h)
  · exact GT_fa (GT_ah h)
theorem GT_op {m m' : MM} {k lo hi : Int32} {t : Nat} (h : GT m m') : GT m (pOp m' k t lo hi).2 := by
  unfold pOp; split
  · exact GT_nu (GT_th h)
  · exact GT_th h
theorem GT_bd {m : MM} {p : PR} {q : MM → PR} (h : GT m p.2) (hq : ∀ m', GT m m' → GT m (q m').2) : GT m (pBd p q).2 := by
  unfold pBd; split
  · exact hq _ h
  · exact h
/-- a part that is begun goes on from its second TOKEN -/
theorem GT_nw {m : MM} {q k : Nat} {most : Int32} (h : TXo m) (hp : (pNw m q most k).1 = true) : GT (ahM m) (pNw m q most k).2 := by
  unfold pNw at hp ⊢
  split
  · rename_i h1; rw [if_pos h1] at hp; exact absurd hp (show ¬ (false = true) from Bool.false_ne_true)
  · split
    · split
      · exact GT_ah (GT_55 (GT_r (TXo_ah h)))
      · exact GT_fa (GT_r (TXo_ah h))
    · exact GT_fa (GT_r (TXo_ah h))
theorem GT_nwB {m : MM} {q k : Nat} {most : Int32} {f : MM → PR} (h : TXo m) (hp : (pBd (pNw m q most k) f).1 = true) (hq : ∀ m', GT (ahM m) m' → GT (ahM m) (f m').2) : GT (ahM m) (pBd (pNw m q most k) f).2 := by
  by_cases h1 : (pNw m q most k).1 = true
  · rw [pBd_t h1]
    exact hq _ (GT_nw h h1)
  · rw [pBd_f h1] at hp
    exact absurd hp (show ¬ (false = true) from Bool.false_ne_true)
theorem GT_suA {m m' : MM} {s : Nat} (h : GT m m') : GT m (suA s m').2 := GT_bd (GT_op (GT_54 (GT_54 h))) (fun _ h => GT_bd (GT_op h) (fun _ h => GT_54 h))
theorem GT_maA {m m' : MM} {n : Nat} (h : GT m m') : GT m (maA n m').2 := GT_bd (GT_ww h) (fun _ h => GT_bd (GT_nu h) (fun _ h => GT_bd (GT_op (GT_54 h)) (fun _ h => GT_bd (GT_op h) (fun _ h => GT_54 (GT_54 h)))))
theorem GT_tgA {m m' : MM} {n : Nat} (h : GT m m') : GT m (tgA n m').2 := GT_bd (GT_ww h) (fun _ h => GT_bd (GT_ol h) (fun _ h => GT_bd (GT_ww h) (fun _ h => GT_bd (GT_nu h) (fun _ h => GT_54 (GT_54 h)))))
theorem GT_su {m : MM} (h : TXo m) (hp : (pSu m).1 = true) : GT (ahM m) (pSu m).2 := GT_nwB h hp (fun _ h => GT_suA h)
theorem GT_ma {m : MM} (h : TXo m) (hp : (pMa m).1 = true) : GT (ahM m) (pMa m).2 := GT_nwB h hp (fun _ h => GT_maA h)
theorem GT_tg {m : MM} (h : TXo m) (hp : (pTg m).1 = true) : GT (ahM m) (pTg m).2 := GT_nwB h hp (fun _ h => GT_tgA h)
theorem GT_sy {m : MM} (h : TXo m) : GT (ahM m) (pSy m).2 := GT_bd (GT_ol (GT_r (TXo_ah h))) (fun _ h => GT_bd (GT_ww h) (fun _ h => GT_bd (GT_ol h) (fun _ h => GT_nu h)))
theorem GT_lk {m : MM} (h : TXo m) : GT (ahM m) (pLk m).2 := GT_bd (GT_ol (GT_r (TXo_ah h))) (fun _ h => GT_bd (GT_ol h) (fun _ h => GT_nu h))
theorem GT_afB {m m' : MM} (h : GT m m') : GT m (afB m').2 := by
  unfold afB; split
  · exact GT_fa h
  · exact GT_bd (GT_ol h) (fun _ h => GT_54 (GT_54 h))
theorem GT_af {m : MM} (h : TXo m) (hp : (pAf m).1 = true) : GT (ahM m) (pAf m).2 := by
  unfold pAf at hp ⊢
  split
  · rename_i h1; rw [if_pos h1] at hp; exact absurd hp (show ¬ (false = true) from Bool.false_ne_true)
  · exact GT_bd (GT_ol (GT_r (TXo_ah h))) (fun _ h => GT_afB h)
theorem GT_on {m : MM} {k : Int32} (h : TXo m) (hp : (pOn m k).1 = true) : GT (ahM m) (pOn m k).2 := by
  unfold pOn at hp ⊢
  split
  · rename_i h1; rw [if_pos h1] at hp; exact absurd hp (show ¬ (false = true) from Bool.false_ne_true)
  · have g : GT (ahM m) (ahM (mI m 12 0 20 (m.1 12 0 20 ||| 1 <<< (k &&& 31)))) := ⟨TXo_ah (show TXo (mI m 12 0 20 _) from h), rfl, Nat.le_refl _⟩
    unfold onQ
    split
    · exact GT_nu g
    · exact GT_nu g
/-- behind a part counts are still small -/
def PI (m : MM) : Prop := ∃ ns nm nt, PJ m ns nm nt
theorem PI_su {m : MM} {ns nm nt : Nat} (h : PJ m ns nm nt) (hp : (pSu m).1 = true) : PI (pSu m).2 := by
  have hn := PJ_nw (q := 0) (k := 0) (most := 4) h
  unfold pSu at hp ⊢
  by_cases h1 : (pNw m 0 4 0).1 = true
  · rw [pBd_t h1] at hp ⊢
    have hlt : ns < 4 := pNw_lt (q := 0) (t := 4) h.2.1.1 h.2.1.2 (by decide) h1
    generalize (pNw m 0 4 0).2 = M at *
    have ge : 2043 ≤ 2052 + 4 * (m.1 54 0 2040).toNatClampNeg := by omega
    generalize 2052 + 4 * (m.1 54 0 2040).toNatClampNeg = s at *
    have h2 := PJ_op (k := 8) (t := s) (lo := 0) (hi := 99) (PJ_at (j := s + 3) (x := -1) (PJ_at (x := 20) hn ge) (by omega)) ge
    unfold suA at hp ⊢
    by_cases h3 : (pOp (mI (mI M 54 0 s 20) 54 0 (s + 3) (-1)) 8 s 0 99).1 = true
    · rw [pBd_t h3] at hp ⊢
      generalize (pOp (mI (mI M 54 0 s 20) 54 0 (s + 3) (-1)) 8 s 0 99).2 = N at *
      have h4 := PJ_op (k := 9) (t := s + 1) (lo := 0) (hi := 99) h2 (by omega)
      unfold suB at hp ⊢
      by_cases h5 : (pOp N 9 (s + 1) 0 99).1 = true
      · rw [pBd_t h5]
        refine ⟨ns + 1, nm, nt, h4.1, ⟨?_, by omega⟩, h4.2.2⟩
        show (pOp N 9 (s + 1) 0 99).2.1 54 0 2040 + 1 = _
        rw [h4.2.1.1, nI_1]
      · rw [pBd_f h5] at hp
        exact absurd hp (show ¬ (false = true) from Bool.false_ne_true)
    · rw [pBd_f h3] at hp
      exact absurd hp (show ¬ (false = true) from Bool.false_ne_true)
  · rw [pBd_f h1] at hp
    exact absurd hp (show ¬ (false = true) from Bool.false_ne_true)
theorem no_ft {P : Prop} {m : MM} (h : ((false, m) : PR).1 = true) : P := absurd h (show ¬ (false = true) from Bool.false_ne_true)
theorem pBd_1 {p : PR} {q : MM → PR} (h : (pBd p q).1 = true) : p.1 = true := by
  by_cases h1 : p.1 = true
  · exact h1
  · rw [pBd_f h1] at h; exact no_ft h
theorem pBd_2 {p : PR} {q : MM → PR} (h : (pBd p q).1 = true) : (q p.2).1 = true := by
  have h1 := pBd_1 h
  rw [pBd_t h1] at h
  exact h
theorem PJ_bd {ns nm nt : Nat} {p : PR} {q : MM → PR} (h : PJ p.2 ns nm nt) (hq : ∀ m', PJ m' ns nm nt → PJ (q m').2 ns nm nt) : PJ (pBd p q).2 ns nm nt := by
  unfold pBd; split
  · exact hq _ h
  · exact h
theorem PJ_sy {m : MM} {ns nm nt : Nat} (h : PJ m ns nm nt) : PJ (pSy m).2 ns nm nt := PJ_bd (PJ_ol (PJ_ah h) (by omega)) (fun _ h => PJ_bd (PJ_ww h) (fun _ h => PJ_bd (PJ_ol h (by omega)) (fun _ h => PJ_nu h (by omega))))
theorem PJ_lk {m : MM} {ns nm nt : Nat} (h : PJ m ns nm nt) : PJ (pLk m).2 ns nm nt := PJ_bd (PJ_ol (PJ_ah h) (by omega)) (fun _ h => PJ_bd (PJ_ol h (by omega)) (fun _ h => PJ_nu h (by omega)))
theorem PJ_af {m : MM} {ns nm nt : Nat} (h : PJ m ns nm nt) : PJ (pAf m).2 ns nm nt := by
  unfold pAf; split
  · exact PJ_fa h
  · refine PJ_bd (PJ_ol (PJ_ah h) (by omega)) (fun m' h => ?_)
    unfold afB; split
    · exact PJ_fa h
    · exact PJ_bd (PJ_ol h (by omega)) (fun _ h => PJ_at (PJ_at h (by omega)) (by omega))
theorem PJ_on {m : MM} {ns nm nt : Nat} {k : Int32} (h : PJ m ns nm nt) : PJ (pOn m k).2 ns nm nt := by
  unfold pOn; split
  · exact PJ_fa h
  · unfold onQ; split
    · exact PJ_nu (PJ_ah (PJ_12 h)) (by omega)
    · exact PJ_nu (PJ_ah (PJ_12 h)) (by omega)
theorem PI_ma {m : MM} {ns nm nt : Nat} (h : PJ m ns nm nt) (hp : (pMa m).1 = true) : PI (pMa m).2 := by
  unfold pMa at hp ⊢
  have h1 := pBd_1 hp
  have hlt : nm < 4 := pNw_lt (q := 1) (t := 4) h.2.2.1.1 h.2.2.1.2 (by decide) h1
  have hn := PJ_nw (q := 1) (k := 4) (most := 4) h
  replace hp := pBd_2 hp
  rw [pBd_t h1]
  generalize (pNw m 1 4 4).2 = M at *
  generalize (m.1 54 0 2041).toNatClampNeg = n at *
  unfold maA at hp ⊢
  have h2 := pBd_1 hp
  replace hp := pBd_2 hp
  rw [pBd_t h2]
  replace hn := PJ_ww (c := 10) hn
  generalize (pWW M 10).2 = M2 at *
  unfold maA2 at hp ⊢
  have h3 := pBd_1 hp
  replace hp := pBd_2 hp
  rw [pBd_t h3]
  replace hn := PJ_nu (t := 2068 + 4 * n) (lo := 0) (hi := 999) hn (by omega)
  generalize (pNu M2 (2068 + 4 * n) 0 999).2 = M3 at *
  unfold maB at hp ⊢
  have h4 := pBd_1 hp
  replace hp := pBd_2 hp
  rw [pBd_t h4]
  replace hn := PJ_op (k := 11) (t := 2068 + 4 * n + 1) (lo := 0) (hi := 20) (PJ_at (j := 2068 + 4 * n + 3) (x := -1) hn (by omega)) (by omega)
  generalize (pOp (mI M3 54 0 (2068 + 4 * n + 3) (-1)) 11 (2068 + 4 * n + 1) 0 20).2 = M4 at *
  unfold maC at hp ⊢
  have h5 := pBd_1 hp
  rw [pBd_t h5]
  replace hn := PJ_op (k := 12) (t := 2068 + 4 * n + 2) (lo := 0) (hi := 9) hn (by omega)
  generalize (pOp M4 12 (2068 + 4 * n + 2) 0 9).2 = M5 at *
  have lo := mtR_lo (M5.1 54 0) n (M5.1 54 0 2042).toNatClampNeg
  refine ⟨ns, nm + 1, nt, hn.1, ⟨?_, hn.2.1.2⟩, ⟨?_, by omega⟩, ⟨?_, hn.2.2.2.2⟩⟩
  · show upd (mtR (M5.1 54 0) n (M5.1 54 0 2042).toNatClampNeg) 2041 (mtR (M5.1 54 0) n (M5.1 54 0 2042).toNatClampNeg 2041 + 1) 2040 = _
    rw [upd_ne (by decide), lo _ (by decide)]
    exact hn.2.1.1
  · show upd (mtR (M5.1 54 0) n (M5.1 54 0 2042).toNatClampNeg) 2041 (mtR (M5.1 54 0) n (M5.1 54 0 2042).toNatClampNeg 2041 + 1) 2041 = _
    rw [upd_eq, lo _ (by decide), hn.2.2.1.1, nI_1]
  · show upd (mtR (M5.1 54 0) n (M5.1 54 0 2042).toNatClampNeg) 2041 (mtR (M5.1 54 0) n (M5.1 54 0 2042).toNatClampNeg 2041 + 1) 2042 = _
    rw [upd_ne (by decide), lo _ (by decide)]
    exact hn.2.2.2.1
theorem PI_tg {m : MM} {ns nm nt : Nat} (h : PJ m ns nm nt) (hp : (pTg m).1 = true) : PI (pTg m).2 := by
  unfold pTg at hp ⊢
  have h1 := pBd_1 hp
  have hlt : nt < 12 := pNw_lt (q := 2) (t := 12) h.2.2.2.1 h.2.2.2.2 (by decide) h1
  have hn := PJ_nw (q := 2) (k := 8) (most := 12) h
  replace hp := pBd_2 hp
  rw [pBd_t h1]
  generalize (pNw m 2 12 8).2 = M at *
  generalize (m.1 54 0 2042).toNatClampNeg = n at *
  unfold tgA at hp ⊢
  have h2 := pBd_1 hp
  replace hp := pBd_2 hp
  rw [pBd_t h2]
  replace hn := PJ_ww (c := 13) hn
  generalize (pWW M 13).2 = M2 at *
  unfold tgB at hp ⊢
  have h3 := pBd_1 hp
  replace hp := pBd_2 hp
  rw [pBd_t h3]
  replace hn := PJ_ol (b := 80) (c := (M2.1 54 0 2040).toNatClampNeg) (t := 2084 + 3 * n) hn (by omega)
  generalize (pOl M2 80 (M2.1 54 0 2040).toNatClampNeg (2084 + 3 * n)).2 = M3 at *
  unfold tgB2 at hp ⊢
  have h4 := pBd_1 hp
  replace hp := pBd_2 hp
  rw [pBd_t h4]
  replace hn := PJ_ww (c := 14) hn
  generalize (pWW M3 14).2 = M4 at *
  unfold tgC at hp ⊢
  have h5 := pBd_1 hp
  rw [pBd_t h5]
  replace hn := PJ_nu (t := 2084 + 3 * n + 1) (lo := 0) (hi := 99) hn (by omega)
  generalize (pNu M4 (2084 + 3 * n + 1) 0 99).2 = M5 at *
  have lo := thR_lo (M5.1 54 0) n 4
  refine ⟨ns, nm, nt + 1, hn.1, ⟨?_, hn.2.1.2⟩, ⟨?_, hn.2.2.1.2⟩, ⟨?_, by omega⟩⟩
  · show upd (thR (M5.1 54 0) n 4) 2042 (thR (M5.1 54 0) n 4 2042 + 1) 2040 = _
    rw [upd_ne (by decide), lo _ (by decide)]
    exact hn.2.1.1
  · show upd (thR (M5.1 54 0) n 4) 2042 (thR (M5.1 54 0) n 4 2042 + 1) 2041 = _
    rw [upd_ne (by decide), lo _ (by decide)]
    exact hn.2.2.1.1
  · show upd (thR (M5.1 54 0) n 4) 2042 (thR (M5.1 54 0) n 4 2042 + 1) 2042 = _
    rw [upd_eq, lo _ (by decide), hn.2.2.2.1, nI_1]
/-- a part of a valley's text -/
def sgE (m : MM) : PR := pSg m 59
def pVp (m : MM) : PR := if kyA m = 0 then pBd (pSu m) sgE else if kyA m = 1 then pBd (pMa m) sgE else if kyA m = 2 then pBd (pTg m) sgE else if kyA m = 3 then pBd (pSy m) sgE else if kyA m = 4 then pBd (pAf m) sgE else if kyA m = 5 then pBd (pLk m) sgE else if kyA m = 6 then pBd (pOn m 6) sgE else if kyA m = 7 then pBd (pOn m 7) sgE else (false, faM m 2)
theorem TX_p {m : MM} {p : PR} (h : p.1 = true → GT (ahM m) p.2) (hp : (pBd p sgE).1 = true) : GT (ahM m) (pBd p sgE).2 := by
  have h1 := pBd_1 hp
  rw [pBd_t h1]
  exact GT_sg (h h1)
theorem PI_p {p : PR} (h : p.1 = true → PI p.2) (hp : (pBd p sgE).1 = true) : PI (pBd p sgE).2 := by
  have h1 := pBd_1 hp
  rw [pBd_t h1]
  obtain ⟨ns, nm, nt, hj⟩ := h h1
  exact ⟨ns, nm, nt, PJ_sg hj⟩
theorem pVp_ok {m : MM} (h : PI m) (hp : (pVp m).1 = true) : PI (pVp m).2 ∧ GT (ahM m) (pVp m).2 := by
  obtain ⟨ns, nm, nt, hJ⟩ := h
  suffices z : ∀ p, p = pVp m → p.1 = true → PI p.2 ∧ GT (ahM m) p.2 from z _ rfl hp
  clear hp
  intro p e hp
  unfold pVp at e
  split at e
  · subst e; exact ⟨PI_p (PI_su hJ) hp, TX_p (GT_su hJ.1) hp⟩
  split at e
  · subst e; exact ⟨PI_p (PI_ma hJ) hp, TX_p (GT_ma hJ.1) hp⟩
  split at e
  · subst e; exact ⟨PI_p (PI_tg hJ) hp, TX_p (GT_tg hJ.1) hp⟩
  split at e
  · subst e; exact ⟨PI_p (fun _ => ⟨ns, nm, nt, PJ_sy hJ⟩) hp, TX_p (fun _ => GT_sy hJ.1) hp⟩
  split at e
  · subst e; exact ⟨PI_p (fun _ => ⟨ns, nm, nt, PJ_af hJ⟩) hp, TX_p (GT_af hJ.1) hp⟩
  split at e
  · subst e; exact ⟨PI_p (fun _ => ⟨ns, nm, nt, PJ_lk hJ⟩) hp, TX_p (fun _ => GT_lk hJ.1) hp⟩
  split at e
  · subst e; exact ⟨PI_p (fun _ => ⟨ns, nm, nt, PJ_on hJ⟩) hp, TX_p (GT_on hJ.1) hp⟩
  split at e
  · subst e; exact ⟨PI_p (fun _ => ⟨ns, nm, nt, PJ_on hJ⟩) hp, TX_p (GT_on hJ.1) hp⟩
  · subst e; exact no_ft hp
theorem tkE_gt (T : Nat → Int32) (S s : Nat) : tkK T S s = 0 ∨ s < tkE T S s := by
  by_cases h0 : btF T S s = -1
  · left; unfold tkK; rw [if_pos h0]
  · right
    have hlt := btF_y h0
    unfold tkE
    rw [if_neg h0]
    split
    · rename_i h1
      unfold tkL
      rw [show S - s = (S - (s + 1)) + 1 by omega, adv_y (P := fun j => isLt (btF T S j)) (e := s) h1]
      exact adv_ge _ _ _
    split
    · rename_i h1
      unfold tkD
      rw [show S - s = (S - (s + 1)) + 1 by omega, adv_y (P := fun j => isDg (btF T S j)) (e := s) h1]
      exact adv_ge _ _ _
    · omega

