/-! PART 66: the class: the tape, words, numbers -/

def apR (o : Nat → Int32) (n : Nat) (v : Int32) : Nat → Int32 := fuR4 o n v
/-- four bytes of an int onto the class's tape -/
def apM (m : MM) (v : Int32) : MM := mRow (mRow m 26 0 (fuR4 (m.1 26 0) (m.1 4 0 5).toNatClampNeg v)) 4 0 (upd (m.1 4 0) 5 (m.1 4 0 5 + 4))

--tpl ⟨_, _, by assumption, by omega, rfl⟩ ||  || apM {m} {1}
def Pre_X4_append : PreT := fun m as => ∃ (n : Nat) (v : Int32), m.1 4 0 5 = nI n ∧ n + 4 ≤ 900 ∧ as = [vR 4 0, vI v]
def Fn_X4_append : FnT := fun m as => match as with
  | [_, Sum.inl v] => (none, apM m v)
  | _ => (none, m)
abbrev y_X4_append : MethodName := ⟨"GivenUp$Text", "append", "(I)V"⟩
def P_X4_append : List StpT := [s_ic (24), s_istore 2, s_iload 2, s_iflt 25, s_aload 0, s_getI 4 5, s_ic (900), s_icge 25, s_aload 0, s_getR 4 0 26, s_aload 0, s_getI 4 5, s_iload 1, s_iload 2, s_ishr, s_i2b, s_bast, s_aload 0, s_dup, s_getI 4 5, s_ic (1), s_iadd, s_putI 4 5, s_iinc 2 (-8), s_goto 2, s_vret]
def pc_X4_append : Nat → Nat := fun i => [0, 2, 3, 4, 7, 8, 11, 14, 17, 18, 21, 22, 25, 26, 27, 28, 29, 30, 31, 32, 35, 36, 37, 40, 43, 46].getD i 0
def dl_X4_append : List (Nat × Instr × Nat) := [(0, .bipush 24, 2), (2, .istore_n 2, 1), (3, .iload_n 2, 1), (4, .ifCond .lt 42, 3), (7, .aload_n 0, 1), (8, .getfield 29, 3), (11, .sipush 900, 3), (14, .if_icmp .ge 32, 3), (17, .aload_n 0, 1), (18, .getfield 9, 3), (21, .aload_n 0, 1), (22, .getfield 29, 3), (25, .iload_n 1, 1), (26, .iload_n 2, 1), (27, .ishr, 1), (28, .i2b, 1), (29, .bastore, 1), (30, .aload_n 0, 1), (31, .dup, 1), (32, .getfield 29, 3), (35, .iconst 1, 1), (36, .iadd, 1), (37, .putfield 29, 3), (40, .iinc 2 (-8), 3), (43, .goto (-40), 3), (46, .return_, 1)]
theorem dc_X4_append : DEC prog_6_method_2_code pc_X4_append dl_X4_append := DEC_of (by decide +kernel)
abbrev rm_X4_append : Room := { frames := 0, cells := 0, slots := 0, locals := 0 }
set_option maxRecDepth 20000 in
theorem sa_X4_append (l : Launch) : SNDALL l prog_6_method_2_code "GivenUp$Text" 3 none rm_X4_append P_X4_append pc_X4_append := fun p e s m args below meth c cells slots Q D dA ad A RR hC hR => by
  have hM := RTX_room (R := rm_X4_append) hR
  exact ⟨st_bipush hC (n := 0) (x := 24) (dc_X4_append 0 (0, .bipush 24, 2) rfl rfl) rfl (by decide),
    st_istore_n hC (n := 1) (k := 2) (dc_X4_append 1 (2, .istore_n 2, 1) rfl rfl) rfl rfl (by decide),
    st_iload_n hC (n := 2) (k := 2) (dc_X4_append 2 (3, .iload_n 2, 1) rfl rfl) rfl rfl,
    st_iflt hC (n := 3) (dc_X4_append 3 (4, .ifCond .lt 42, 3) rfl rfl) rfl (by decide),
    st_aload_n hC (n := 4) (k := 0) (dc_X4_append 4 (7, .aload_n 0, 1) rfl rfl) rfl rfl,
    st_getI hC (n := 5) (k := 4) (j := 5) (dc_X4_append 5 (8, .getfield 29, 3) rfl rfl) rfl clf_4 (by decide) rfl wd_235,
    st_sipush hC (n := 6) (x := 900) (dc_X4_append 6 (11, .sipush 900, 3) rfl rfl) rfl (by decide),
    st_icge hC (n := 7) (dc_X4_append 7 (14, .if_icmp .ge 32, 3) rfl rfl) rfl (by decide),
    st_aload_n hC (n := 8) (k := 0) (dc_X4_append 8 (17, .aload_n 0, 1) rfl rfl) rfl rfl,
    st_getR hC (n := 9) (k := 4) (j := 0) (dc_X4_append 9 (18, .getfield 9, 3) rfl rfl) rfl clf_4 (by decide) rfl (by decide) wd_230,
    st_aload_n hC (n := 10) (k := 0) (dc_X4_append 10 (21, .aload_n 0, 1) rfl rfl) rfl rfl,
    st_getI hC (n := 11) (k := 4) (j := 5) (dc_X4_append 11 (22, .getfield 29, 3) rfl rfl) rfl clf_4 (by decide) rfl wd_235,
    st_iload_n hC (n := 12) (k := 1) (dc_X4_append 12 (25, .iload_n 1, 1) rfl rfl) rfl rfl,
    st_iload_n hC (n := 13) (k := 2) (dc_X4_append 13 (26, .iload_n 2, 1) rfl rfl) rfl rfl,
    st_ishr hC (n := 14) (dc_X4_append 14 (27, .ishr, 1) rfl rfl) rfl,
    st_i2b hC (n := 15) (dc_X4_append 15 (28, .i2b, 1) rfl rfl) rfl,
    st_bast hC (n := 16) (dc_X4_append 16 (29, .bastore, 1) rfl rfl) rfl,
    st_aload_n hC (n := 17) (k := 0) (dc_X4_append 17 (30, .aload_n 0, 1) rfl rfl) rfl rfl,
    st_dup hC (n := 18) (dc_X4_append 18 (31, .dup, 1) rfl rfl) rfl,
    st_getI hC (n := 19) (k := 4) (j := 5) (dc_X4_append 19 (32, .getfield 29, 3) rfl rfl) rfl clf_4 (by decide) rfl wd_235,
    st_iconst hC (n := 20) (x := 1) (dc_X4_append 20 (35, .iconst 1, 1) rfl rfl) rfl (by decide),
    st_iadd hC (n := 21) (dc_X4_append 21 (36, .iadd, 1) rfl rfl) rfl,
    st_putI hC (n := 22) (k := 4) (j := 5) (dc_X4_append 22 (37, .putfield 29, 3) rfl rfl) rfl clf_4 (by decide) rfl rfl rfl wd_235,
    st_iinc hC (n := 23) (x := (-8)) (dc_X4_append 23 (40, .iinc 2 (-8), 3) rfl rfl) rfl (by decide) (by decide),
    st_goto hC (n := 24) (dc_X4_append 24 (43, .goto (-40), 3) rfl rfl) (by decide),
    st_vret hC (n := 25) hR (dc_X4_append 25 (46, .return_, 1) rfl rfl), trivial⟩
set_option maxRecDepth 8000 in
theorem vc_X4_append : VC P_X4_append 3 Pre_X4_append Fn_X4_append := by
  rintro mm as hom hoa ⟨n, v, en, hn, rfl⟩
  refine ⟨Nat.le_of_ble_eq_true rfl, fun X h => ?_⟩
  have st : ∀ (k : Nat) (s : Int32) (f : Nat → Int32), k < 4 → ¬ s < 0 → X 2 [some (vR 4 0), some (vI v), some (vI (s + (-8)))] [] (mRow (mRow mm 26 0 (upd f (n + k) (vp_nar .byte (v >>> (s &&& 31)).toInt8.toInt32))) 4 0 (upd (mm.1 4 0) 5 (nI (n + k + 1)))) → X 2 [some (vR 4 0), some (vI v), some (vI s)] [] (mRow (mRow mm 26 0 f) 4 0 (upd (mm.1 4 0) 5 (nI (n + k)))) := by
    intro k s f hk hs hX
    have e1 : (upd (mm.1 4 0) 5 (nI (n + k))) 5 = nI (n + k) := upd_eq
    have e2 : ((upd (mm.1 4 0) 5 (nI (n + k))) 5).toNatClampNeg = n + k := by rw [e1, nI_clamp (by omega)]
    have e3 : mRow (mRow (mRow (mRow mm 26 0 f) 4 0 (upd (mm.1 4 0) 5 (nI (n + k)))) 26 0 (upd f (n + k) (vp_nar .byte (v >>> (s &&& 31)).toInt8.toInt32))) 4 0 (upd (upd (mm.1 4 0) 5 (nI (n + k))) 5 (nI (n + k) + 1)) = mRow (mRow mm 26 0 (upd f (n + k) (vp_nar .byte (v >>> (s &&& 31)).toInt8.toInt32))) 4 0 (upd (mm.1 4 0) 5 (nI (n + k + 1))) := by
      rw [mRow_comm (k := 4) (k' := 26) (by decide), mRow2, mRow2, upd2, nI_1]
    refine h (fun i => Nat.beq i 2) 3000 2 _ _ _ ?_
    refine br_f hs ?_
    refine br_f (show ¬ nI 900 ≤ (upd (mm.1 4 0) 5 (nI (n + k))) 5 by rw [e1]; exact nI_ge (by omega) (by omega)) ?_
    refine And.intro (inb_o 900 rfl rfl e1 (by omega)) ?_
    show X 2 [some (vR 4 0), some (vI v), some (vI (s + (-8)))] [] (mRow (mRow (mRow (mRow mm 26 0 f) 4 0 (upd (mm.1 4 0) 5 (nI (n + k)))) 26 0 (upd f ((upd (mm.1 4 0) 5 (nI (n + k))) 5).toNatClampNeg (vp_nar .byte (v >>> (s &&& 31)).toInt8.toInt32))) 4 0 (upd (upd (mm.1 4 0) 5 (nI (n + k))) 5 ((upd (mm.1 4 0) 5 (nI (n + k))) 5 + 1)))
    rw [e2, e1, e3]
    exact hX
  have self : mRow (mRow mm 26 0 (mm.1 26 0)) 4 0 (upd (mm.1 4 0) 5 (nI (n + 0))) = mm := by
    have : upd (mm.1 4 0) 5 (nI (n + 0)) = mm.1 4 0 := by
      funext j
      by_cases hj : j = 5
      · rw [hj, upd_eq, Nat.add_zero, en]
      · exact upd_ne hj
    rw [this, mRow_self, mRow_self]
  suffices z : X 2 [some (vR 4 0), some (vI v), some (vI 24)] [] (mRow (mRow mm 26 0 (mm.1 26 0)) 4 0 (upd (mm.1 4 0) 5 (nI (n + 0)))) by
    refine h (fun i => Nat.beq i 2) 3000 0 _ _ _ ?_
    rw [self] at z
    exact z
  refine st 0 24 _ (by decide) (by decide) ?_
  refine st 1 16 _ (by decide) (by decide) ?_
  refine st 2 8 _ (by decide) (by decide) ?_
  refine st 3 0 _ (by decide) (by decide) ?_
  refine h (fun _ => false) 3000 2 _ _ _ ?_
  refine br_t (by decide) ?_
  refine leaf ?_
  show _ = (none, apM mm v)
  unfold apM fuR4
  rw [en, nI_clamp (by omega), show nI n + 4 = nI (n + 3 + 1) by rw [show (4 : Int32) = nI 4 from rfl, nI_add]]
  rfl
theorem con_X4_append (l : Launch) : CON l y_X4_append prog_6_method_2_code 3 none rm_X4_append Pre_X4_append Fn_X4_append := CON_of (by decide) rfl rfl (sa_X4_append l) vc_X4_append
abbrev cLt (T : Nat → Int32) (S j : Nat) : Prop := j < S ∧ ¬ T j < 97 ∧ ¬ 122 < T j
abbrev cDg (T : Nat → Int32) (S j : Nat) : Prop := j < S ∧ ¬ T j < 48 ∧ ¬ 57 < T j
abbrev cBl (T : Nat → Int32) (S j : Nat) : Prop := j < S ∧ (T j = 10 ∨ T j = 32)
def w27 (T : Nat → Int32) (s : Nat) : Nat → Int64
  | 0 => 0
  | n + 1 => if n < 8 then w27 T s n * 27 + (T (s + n) - 97 + 1).toInt64 else w27 T s n
def nc4 (T : Nat → Int32) (s : Nat) : Nat → Int32
  | 0 => 0
  | n + 1 => if n < 4 then nc4 T s n * 10 + (T (s + n) - 48) else nc4 T s n
/-- the class's text: next, name -/
def TC (m : MM) (e : Int32) (w : Int64) : MM := mRowL (mRow m 4 0 (upd (m.1 4 0) 3 e)) 4 0 (vp_updL (m.2.1 4 0) 8 w)
theorem vp2 {f : Nat → Int64} {k : Nat} {x y : Int64} : vp_updL (vp_updL f k x) k y = vp_updL f k y := by
  funext j
  unfold vp_updL
  by_cases h : j = k
  · rw [if_pos h, if_pos h]
  · rw [if_neg h, if_neg h, if_neg h]
theorem TC3 {m : MM} {e x : Int32} {w : Int64} : mI (TC m e w) 4 0 3 x = TC m x w := by
  refine Prod.ext ?_ rfl
  show (mRow (mRow m 4 0 (upd (m.1 4 0) 3 e)) 4 0 (upd (upd (m.1 4 0) 3 e) 3 x)).1 = (mRow m 4 0 (upd (m.1 4 0) 3 x)).1
  rw [mRow2, upd2]
theorem TC8 {m : MM} {e : Int32} {w x : Int64} : mL (TC m e w) 4 0 8 x = TC m e x := by
  show mRowL (mRowL (mRow m 4 0 _) 4 0 _) 4 0 (vp_updL (vp_updL (m.2.1 4 0) 8 w) 8 x) = _
  rw [mRowL2, vp2]
  rfl
def ownK (O : Nat → Int64) (v : Int64) : Int32 := if fsI (fun i => O i = v) 30 0 = -1 then 30 else fsI (fun i => O i = v) 30 0
def rwE (T : Nat → Int32) (S s : Nat) : Nat := adv (cLt T S) (S - s) s
def rwK (T : Nat → Int32) (O : Nat → Int64) (s e : Nat) : Int32 := if 8 < e - s then 31 else ownK O (w27 T s (e - s))
def rwM (m : MM) (s : Nat) : MM := mI (TC m (nI (rwE (m.1 26 0) (m.1 4 0 2).toNatClampNeg s)) (w27 (m.1 26 0) s (rwE (m.1 26 0) (m.1 4 0 2).toNatClampNeg s - s))) 4 0 6 (rwK (m.1 26 0) (m.2.1 27 0) s (rwE (m.1 26 0) (m.1 4 0 2).toNatClampNeg s))

def Pre_X4_readWord : PreT := fun m as => ∃ S s : Nat, m.1 4 0 2 = nI S ∧ S ≤ 900 ∧ m.1 4 0 3 = nI s ∧ m.1 4 0 4 = nI s ∧ s ≤ S ∧ as = [vR 4 0]
def Fn_X4_readWord : FnT := fun m _ => (some (vI (bI ((m.1 4 0 3).toNatClampNeg < rwE (m.1 26 0) (m.1 4 0 2).toNatClampNeg (m.1 4 0 3).toNatClampNeg))), rwM m (m.1 4 0 3).toNatClampNeg)
--tpl rfl || bI (({r 1 4 0 3}).toNatClampNeg < rwE ({r 1 26 0}) ({r 1 4 0 2}).toNatClampNeg ({r 1 4 0 3}).toNatClampNeg) || rwM {m} ({r 1 4 0 3}).toNatClampNeg
abbrev y_X4_readWord : MethodName := ⟨"GivenUp$Text", "readWord", "()Z"⟩
def P_X4_readWord : List StpT := [s_aload 0, s_lc 0, s_putL 4 8, s_aload 0, s_getI 4 3, s_aload 0, s_getI 4 2, s_icge 53, s_aload 0, s_getR 4 0 26, s_aload 0, s_getI 4 3, s_bald, s_ic (97), s_iclt 53, s_aload 0, s_getR 4 0 26, s_aload 0, s_getI 4 3, s_bald, s_ic (122), s_icgt 53, s_aload 0, s_getI 4 3, s_aload 0, s_getI 4 4, s_isub, s_ic (8), s_icge 46, s_aload 0, s_aload 0, s_getL 4 8, s_lc (27), s_lmul, s_aload 0, s_getR 4 0 26, s_aload 0, s_getI 4 3, s_bald, s_ic (97), s_isub, s_ic (1), s_iadd, s_i2l, s_ladd, s_putL 4 8, s_aload 0, s_dup, s_getI 4 3, s_ic (1), s_iadd, s_putI 4 3, s_goto 3, s_aload 0, s_aload 0, s_getI 4 3, s_aload 0, s_getI 4 4, s_isub, s_ic (8), s_icle 63, s_ic (31), s_goto 64, s_ic (30), s_putI 4 6, s_ic (0), s_istore 1, s_iload 1, s_ic (30), s_icge 87, s_aload 0, s_getI 4 6, s_ic (30), s_icne 87, s_aload 0, s_getR 4 1 27, s_iload 1, s_lald, s_aload 0, s_getL 4 8, s_lcmp, s_ifne 85, s_aload 0, s_iload 1, s_putI 4 6, s_iinc 1 (1), s_goto 67, s_aload 0, s_getI 4 3, s_aload 0, s_getI 4 4, s_icle 94, s_ic (1), s_goto 95, s_ic (0), s_zret]
def pc_X4_readWord : Nat → Nat := fun i => [0, 1, 2, 5, 6, 9, 10, 13, 16, 17, 20, 21, 24, 25, 27, 30, 31, 34, 35, 38, 39, 41, 44, 45, 48, 49, 52, 53, 55, 58, 59, 60, 63, 66, 67, 68, 71, 72, 75, 76, 78, 79, 80, 81, 82, 83, 86, 87, 88, 91, 92, 93, 96, 99, 100, 101, 104, 105, 108, 109, 111, 114, 116, 119, 121, 124, 125, 126, 127, 129, 132, 133, 136, 138, 141, 142, 145, 146, 147, 148, 151, 152, 155, 156, 157, 160, 163, 166, 167, 170, 171, 174, 177, 178, 181, 182].getD i 0
def dl_X4_readWord : List (Nat × Instr × Nat) := [(0, .aload_n 0, 1), (1, .lconst 0, 1), (2, .putfield 38, 3), (5, .aload_n 0, 1), (6, .getfield 23, 3), (9, .aload_n 0, 1), (10, .getfield 19, 3), (13, .if_icmp .ge 86, 3), (16, .aload_n 0, 1), (17, .getfield 9, 3), (20, .aload_n 0, 1), (21, .getfield 23, 3), (24, .baload, 1), (25, .bipush 97, 2), (27, .if_icmp .lt 72, 3), (30, .aload_n 0, 1), (31, .getfield 9, 3), (34, .aload_n 0, 1), (35, .getfield 23, 3), (38, .baload, 1), (39, .bipush 122, 2), (41, .if_icmp .gt 58, 3), (44, .aload_n 0, 1), (45, .getfield 23, 3), (48, .aload_n 0, 1), (49, .getfield 26, 3), (52, .isub, 1), (53, .bipush 8, 2), (55, .if_icmp .ge 31, 3), (58, .aload_n 0, 1), (59, .aload_n 0, 1), (60, .getfield 38, 3), (63, .ldc2_w 60, 3), (66, .lmul, 1), (67, .aload_n 0, 1), (68, .getfield 9, 3), (71, .aload_n 0, 1), (72, .getfield 23, 3), (75, .baload, 1), (76, .bipush 97, 2), (78, .isub, 1), (79, .iconst 1, 1), (80, .iadd, 1), (81, .i2l, 1), (82, .ladd, 1), (83, .putfield 38, 3), (86, .aload_n 0, 1), (87, .dup, 1), (88, .getfield 23, 3), (91, .iconst 1, 1), (92, .iadd, 1), (93, .putfield 23, 3), (96, .goto (-91), 3), (99, .aload_n 0, 1), (100, .aload_n 0, 1), (101, .getfield 23, 3), (104, .aload_n 0, 1), (105, .getfield 26, 3), (108, .isub, 1), (109, .bipush 8, 2), (111, .if_icmp .le 8, 3), (114, .bipush 31, 2), (116, .goto 5, 3), (119, .bipush 30, 2), (121, .putfield 32, 3), (124, .iconst 0, 1), (125, .istore_n 1, 1), (126, .iload_n 1, 1), (127, .bipush 30, 2), (129, .if_icmp .ge 37, 3), (132, .aload_n 0, 1), (133, .getfield 32, 3), (136, .bipush 30, 2), (138, .if_icmp .ne 28, 3), (141, .aload_n 0, 1), (142, .getfield 15, 3), (145, .iload_n 1, 1), (146, .laload, 1), (147, .aload_n 0, 1), (148, .getfield 38, 3), (151, .lcmp, 1), (152, .ifCond .ne 8, 3), (155, .aload_n 0, 1), (156, .iload_n 1, 1), (157, .putfield 32, 3), (160, .iinc 1 1, 3), (163, .goto (-37), 3), (166, .aload_n 0, 1), (167, .getfield 23, 3), (170, .aload_n 0, 1), (171, .getfield 26, 3), (174, .if_icmp .le 7, 3), (177, .iconst 1, 1), (178, .goto 4, 3), (181, .iconst 0, 1), (182, .ireturn, 1)]
theorem dc_X4_readWord : DEC prog_6_method_5_code pc_X4_readWord dl_X4_readWord := DEC_of (by decide +kernel)
abbrev rm_X4_readWord : Room := { frames := 0, cells := 0, slots := 0, locals := 0 }
set_option maxRecDepth 20000 in
theorem sa_X4_readWord (l : Launch) : SNDALL l prog_6_method_5_code "GivenUp$Text" 2 (some .boolean) rm_X4_readWord P_X4_readWord pc_X4_readWord := fun p e s m args below meth c cells slots Q D dA ad A RR hC hR => by
  have hM := RTX_room (R := rm_X4_readWord) hR
  exact ⟨st_aload_n hC (n := 0) (k := 0) (dc_X4_readWord 0 (0, .aload_n 0, 1) rfl rfl) rfl rfl,
    st_lconst hC (n := 1) (x := 0) (dc_X4_readWord 1 (1, .lconst 0, 1) rfl rfl) rfl (by decide),
    st_putL hC (n := 2) (k := 4) (j := 8) (dc_X4_readWord 2 (2, .putfield 38, 3) rfl rfl) rfl clf_4 (by decide) rfl rfl rfl wd_241,
    st_aload_n hC (n := 3) (k := 0) (dc_X4_readWord 3 (5, .aload_n 0, 1) rfl rfl) rfl rfl,
    st_getI hC (n := 4) (k := 4) (j := 3) (dc_X4_readWord 4 (6, .getfield 23, 3) rfl rfl) rfl clf_4 (by decide) rfl wd_233,
    st_aload_n hC (n := 5) (k := 0) (dc_X4_readWord 5 (9, .aload_n 0, 1) rfl rfl) rfl rfl,
    st_getI hC (n := 6) (k := 4) (j := 2) (dc_X4_readWord 6 (10, .getfield 19, 3) rfl rfl) rfl clf_4 (by decide) rfl wd_232,
    st_icge hC (n := 7) (dc_X4_readWord 7 (13, .if_icmp .ge 86, 3) rfl rfl) rfl (by decide),
    st_aload_n hC (n := 8) (k := 0) (dc_X4_readWord 8 (16, .aload_n 0, 1) rfl rfl) rfl rfl,
    st_getR hC (n := 9) (k := 4) (j := 0) (dc_X4_readWord 9 (17, .getfield 9, 3) rfl rfl) rfl clf_4 (by decide) rfl (by decide) wd_230,
    st_aload_n hC (n := 10) (k := 0) (dc_X4_readWord 10 (20, .aload_n 0, 1) rfl rfl) rfl rfl,
    st_getI hC (n := 11) (k := 4) (j := 3) (dc_X4_readWord 11 (21, .getfield 23, 3) rfl rfl) rfl clf_4 (by decide) rfl wd_233,
    st_bald hC (n := 12) (dc_X4_readWord 12 (24, .baload, 1) rfl rfl) rfl,
    st_bipush hC (n := 13) (x := 97) (dc_X4_readWord 13 (25, .bipush 97, 2) rfl rfl) rfl (by decide),
    st_iclt hC (n := 14) (dc_X4_readWord 14 (27, .if_icmp .lt 72, 3) rfl rfl) rfl (by decide),
    st_aload_n hC (n := 15) (k := 0) (dc_X4_readWord 15 (30, .aload_n 0, 1) rfl rfl) rfl rfl,
    st_getR hC (n := 16) (k := 4) (j := 0) (dc_X4_readWord 16 (31, .getfield 9, 3) rfl rfl) rfl clf_4 (by decide) rfl (by decide) wd_230,
    st_aload_n hC (n := 17) (k := 0) (dc_X4_readWord 17 (34, .aload_n 0, 1) rfl rfl) rfl rfl,
    st_getI hC (n := 18) (k := 4) (j := 3) (dc_X4_readWord 18 (35, .getfield 23, 3) rfl rfl) rfl clf_4 (by decide) rfl wd_233,
    st_bald hC (n := 19) (dc_X4_readWord 19 (38, .baload, 1) rfl rfl) rfl,
    st_bipush hC (n := 20) (x := 122) (dc_X4_readWord 20 (39, .bipush 122, 2) rfl rfl) rfl (by decide),
    st_icgt hC (n := 21) (dc_X4_readWord 21 (41, .if_icmp .gt 58, 3) rfl rfl) rfl (by decide),
    st_aload_n hC (n := 22) (k := 0) (dc_X4_readWord 22 (44, .aload_n 0, 1) rfl rfl) rfl rfl,
    st_getI hC (n := 23) (k := 4) (j := 3) (dc_X4_readWord 23 (45, .getfield 23, 3) rfl rfl) rfl clf_4 (by decide) rfl wd_233,
    st_aload_n hC (n := 24) (k := 0) (dc_X4_readWord 24 (48, .aload_n 0, 1) rfl rfl) rfl rfl,
    st_getI hC (n := 25) (k := 4) (j := 4) (dc_X4_readWord 25 (49, .getfield 26, 3) rfl rfl) rfl clf_4 (by decide) rfl wd_234,
    st_isub hC (n := 26) (dc_X4_readWord 26 (52, .isub, 1) rfl rfl) rfl,
    st_bipush hC (n := 27) (x := 8) (dc_X4_readWord 27 (53, .bipush 8, 2) rfl rfl) rfl (by decide),
    st_icge hC (n := 28) (dc_X4_readWord 28 (55, .if_icmp .ge 31, 3) rfl rfl) rfl (by decide),
    st_aload_n hC (n := 29) (k := 0) (dc_X4_readWord 29 (58, .aload_n 0, 1) rfl rfl) rfl rfl,
    st_aload_n hC (n := 30) (k := 0) (dc_X4_readWord 30 (59, .aload_n 0, 1) rfl rfl) rfl rfl,
    st_getL hC (n := 31) (k := 4) (j := 8) (dc_X4_readWord 31 (60, .getfield 38, 3) rfl rfl) rfl clf_4 (by decide) rfl wd_241,
    st_ldc2 hC (n := 32) (x := 27) (dc_X4_readWord 32 (63, .ldc2_w 60, 3) rfl rfl) rfl wd_229,
    st_lmul hC (n := 33) (dc_X4_readWord 33 (66, .lmul, 1) rfl rfl) rfl,
    st_aload_n hC (n := 34) (k := 0) (dc_X4_readWord 34 (67, .aload_n 0, 1) rfl rfl) rfl rfl,
    st_getR hC (n := 35) (k := 4) (j := 0) (dc_X4_readWord 35 (68, .getfield 9, 3) rfl rfl) rfl clf_4 (by decide) rfl (by decide) wd_230,
    st_aload_n hC (n := 36) (k := 0) (dc_X4_readWord 36 (71, .aload_n 0, 1) rfl rfl) rfl rfl,
    st_getI hC (n := 37) (k := 4) (j := 3) (dc_X4_readWord 37 (72, .getfield 23, 3) rfl rfl) rfl clf_4 (by decide) rfl wd_233,
    st_bald hC (n := 38) (dc_X4_readWord 38 (75, .baload, 1) rfl rfl) rfl,
    st_bipush hC (n := 39) (x := 97) (dc_X4_readWord 39 (76, .bipush 97, 2) rfl rfl) rfl (by decide),
    st_isub hC (n := 40) (dc_X4_readWord 40 (78, .isub, 1) rfl rfl) rfl,
    st_iconst hC (n := 41) (x := 1) (dc_X4_readWord 41 (79, .iconst 1, 1) rfl rfl) rfl (by decide),
    st_iadd hC (n := 42) (dc_X4_readWord 42 (80, .iadd, 1) rfl rfl) rfl,
    st_i2l hC (n := 43) (dc_X4_readWord 43 (81, .i2l, 1) rfl rfl) rfl,
    st_ladd hC (n := 44) (dc_X4_readWord 44 (82, .ladd, 1) rfl rfl) rfl,
    st_putL hC (n := 45) (k := 4) (j := 8) (dc_X4_readWord 45 (83, .putfield 38, 3) rfl rfl) rfl clf_4 (by decide) rfl rfl rfl wd_241,
    st_aload_n hC (n := 46) (k := 0) (dc_X4_readWord 46 (86, .aload_n 0, 1) rfl rfl) rfl rfl,
    st_dup hC (n := 47) (dc_X4_readWord 47 (87, .dup, 1) rfl rfl) rfl,
    st_getI hC (n := 48) (k := 4) (j := 3) (dc_X4_readWord 48 (88, .getfield 23, 3) rfl rfl) rfl clf_4 (by decide) rfl wd_233,
    st_iconst hC (n := 49) (x := 1) (dc_X4_readWord 49 (91, .iconst 1, 1) rfl rfl) rfl (by decide),
    st_iadd hC (n := 50) (dc_X4_readWord 50 (92, .iadd, 1) rfl rfl) rfl,
    st_putI hC (n := 51) (k := 4) (j := 3) (dc_X4_readWord 51 (93, .putfield 23, 3) rfl rfl) rfl clf_4 (by decide) rfl rfl rfl wd_233,
    st_goto hC (n := 52) (dc_X4_readWord 52 (96, .goto (-91), 3) rfl rfl) (by decide),
    st_aload_n hC (n := 53) (k := 0) (dc_X4_readWord 53 (99, .aload_n 0, 1) rfl rfl) rfl rfl,
    st_aload_n hC (n := 54) (k := 0) (dc_X4_readWord 54 (100, .aload_n 0, 1) rfl rfl) rfl rfl,
    st_getI hC (n := 55) (k := 4) (j := 3) (dc_X4_readWord 55 (101, .getfield 23, 3) rfl rfl) rfl clf_4 (by decide) rfl wd_233,
    st_aload_n hC (n := 56) (k := 0) (dc_X4_readWord 56 (104, .aload_n 0, 1) rfl rfl) rfl rfl,
    st_getI hC (n := 57) (k := 4) (j := 4) (dc_X4_readWord 57 (105, .getfield 26, 3) rfl rfl) rfl clf_4 (by decide) rfl wd_234,
    st_isub hC (n := 58) (dc_X4_readWord 58 (108, .isub, 1) rfl rfl) rfl,
    st_bipush hC (n := 59) (x := 8) (dc_X4_readWord 59 (109, .bipush 8, 2) rfl rfl) rfl (by decide),
    st_icle hC (n := 60) (dc_X4_readWord 60 (111, .if_icmp .le 8, 3) rfl rfl) rfl (by decide),
    st_bipush hC (n := 61) (x := 31) (dc_X4_readWord 61 (114, .bipush 31, 2) rfl rfl) rfl (by decide),
    st_goto hC (n := 62) (dc_X4_readWord 62 (116, .goto 5, 3) rfl rfl) (by decide),
    st_bipush hC (n := 63) (x := 30) (dc_X4_readWord 63 (119, .bipush 30, 2) rfl rfl) rfl (by decide),
    st_putI hC (n := 64) (k := 4) (j := 6) (dc_X4_readWord 64 (121, .putfield 32, 3) rfl rfl) rfl clf_4 (by decide) rfl rfl rfl wd_237,
    st_iconst hC (n := 65) (x := 0) (dc_X4_readWord 65 (124, .iconst 0, 1) rfl rfl) rfl (by decide),
    st_istore_n hC (n := 66) (k := 1) (dc_X4_readWord 66 (125, .istore_n 1, 1) rfl rfl) rfl rfl (by decide),
    st_iload_n hC (n := 67) (k := 1) (dc_X4_readWord 67 (126, .iload_n 1, 1) rfl rfl) rfl rfl,
    st_bipush hC (n := 68) (x := 30) (dc_X4_readWord 68 (127, .bipush 30, 2) rfl rfl) rfl (by decide),
    st_icge hC (n := 69) (dc_X4_readWord 69 (129, .if_icmp .ge 37, 3) rfl rfl) rfl (by decide),
    st_aload_n hC (n := 70) (k := 0) (dc_X4_readWord 70 (132, .aload_n 0, 1) rfl rfl) rfl rfl,
    st_getI hC (n := 71) (k := 4) (j := 6) (dc_X4_readWord 71 (133, .getfield 32, 3) rfl rfl) rfl clf_4 (by decide) rfl wd_237,
    st_bipush hC (n := 72) (x := 30) (dc_X4_readWord 72 (136, .bipush 30, 2) rfl rfl) rfl (by decide),
    st_icne hC (n := 73) (dc_X4_readWord 73 (138, .if_icmp .ne 28, 3) rfl rfl) rfl (by decide),
    st_aload_n hC (n := 74) (k := 0) (dc_X4_readWord 74 (141, .aload_n 0, 1) rfl rfl) rfl rfl,
    st_getR hC (n := 75) (k := 4) (j := 1) (dc_X4_readWord 75 (142, .getfield 15, 3) rfl rfl) rfl clf_4 (by decide) rfl (by decide) wd_231,
    st_iload_n hC (n := 76) (k := 1) (dc_X4_readWord 76 (145, .iload_n 1, 1) rfl rfl) rfl rfl,
    st_lald hC (n := 77) (dc_X4_readWord 77 (146, .laload, 1) rfl rfl) rfl,
    st_aload_n hC (n := 78) (k := 0) (dc_X4_readWord 78 (147, .aload_n 0, 1) rfl rfl) rfl rfl,
    st_getL hC (n := 79) (k := 4) (j := 8) (dc_X4_readWord 79 (148, .getfield 38, 3) rfl rfl) rfl clf_4 (by decide) rfl wd_241,
    st_lcmp hC (n := 80) (dc_X4_readWord 80 (151, .lcmp, 1) rfl rfl) rfl,
    st_ifne hC (n := 81) (dc_X4_readWord 81 (152, .ifCond .ne 8, 3) rfl rfl) rfl (by decide),
    st_aload_n hC (n := 82) (k := 0) (dc_X4_readWord 82 (155, .aload_n 0, 1) rfl rfl) rfl rfl,
    st_iload_n hC (n := 83) (k := 1) (dc_X4_readWord 83 (156, .iload_n 1, 1) rfl rfl) rfl rfl,
    st_putI hC (n := 84) (k := 4) (j := 6) (dc_X4_readWord 84 (157, .putfield 32, 3) rfl rfl) rfl clf_4 (by decide) rfl rfl rfl wd_237,
    st_iinc hC (n := 85) (x := 1) (dc_X4_readWord 85 (160, .iinc 1 1, 3) rfl rfl) rfl (by decide) (by decide),
    st_goto hC (n := 86) (dc_X4_readWord 86 (163, .goto (-37), 3) rfl rfl) (by decide),
    st_aload_n hC (n := 87) (k := 0) (dc_X4_readWord 87 (166, .aload_n 0, 1) rfl rfl) rfl rfl,
    st_getI hC (n := 88) (k := 4) (j := 3) (dc_X4_readWord 88 (167, .getfield 23, 3) rfl rfl) rfl clf_4 (by decide) rfl wd_233,
    st_aload_n hC (n := 89) (k := 0) (dc_X4_readWord 89 (170, .aload_n 0, 1) rfl rfl) rfl rfl,
    st_getI hC (n := 90) (k := 4) (j := 4) (dc_X4_readWord 90 (171, .getfield 26, 3) rfl rfl) rfl clf_4 (by decide) rfl wd_234,
    st_icle hC (n := 91) (dc_X4_readWord 91 (174, .if_icmp .le 7, 3) rfl rfl) rfl (by decide),
    st_iconst hC (n := 92) (x := 1) (dc_X4_readWord 92 (177, .iconst 1, 1) rfl rfl) rfl (by decide),
    st_goto hC (n := 93) (dc_X4_readWord 93 (178, .goto 4, 3) rfl rfl) (by decide),
    st_iconst hC (n := 94) (x := 0) (dc_X4_readWord 94 (181, .iconst 0, 1) rfl rfl) rfl (by decide),
    st_zret hC (n := 95) hR (dc_X4_readWord 95 (182, .ireturn, 1) rfl rfl), trivial⟩
set_option maxRecDepth 8000 in
theorem vc_X4_readWord : VC P_X4_readWord 2 Pre_X4_readWord Fn_X4_readWord := by
  rintro mm as hom hoa ⟨S, s, hS, hS9, hs, hst, hsS, rfl⟩
  refine ⟨Nat.le_of_ble_eq_true rfl, fun X h => ?_⟩
  have hSn : (mm.1 4 0 2).toNatClampNeg = S := by rw [hS]; exact nI_clamp (by omega)
  obtain ⟨T, hT⟩ : ∃ T, mm.1 26 0 = T := ⟨_, rfl⟩
  obtain ⟨O, hO⟩ : ∃ O, mm.2.1 27 0 = O := ⟨_, rfl⟩
  have hF : Fn_X4_readWord mm [vR 4 0] = (some (vI (bI (s < rwE T S s))), mI (TC mm (nI (rwE T S s)) (w27 T s (rwE T S s - s))) 4 0 6 (rwK T O s (rwE T S s))) := by
    show (some (vI (bI ((mm.1 4 0 3).toNatClampNeg < rwE (mm.1 26 0) (mm.1 4 0 2).toNatClampNeg (mm.1 4 0 3).toNatClampNeg))), rwM mm (mm.1 4 0 3).toNatClampNeg) = _
    unfold rwM
    rw [hSn, hs, hT, hO]
    simp only [nI_clamp (show s < 2 ^ 31 by omega)]
  rw [hF] at h
  obtain ⟨E, hE⟩ : ∃ E, E = rwE T S s := ⟨_, rfl⟩
  have hsE : s ≤ E := by rw [hE]; exact adv_ge _ _ _
  have hES : E ≤ S := by
    have := adv_le (cLt T S) (S - s) s
    rw [hE]; unfold rwE; omega
  rw [← hE] at h
  obtain ⟨w, hw⟩ : ∃ w, w = w27 T s (E - s) := ⟨_, rfl⟩
  rw [← hw] at h
  have fin : ∀ K L1, K = rwK T O s E → X 87 [some (vR 4 0), L1] [] (mI (TC mm (nI E) w) 4 0 6 K) := by
    intro K L1 hK
    subst hK
    have k : nI E ≤ nI s ↔ ¬ s < E := by rw [nI_leI (by omega) (by omega)]; omega
    show X 87 [some (vR 4 0), L1] [] (mI (TC mm (nI E) w) 4 0 6 (rwK T O s E))
    refine h (fun _ => false) 3000 87 _ _ _ ?_
    refine br_c (fun b91 => ?_) (fun b91 => ?_)
    · -- 91: nI E ≤ mm.1 4 0 4 taken
      replace b91 : nI E ≤ mm.1 4 0 4 := b91
      (try simp only [hst] at b91)
      refine And.intro (Or.inl rfl) ?_
      show ((some (vI 0) : Option MV), mI (TC mm (nI E) w) 4 0 6 (rwK T O s E)) = _
      (try simp only [hst])
      exact ret_f (k.mp b91)
    · -- 91: nI E ≤ mm.1 4 0 4 on
      replace b91 : ¬ (nI E ≤ mm.1 4 0 4) := b91
      (try simp only [hst] at b91)
      refine And.intro (Or.inr rfl) ?_
      show ((some (vI 1) : Option MV), mI (TC mm (nI E) w) 4 0 6 (rwK T O s E)) = _
      (try simp only [hst])
      exact ret_t (Classical.byContradiction (fun z => b91 (k.mpr z)))
  have k6 : ∀ a b : Int32, mI (mI (TC mm (nI E) w) 4 0 6 a) 4 0 6 b = mI (TC mm (nI E) w) 4 0 6 b := fun a b => by
    show mRow (mRow (TC mm (nI E) w) 4 0 _) 4 0 (upd ((mRow (TC mm (nI E) w) 4 0 _).1 4 0) 6 b) = _
    rw [mRow2, mRow_row, upd2]
  have long : 8 < E - s → X 67 [some (vR 4 0), some (vI (0))] [] (mI (TC mm (nI E) w) 4 0 6 31) := by
    intro hc
    show X 67 [some (vR 4 0), some (vI 0)] [] (mI (TC mm (nI E) w) 4 0 6 31)
    refine h (fun i => Nat.beq i 87) 3000 67 _ _ _ ?_
    refine br_f (show ¬ (30 ≤ 0) from by decide) ?_
    refine brn_t (show ¬ (31 = 30) from by decide) ?_
    show X 87 [some (vR 4 0), some (vI 0)] [] (mI (TC mm (nI E) w) 4 0 6 31)
    exact fin _ _ (by unfold rwK; rw [if_pos hc])
  have own : ¬ 8 < E - s → ∀ i, i ≤ 30 → fsI (fun i => O i = w) (30 - i) i = fsI (fun i => O i = w) 30 0 → X 67 [some (vR 4 0), some (vI (nI i))] [] (mI (TC mm (nI E) w) 4 0 6 30) := by
    intro hc
    refine up_ind 30 ?_ (fun i hi ih => ?_)
    · intro hr
      have e : fsI (fun i => O i = w) 30 0 = -1 := hr.symm
      show X 67 [some (vR 4 0), some (vI (nI 30))] [] (mI (TC mm (nI E) w) 4 0 6 30)
      refine h (fun i => Nat.beq i 87) 3000 67 _ _ _ ?_
      refine br_t (show 30 ≤ nI 30 from Int32.le_refl _) ?_
      show X 87 [some (vR 4 0), some (vI (nI 30))] [] (mI (TC mm (nI E) w) 4 0 6 30)
      exact fin _ _ (by unfold rwK ownK; rw [if_neg hc, ← hw, if_pos e])
    · intro hr
      have ei : (nI i).toNatClampNeg = i := nI_clamp (by omega)
      rw [show 30 - i = (30 - (i + 1)) + 1 by omega] at hr
      have found : O i = w → X 67 [some (vR 4 0), some (vI (nI (i + 1)))] [] (mI (TC mm (nI E) w) 4 0 6 (nI i)) := by
        intro hw2
        rw [fsI_y (P := fun i => O i = w) hw2] at hr
        have n1 : ¬ nI i = -1 := fun z => (gu_m1 (by omega)).mp z
        have n30 : ¬ nI i = 30 := fun z => by have := (nI_eq (a := i) (b := 30) (by omega) (by omega)).mp z; omega
        show X 67 [some (vR 4 0), some (vI (nI (i + 1)))] [] (mI (TC mm (nI E) w) 4 0 6 (nI i))
        refine h (fun i => Nat.beq i 74 || Nat.beq i 87) 3000 67 _ _ _ ?_
        refine br_c (fun b69 => ?_) (fun b69 => ?_)
        · -- 69: 30 ≤ nI (i + 1) taken
          replace b69 : 30 ≤ nI (i + 1) := b69
          show X 87 [some (vR 4 0), some (vI (nI (i + 1)))] [] (mI (TC mm (nI E) w) 4 0 6 (nI i))
          exact fin _ _ (by unfold rwK ownK; rw [if_neg hc, ← hw, ← hr, if_neg n1])
        · -- 69: 30 ≤ nI (i + 1) on
          replace b69 : ¬ (30 ≤ nI (i + 1)) := b69
          refine brn_c (fun b73 => ?_) (fun b73 => ?_)
          · -- 73: nI i = 30 taken
            replace b73 : ¬ (nI i = 30) := b73
            show X 87 [some (vR 4 0), some (vI (nI (i + 1)))] [] (mI (TC mm (nI E) w) 4 0 6 (nI i))
            exact fin _ _ (by unfold rwK ownK; rw [if_neg hc, ← hw, ← hr, if_neg n1])
          · -- 73: nI i = 30 on
            replace b73 : nI i = 30 := b73
            show X 74 [some (vR 4 0), some (vI (nI (i + 1)))] [] (mI (TC mm (nI E) w) 4 0 6 (nI i))
            exact absurd b73 n30
      show X 67 [some (vR 4 0), some (vI (nI i))] [] (mI (TC mm (nI E) w) 4 0 6 30)
      refine h (fun i => Nat.beq i 67) 3000 67 _ _ _ ?_
      refine br_f (show ¬ (30 ≤ nI i) from show ¬ nI 30 ≤ nI i from nI_ge hi (by omega)) ?_
      refine brn_f (show 30 = 30 from rfl) ?_
      refine And.intro (show inb (nI i) (alen 27) = true from (inb_o 30 rfl rfl rfl (by omega))) ?_
      refine brn_c (fun b81 => ?_) (fun b81 => ?_)
      · -- 81: lg_cmp (mm.2.1 27 0 ((nI i).toNatClampNeg)) w = 0 taken
        replace b81 : ¬ (lg_cmp (mm.2.1 27 0 ((nI i).toNatClampNeg)) w = 0) := b81
        (try simp only [hO, ei, lg_cmp_eq] at b81)
        show X 67 [some (vR 4 0), some (vI ((nI i) + 1))] [] (mI (TC mm (nI E) w) 4 0 6 30)
        (try simp only [hO, ei, lg_cmp_eq])
        rw [fsI_n (P := fun i => O i = w) b81] at hr
        rw [nI_1] 
        exact ih hr
      · -- 81: lg_cmp (mm.2.1 27 0 ((nI i).toNatClampNeg)) w = 0 on
        replace b81 : lg_cmp (mm.2.1 27 0 ((nI i).toNatClampNeg)) w = 0 := b81
        (try simp only [hO, ei, lg_cmp_eq] at b81)
        show X 67 [some (vR 4 0), some (vI ((nI i) + 1))] [] (mI (mI (TC mm (nI E) w) 4 0 6 30) 4 0 6 (nI i))
        (try simp only [hO, ei, lg_cmp_eq])
        rw [k6, nI_1]
        exact found b81
  have kind : ∀ K, K = (if 8 < E - s then 31 else 30) → X 64 [some (vR 4 0), none] [vI (K), vR 4 0] (TC mm (nI E) w) := by
    intro K hK
    show X 64 [some (vR 4 0), none] [vI K, vR 4 0] (TC mm (nI E) w)
    refine h (fun i => Nat.beq i 67) 3000 64 _ _ _ ?_
    show X 67 [some (vR 4 0), some (vI 0)] [] (mI (TC mm (nI E) w) 4 0 6 K)
    by_cases hc : 8 < E - s
    · rw [if_pos hc] at hK; subst hK; exact long hc 
    · rw [if_neg hc] at hK; subst hK; exact own hc 0 (by omega) rfl
  have s53 : X 53 [some (vR 4 0), none] [] (TC mm (nI E) w) := by
    have k : nI E - nI s ≤ 8 ↔ ¬ 8 < E - s := by
      rw [nI_sb hsE, show (8 : Int32) = nI 8 from rfl, nI_leI (by omega) (by omega)]
      omega
    show X 53 [some (vR 4 0), none] [] (TC mm (nI E) w)
    refine h (fun i => Nat.beq i 64) 3000 53 _ _ _ ?_
    refine br_c (fun b60 => ?_) (fun b60 => ?_)
    · -- 60: (nI E) - (mm.1 4 0 4) ≤ 8 taken
      replace b60 : (nI E) - (mm.1 4 0 4) ≤ 8 := b60
      (try simp only [hst] at b60)
      show X 64 [some (vR 4 0), none] [vI 30, vR 4 0] (TC mm (nI E) w)
      (try simp only [hst])
      exact kind _ (by rw [if_neg (k.mp b60)])
    · -- 60: (nI E) - (mm.1 4 0 4) ≤ 8 on
      replace b60 : ¬ ((nI E) - (mm.1 4 0 4) ≤ 8) := b60
      (try simp only [hst] at b60)
      show X 64 [some (vR 4 0), none] [vI 31, vR 4 0] (TC mm (nI E) w)
      (try simp only [hst])
      exact kind _ (by rw [if_pos (Classical.byContradiction (fun z => b60 (k.mpr z)))])
  have loop : ∀ f n, S - (s + n) < f → s + n ≤ S → adv (cLt T S) (S - (s + n)) (s + n) = E → X 3 [some (vR 4 0), none] [] (TC mm (nI (s + n)) (w27 T s n)) := by
    intro f
    induction f with
    | zero => intro n h1; omega
    | succ f ih =>
      intro n h1 h2 ha
      have en : (nI (s + n)).toNatClampNeg = s + n := nI_clamp (by omega)
      have stop : ¬ cLt T S (s + n) → X 53 [some (vR 4 0), none] [] (TC mm (nI (s + n)) (w27 T s n)) := by
        intro hc
        rw [adv_n hc] at ha
        have hn : n = E - s := by omega
        rw [ha, hn, ← hw]
        exact s53
      have go : cLt T S (s + n) → X 22 [some (vR 4 0), none] [] (TC mm (nI (s + n)) (w27 T s n)) := by
        intro hc
        have hlt := hc.1
        rw [show S - (s + n) = (S - (s + (n + 1))) + 1 by omega, adv_y hc] at ha
        have next := ih (n + 1) (by omega) (by omega) ha
        have k8 : 8 ≤ nI (s + n) - nI s ↔ ¬ n < 8 := by
          rw [nI_sb (by omega), show (8 : Int32) = nI 8 from rfl, nI_leI (by omega) (by omega)]
          omega
        rw [w27] at next
        show X 22 [some (vR 4 0), none] [] (TC mm (nI (s + n)) (w27 T s n))
        refine h (fun i => Nat.beq i 3) 3000 22 _ _ _ ?_
        refine br_c (fun b28 => ?_) (fun b28 => ?_)
        · -- 28: 8 ≤ (nI (s + n)) - (mm.1 4 0 4) taken
          replace b28 : 8 ≤ (nI (s + n)) - (mm.1 4 0 4) := b28
          (try simp only [hst, hT, en] at b28)
          show X 3 [some (vR 4 0), none] [] (mI (TC mm (nI (s + n)) (w27 T s n)) 4 0 3 ((nI (s + n)) + 1))
          (try simp only [hst, hT, en])
          rw [if_neg (k8.mp b28)] at next
          rw [TC3, nI_1] 
          exact next
        · -- 28: 8 ≤ (nI (s + n)) - (mm.1 4 0 4) on
          replace b28 : ¬ (8 ≤ (nI (s + n)) - (mm.1 4 0 4)) := b28
          (try simp only [hst, hT, en] at b28)
          refine And.intro (show inb (nI (s + n)) (alen 26) = true from (inb_o 900 rfl rfl rfl (by omega))) ?_
          show X 3 [some (vR 4 0), none] [] (mI (mL (TC mm (nI (s + n)) (w27 T s n)) 4 0 8 (((w27 T s n) * 27) + ((((mm.1 26 0 ((nI (s + n)).toNatClampNeg)) - 97) + 1).toInt64))) 4 0 3 ((nI (s + n)) + 1))
          (try simp only [hst, hT, en])
          rw [if_pos (Classical.byContradiction (fun z => b28 (k8.mpr z)))] at next
          rw [TC8, TC3, nI_1] 
          exact next
      show X 3 [some (vR 4 0), none] [] (TC mm (nI (s + n)) (w27 T s n))
      refine h (fun i => Nat.beq i 22 || Nat.beq i 53) 3000 3 _ _ _ ?_
      refine br_c (fun b7 => ?_) (fun b7 => ?_)
      · -- 7: mm.1 4 0 2 ≤ nI (s + n) taken
        replace b7 : mm.1 4 0 2 ≤ nI (s + n) := b7
        (try simp only [hT, hS, en] at b7)
        show X 53 [some (vR 4 0), none] [] (TC mm (nI (s + n)) (w27 T s n))
        (try simp only [hT, hS, en])
        exact stop (fun z => by rw [nI_leI (by omega) (by omega)] at b7; have := z.1; omega)
      · -- 7: mm.1 4 0 2 ≤ nI (s + n) on
        replace b7 : ¬ (mm.1 4 0 2 ≤ nI (s + n)) := b7
        (try simp only [hT, hS, en] at b7)
        refine And.intro (show inb (nI (s + n)) (alen 26) = true from (inb_o 900 rfl rfl rfl (by rw [nI_leI (by omega) (by omega)] at b7; omega))) ?_
        refine br_c (fun b14 => ?_) (fun b14 => ?_)
        · -- 14: mm.1 26 0 ((nI (s + n)).toNatClampNeg) < 97 taken
          replace b14 : mm.1 26 0 ((nI (s + n)).toNatClampNeg) < 97 := b14
          (try simp only [hT, hS, en] at b14)
          show X 53 [some (vR 4 0), none] [] (TC mm (nI (s + n)) (w27 T s n))
          (try simp only [hT, hS, en])
          exact stop (fun z => z.2.1 b14)
        · -- 14: mm.1 26 0 ((nI (s + n)).toNatClampNeg) < 97 on
          replace b14 : ¬ (mm.1 26 0 ((nI (s + n)).toNatClampNeg) < 97) := b14
          (try simp only [hT, hS, en] at b14)
          refine And.intro (show inb (nI (s + n)) (alen 26) = true from (inb_o 900 rfl rfl rfl (by rw [nI_leI (by omega) (by omega)] at b7; omega))) ?_
          refine br_c (fun b21 => ?_) (fun b21 => ?_)
          · -- 21: 122 < mm.1 26 0 ((nI (s + n)).toNatClampNeg) taken
            replace b21 : 122 < mm.1 26 0 ((nI (s + n)).toNatClampNeg) := b21
            (try simp only [hT, hS, en] at b21)
            show X 53 [some (vR 4 0), none] [] (TC mm (nI (s + n)) (w27 T s n))
            (try simp only [hT, hS, en])
            exact stop (fun z => z.2.2 b21)
          · -- 21: 122 < mm.1 26 0 ((nI (s + n)).toNatClampNeg) on
            replace b21 : ¬ (122 < mm.1 26 0 ((nI (s + n)).toNatClampNeg)) := b21
            (try simp only [hT, hS, en] at b21)
            show X 22 [some (vR 4 0), none] [] (TC mm (nI (s + n)) (w27 T s n))
            (try simp only [hT, hS, en])
            exact go ⟨by rw [nI_leI (by omega) (by omega)] at b7; omega, b14, b21⟩
  have l0 := loop (S - s + 1) 0 (by omega) hsS hE.symm
  show X 0 [some (vR 4 0), none] [] mm
  refine h (fun i => Nat.beq i 3) 3000 0 _ _ _ ?_
  show X 3 [some (vR 4 0), none] [] (mL mm 4 0 8 0)
  rw [show mL mm 4 0 8 0 = TC mm (nI (s + 0)) (w27 T s 0) by rw [Nat.add_zero, ← hs]; unfold TC; rw [upd_self rfl, mRow_self]; rfl]
  exact l0
theorem con_X4_readWord (l : Launch) : CON l y_X4_readWord prog_6_method_5_code 2 (some .boolean) rm_X4_readWord Pre_X4_readWord Fn_X4_readWord := CON_of (by decide) rfl rfl (sa_X4_readWord l) vc_X4_readWord
