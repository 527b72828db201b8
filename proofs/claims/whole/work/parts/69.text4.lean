/-! PART 69: the class: a tray, the parts of a valley's text -/

def trC (m : MM) (g : Nat) (s n : Int32) : MM := mRowL (mI (mI (mI m 5 g 1 1) 5 g 2 s) 5 g 3 n) 28 g (flQ (m.2.1 28 g) 0 (alen 28))

--tpl ⟨_, _, _, rfl⟩ ||  || trC {m} {g0} {1} {2}
def Pre_X5_set : PreT := fun _ as => ∃ (g : Nat) (s n : Int32), as = [vR 5 g, vI s, vI n]
def Fn_X5_set : FnT := fun m as => match as with
  | [Sum.inr (Sum.inr q), Sum.inl s, Sum.inl n] => (none, trC m q.2 s n)
  | _ => (none, m)
abbrev y_X5_set : MethodName := ⟨"GivenUp$Tray", "set", "(II)V"⟩
def P_X5_set : List StpT := [s_aload 0, s_ic (1), s_putZ 5 1, s_aload 0, s_iload 1, s_putI 5 2, s_aload 0, s_iload 2, s_putI 5 3, s_aload 0, s_getR 5 0 28, s_lc 0, s_callS 2 Pre_J7_fill_d0a16 Fn_J7_fill_d0a16, s_vret]
def pc_X5_set : Nat → Nat := fun i => [0, 1, 2, 5, 6, 7, 10, 11, 12, 15, 16, 19, 20, 23].getD i 0
def dl_X5_set : List (Nat × Instr × Nat) := [(0, .aload_n 0, 1), (1, .iconst 1, 1), (2, .putfield 15, 3), (5, .aload_n 0, 1), (6, .iload_n 1, 1), (7, .putfield 19, 3), (10, .aload_n 0, 1), (11, .iload_n 2, 1), (12, .putfield 23, 3), (15, .aload_n 0, 1), (16, .getfield 9, 3), (19, .lconst 0, 1), (20, .invokestatic 26, 3), (23, .return_, 1)]
theorem dc_X5_set : DEC prog_7_method_2_code pc_X5_set dl_X5_set := DEC_of (by decide +kernel)
abbrev rm_X5_set : Room := { frames := 1, cells := 0, slots := 0, locals := 24 }
set_option maxRecDepth 20000 in
theorem sa_X5_set (l : Launch) : SNDALL l prog_7_method_2_code "GivenUp$Tray" 3 none rm_X5_set P_X5_set pc_X5_set := fun p e s m args below meth c cells slots Q D dA ad A RR hC hR => by
  have hM := RTX_room (R := rm_X5_set) hR
  exact ⟨st_aload_n hC (n := 0) (k := 0) (dc_X5_set 0 (0, .aload_n 0, 1) rfl rfl) rfl rfl,
    st_iconst hC (n := 1) (x := 1) (dc_X5_set 1 (1, .iconst 1, 1) rfl rfl) rfl (by decide),
    st_putZ hC (n := 2) (k := 5) (j := 1) (dc_X5_set 2 (2, .putfield 15, 3) rfl rfl) rfl clf_5 (by decide) rfl rfl rfl wd_696,
    st_aload_n hC (n := 3) (k := 0) (dc_X5_set 3 (5, .aload_n 0, 1) rfl rfl) rfl rfl,
    st_iload_n hC (n := 4) (k := 1) (dc_X5_set 4 (6, .iload_n 1, 1) rfl rfl) rfl rfl,
    st_putI hC (n := 5) (k := 5) (j := 2) (dc_X5_set 5 (7, .putfield 19, 3) rfl rfl) rfl clf_5 (by decide) rfl rfl rfl wd_698,
    st_aload_n hC (n := 6) (k := 0) (dc_X5_set 6 (10, .aload_n 0, 1) rfl rfl) rfl rfl,
    st_iload_n hC (n := 7) (k := 2) (dc_X5_set 7 (11, .iload_n 2, 1) rfl rfl) rfl rfl,
    st_putI hC (n := 8) (k := 5) (j := 3) (dc_X5_set 8 (12, .putfield 23, 3) rfl rfl) rfl clf_5 (by decide) rfl rfl rfl wd_700,
    st_aload_n hC (n := 9) (k := 0) (dc_X5_set 9 (15, .aload_n 0, 1) rfl rfl) rfl rfl,
    st_getR hC (n := 10) (k := 5) (j := 0) (dc_X5_set 10 (16, .getfield 9, 3) rfl rfl) rfl clf_5 (by decide) rfl (by decide) wd_693,
    st_lconst hC (n := 11) (x := 0) (dc_X5_set 11 (19, .lconst 0, 1) rfl rfl) rfl (by decide),
    st_callS hC (n := 12) (na := 2) (con_J7_fill_d0a16 l) (dc_X5_set 12 (20, .invokestatic 26, 3) rfl rfl) rfl wd_562 wd_158 (by decide) ⟨rfl, rfl, by decide, by decide⟩ hM wd_799 wd_561,
    st_vret hC (n := 13) hR (dc_X5_set 13 (23, .return_, 1) rfl rfl), trivial⟩
set_option maxRecDepth 8000 in
theorem vc_X5_set : VC P_X5_set 3 Pre_X5_set Fn_X5_set := by
  rintro mm as hom hoa ⟨g, s, n, rfl⟩
  refine ⟨Nat.le_of_ble_eq_true rfl, fun X h => ?_⟩
  show X 0 [some (vR 5 g), some (vI s), some (vI n)] [] mm
  refine h (fun _ => false) 3000 0 _ _ _ ?_
  refine And.intro (Or.inr rfl) ?_
  refine And.intro (show Pre_J7_fill_d0a16 (mI (mI (mI mm 5 g 1 1) 5 g 2 s) 5 g 3 n) [vR 28 g, vL 0] from ⟨28, g, Or.inr rfl, 0, rfl⟩) ?_
  show ((none : Option MV), mRowL (mI (mI (mI mm 5 g 1 1) 5 g 2 s) 5 g 3 n) 28 g (flQ (mm.2.1 28 g) 0 (alen 28))) = _
  exact rfl
theorem con_X5_set (l : Launch) : CON l y_X5_set prog_7_method_2_code 3 none rm_X5_set Pre_X5_set Fn_X5_set := CON_of (by decide) rfl rfl (sa_X5_set l) vc_X5_set
def cuL (s : Int32) (v : Int64) : Int64 := if s = 0 then v.toInt32.toInt8.toInt32.toInt64 else if s = 1 then v.toInt32.toInt16.toInt32.toInt64 else if s = 2 then v.toInt32.toInt64 else v
def ptC (m : MM) (g j : Nat) (v : Int64) : MM := mRowL m 28 g (vp_updL (m.2.1 28 g) j (cuL (m.1 5 g 2) v))

--tpl ⟨_, _, _, by omega, rfl⟩ ||  || ptC {m} {g0} {1n} {2}
--tpl X11_isOut: ⟨_, _, rfl⟩ || bI ({0} < 0 ∨ {1} ≤ {0})
def Pre_X5_put : PreT := fun _ as => ∃ (g j : Nat) (v : Int64), j < 60 ∧ as = [vR 5 g, vI (nI j), vL v]
def Fn_X5_put : FnT := fun m as => match as with
  | [Sum.inr (Sum.inr q), Sum.inl j, Sum.inr (Sum.inl v)] => (none, ptC m q.2 j.toNatClampNeg v)
  | _ => (none, m)
abbrev y_X5_put : MethodName := ⟨"GivenUp$Tray", "put", "(IJ)V"⟩
def P_X5_put : List StpT := [s_iload 1, s_ic (60), s_callS 2 Pre_X11_isOut Fn_X11_isOut, s_ifeq 5, s_vret, s_aload 0, s_getI 5 2, s_sw (tsw (0) [8, 17, 26]) 34, s_aload 0, s_getR 5 0 28, s_iload 1, s_lload 2, s_l2i, s_i2b, s_i2l, s_last, s_goto 39, s_aload 0, s_getR 5 0 28, s_iload 1, s_lload 2, s_l2i, s_i2s, s_i2l, s_last, s_goto 39, s_aload 0, s_getR 5 0 28, s_iload 1, s_lload 2, s_l2i, s_i2l, s_last, s_goto 39, s_aload 0, s_getR 5 0 28, s_iload 1, s_lload 2, s_last, s_vret]
def pc_X5_put : Nat → Nat := fun i => [0, 1, 3, 6, 9, 10, 11, 14, 40, 41, 44, 45, 46, 47, 48, 49, 50, 53, 54, 57, 58, 59, 60, 61, 62, 63, 66, 67, 70, 71, 72, 73, 74, 75, 78, 79, 82, 83, 84, 85].getD i 0
def dl_X5_put : List (Nat × Instr × Nat) := [(0, .iload_n 1, 1), (1, .bipush 60, 2), (3, .invokestatic 32, 3), (6, .ifCond .eq 4, 3), (9, .return_, 1), (10, .aload_n 0, 1), (11, .getfield 19, 3), (14, .tableswitch 64 0 2 #[26, 39, 52], 26), (40, .aload_n 0, 1), (41, .getfield 9, 3), (44, .iload_n 1, 1), (45, .lload_n 2, 1), (46, .l2i, 1), (47, .i2b, 1), (48, .i2l, 1), (49, .lastore, 1), (50, .goto 35, 3), (53, .aload_n 0, 1), (54, .getfield 9, 3), (57, .iload_n 1, 1), (58, .lload_n 2, 1), (59, .l2i, 1), (60, .i2s, 1), (61, .i2l, 1), (62, .lastore, 1), (63, .goto 22, 3), (66, .aload_n 0, 1), (67, .getfield 9, 3), (70, .iload_n 1, 1), (71, .lload_n 2, 1), (72, .l2i, 1), (73, .i2l, 1), (74, .lastore, 1), (75, .goto 10, 3), (78, .aload_n 0, 1), (79, .getfield 9, 3), (82, .iload_n 1, 1), (83, .lload_n 2, 1), (84, .lastore, 1), (85, .return_, 1)]
theorem dc_X5_put : DEC prog_7_method_3_code pc_X5_put dl_X5_put := DEC_of (by decide +kernel)
abbrev rm_X5_put : Room := { frames := 1, cells := 0, slots := 0, locals := 21 }
set_option maxRecDepth 20000 in
theorem sa_X5_put (l : Launch) : SNDALL l prog_7_method_3_code "GivenUp$Tray" 4 none rm_X5_put P_X5_put pc_X5_put := fun p e s m args below meth c cells slots Q D dA ad A RR hC hR => by
  have hM := RTX_room (R := rm_X5_put) hR
  exact ⟨st_iload_n hC (n := 0) (k := 1) (dc_X5_put 0 (0, .iload_n 1, 1) rfl rfl) rfl rfl,
    st_bipush hC (n := 1) (x := 60) (dc_X5_put 1 (1, .bipush 60, 2) rfl rfl) rfl (by decide),
    st_callSN hC (n := 2) (na := 2) (con_X11_isOut l) (dc_X5_put 2 (3, .invokestatic 32, 3) rfl rfl) rfl wd_790 wd_143 (by decide) ⟨rfl, rfl, by decide, by decide⟩ hM ⟨"GivenUp", by decide⟩ wd_789,
    st_ifeq hC (n := 3) (dc_X5_put 3 (6, .ifCond .eq 4, 3) rfl rfl) rfl (by decide),
    st_vret hC (n := 4) hR (dc_X5_put 4 (9, .return_, 1) rfl rfl),
    st_aload_n hC (n := 5) (k := 0) (dc_X5_put 5 (10, .aload_n 0, 1) rfl rfl) rfl rfl,
    st_getI hC (n := 6) (k := 5) (j := 2) (dc_X5_put 6 (11, .getfield 19, 3) rfl rfl) rfl clf_5 (by decide) rfl wd_698,
    st_table hC (n := 7) (ts := [8, 17, 26]) (dc_X5_put 7 (14, .tableswitch 64 0 2 #[26, 39, 52], 26) rfl rfl) (by decide) (by decide) (by decide) (by decide) (swt_of _ _ _ (by decide +kernel)),
    st_aload_n hC (n := 8) (k := 0) (dc_X5_put 8 (40, .aload_n 0, 1) rfl rfl) rfl rfl,
    st_getR hC (n := 9) (k := 5) (j := 0) (dc_X5_put 9 (41, .getfield 9, 3) rfl rfl) rfl clf_5 (by decide) rfl (by decide) wd_693,
    st_iload_n hC (n := 10) (k := 1) (dc_X5_put 10 (44, .iload_n 1, 1) rfl rfl) rfl rfl,
    st_lload_n hC (n := 11) (k := 2) (dc_X5_put 11 (45, .lload_n 2, 1) rfl rfl) rfl rfl,
    st_l2i hC (n := 12) (dc_X5_put 12 (46, .l2i, 1) rfl rfl) rfl,
    st_i2b hC (n := 13) (dc_X5_put 13 (47, .i2b, 1) rfl rfl) rfl,
    st_i2l hC (n := 14) (dc_X5_put 14 (48, .i2l, 1) rfl rfl) rfl,
    st_last hC (n := 15) (dc_X5_put 15 (49, .lastore, 1) rfl rfl) rfl,
    st_goto hC (n := 16) (dc_X5_put 16 (50, .goto 35, 3) rfl rfl) (by decide),
    st_aload_n hC (n := 17) (k := 0) (dc_X5_put 17 (53, .aload_n 0, 1) rfl rfl) rfl rfl,
    st_getR hC (n := 18) (k := 5) (j := 0) (dc_X5_put 18 (54, .getfield 9, 3) rfl rfl) rfl clf_5 (by decide) rfl (by decide) wd_693,
    st_iload_n hC (n := 19) (k := 1) (dc_X5_put 19 (57, .iload_n 1, 1) rfl rfl) rfl rfl,
    st_lload_n hC (n := 20) (k := 2) (dc_X5_put 20 (58, .lload_n 2, 1) rfl rfl) rfl rfl,
    st_l2i hC (n := 21) (dc_X5_put 21 (59, .l2i, 1) rfl rfl) rfl,
    st_i2s hC (n := 22) (dc_X5_put 22 (60, .i2s, 1) rfl rfl) rfl,
    st_i2l hC (n := 23) (dc_X5_put 23 (61, .i2l, 1) rfl rfl) rfl,
    st_last hC (n := 24) (dc_X5_put 24 (62, .lastore, 1) rfl rfl) rfl,
    st_goto hC (n := 25) (dc_X5_put 25 (63, .goto 22, 3) rfl rfl) (by decide),
    st_aload_n hC (n := 26) (k := 0) (dc_X5_put 26 (66, .aload_n 0, 1) rfl rfl) rfl rfl,
    st_getR hC (n := 27) (k := 5) (j := 0) (dc_X5_put 27 (67, .getfield 9, 3) rfl rfl) rfl clf_5 (by decide) rfl (by decide) wd_693,
    st_iload_n hC (n := 28) (k := 1) (dc_X5_put 28 (70, .iload_n 1, 1) rfl rfl) rfl rfl,
    st_lload_n hC (n := 29) (k := 2) (dc_X5_put 29 (71, .lload_n 2, 1) rfl rfl) rfl rfl,
    st_l2i hC (n := 30) (dc_X5_put 30 (72, .l2i, 1) rfl rfl) rfl,
    st_i2l hC (n := 31) (dc_X5_put 31 (73, .i2l, 1) rfl rfl) rfl,
    st_last hC (n := 32) (dc_X5_put 32 (74, .lastore, 1) rfl rfl) rfl,
    st_goto hC (n := 33) (dc_X5_put 33 (75, .goto 10, 3) rfl rfl) (by decide),
    st_aload_n hC (n := 34) (k := 0) (dc_X5_put 34 (78, .aload_n 0, 1) rfl rfl) rfl rfl,
    st_getR hC (n := 35) (k := 5) (j := 0) (dc_X5_put 35 (79, .getfield 9, 3) rfl rfl) rfl clf_5 (by decide) rfl (by decide) wd_693,
    st_iload_n hC (n := 36) (k := 1) (dc_X5_put 36 (82, .iload_n 1, 1) rfl rfl) rfl rfl,
    st_lload_n hC (n := 37) (k := 2) (dc_X5_put 37 (83, .lload_n 2, 1) rfl rfl) rfl rfl,
    st_last hC (n := 38) (dc_X5_put 38 (84, .lastore, 1) rfl rfl) rfl,
    st_vret hC (n := 39) hR (dc_X5_put 39 (85, .return_, 1) rfl rfl), trivial⟩
set_option maxRecDepth 8000 in
theorem vc_X5_put : VC P_X5_put 4 Pre_X5_put Fn_X5_put := by
  rintro mm as hom hoa ⟨g, j, v, hj, rfl⟩
  refine ⟨Nat.le_of_ble_eq_true rfl, fun X h => ?_⟩
  have ej : (nI j).toNatClampNeg = j := nI_clamp (by omega)
  have hF : Fn_X5_put mm [vR 5 g, vI (nI j), vL v] = (none, mRowL mm 28 g (vp_updL (mm.2.1 28 g) j (cuL (mm.1 5 g 2) v))) := by
    show (none, ptC mm g (nI j).toNatClampNeg v) = _
    rw [ej]
    rfl
  rw [hF] at h
  have j0 : ¬ (nI j < 0 ∨ (60 : Int32) ≤ nI j) := fun z => z.elim (fun y => by rw [show (0 : Int32) = nI 0 from rfl, nI_ltI (by omega) (by omega)] at y; omega) (fun y => by rw [show (60 : Int32) = nI 60 from rfl, nI_leI (by omega) (by omega)] at y; omega)
  show X 0 [some (vR 5 g), some (vI (nI j)), some (vL v), none] [] mm
  refine h (fun _ => false) 3000 0 _ _ _ ?_
  refine And.intro (show Pre_X11_isOut mm [vI (nI j), vI 60] from ⟨_, _, rfl⟩) ?_
  refine br_c (fun b3 => ?_) (fun b3 => ?_)
  · -- 3: bI ((nI j) < 0 ∨ 60 ≤ (nI j)) = 0 taken
    replace b3 : ¬ ((nI j) < 0 ∨ 60 ≤ (nI j)) := bI_0.mp b3
    (try simp only [ej] at b3)
    refine And.intro ⟨fun b7 => ?_, fun b7 => ?_, fun b7 => ?_, trivial⟩ ?_
    · replace b7 : mm.1 5 g 2 = 0 := b7
      (try simp only [ej] at b7)
      refine And.intro (show inb (nI j) (alen 28) = true from (inb_o 60 rfl rfl rfl (by omega))) ?_
      show ((none : Option MV), mRowL mm 28 g (vp_updL (mm.2.1 28 g) (nI j).toNatClampNeg v.toInt32.toInt8.toInt32.toInt64)) = _
      (try simp only [ej])
      unfold cuL
      rw [b7] 
      rfl
    · replace b7 : mm.1 5 g 2 = 1 := b7
      (try simp only [ej] at b7)
      refine And.intro (show inb (nI j) (alen 28) = true from (inb_o 60 rfl rfl rfl (by omega))) ?_
      show ((none : Option MV), mRowL mm 28 g (vp_updL (mm.2.1 28 g) (nI j).toNatClampNeg v.toInt32.toInt16.toInt32.toInt64)) = _
      (try simp only [ej])
      unfold cuL
      rw [b7] 
      rfl
    · replace b7 : mm.1 5 g 2 = 2 := b7
      (try simp only [ej] at b7)
      refine And.intro (show inb (nI j) (alen 28) = true from (inb_o 60 rfl rfl rfl (by omega))) ?_
      show ((none : Option MV), mRowL mm 28 g (vp_updL (mm.2.1 28 g) (nI j).toNatClampNeg v.toInt32.toInt64)) = _
      (try simp only [ej])
      unfold cuL
      rw [b7] 
      rfl
    · intro b7
      have n7_0 : ¬ mm.1 5 g 2 = 0 := b7 (0, 8) (by decide)
      have n7_1 : ¬ mm.1 5 g 2 = 1 := b7 (1, 17) (by decide)
      have n7_2 : ¬ mm.1 5 g 2 = 2 := b7 (2, 26) (by decide)
      (try simp only [ej] at n7_0)
      (try simp only [ej] at n7_1)
      (try simp only [ej] at n7_2)
      refine And.intro (show inb (nI j) (alen 28) = true from (inb_o 60 rfl rfl rfl (by omega))) ?_
      show ((none : Option MV), mRowL mm 28 g (vp_updL (mm.2.1 28 g) (nI j).toNatClampNeg v)) = _
      (try simp only [ej])
      unfold cuL
      rw [if_neg n7_0, if_neg n7_1, if_neg n7_2]
  · -- 3: bI ((nI j) < 0 ∨ 60 ≤ (nI j)) = 0 on
    replace b3 : (nI j) < 0 ∨ 60 ≤ (nI j) := bI_n0.mp b3
    (try simp only [ej] at b3)
    show ((none : Option MV), mm) = _
    (try simp only [ej])
    exact absurd b3 j0
theorem con_X5_put (l : Launch) : CON l y_X5_put prog_7_method_3_code 4 none rm_X5_put Pre_X5_put Fn_X5_put := CON_of (by decide) rfl rfl (sa_X5_put l) vc_X5_put
def pBi (p : Int32 × MM) (q : Int32 → MM → PR) : PR := if p.1 < 0 then (false, p.2) else q p.1 p.2
theorem pBi_t {p : Int32 × MM} {q : Int32 → MM → PR} (h : ¬ p.1 < 0) : pBi p q = q p.1 p.2 := if_neg h
theorem pBi_f {p : Int32 × MM} {q : Int32 → MM → PR} (h : p.1 < 0) : pBi p q = (false, p.2) := if_pos h
def pBl (p : Int64 × MM) (q : Int64 → MM → PR) : PR := if p.1 = 0 then (false, p.2) else q p.1 p.2
theorem pBl_t {p : Int64 × MM} {q : Int64 → MM → PR} (h : ¬ p.1 = 0) : pBl p q = q p.1 p.2 := if_neg h
theorem pBl_f {p : Int64 × MM} {q : Int64 → MM → PR} (h : p.1 = 0) : pBl p q = (false, p.2) := if_pos h
/-- text and counts while the class reads a valley -/
def CJ (m : MM) (g ns nm nt na : Nat) : Prop := TXp m ∧ (m.1 6 g 13 = nI ns ∧ ns ≤ 4) ∧ (m.1 6 g 14 = nI nm ∧ nm ≤ 4) ∧ (m.1 6 g 15 = nI nt ∧ nt ≤ 12) ∧ (m.1 6 g 16 = nI na ∧ na ≤ 12)
theorem CJ_s {m m' : MM} {g ns nm nt na : Nat} (h : CJ m g ns nm nt na) (hs : SMo m m') (hT : TXp m') : CJ m' g ns nm nt na := by
  have e : m'.1 6 g = m.1 6 g := hs.1 6 g (by decide)
  unfold CJ
  rw [e]
  exact ⟨hT, h.2⟩
theorem CJ_sp {m : MM} {g ns nm nt na : Nat} (h : CJ m g ns nm nt na) : CJ (spM m) g ns nm nt na := CJ_s h (SMo_sp m) (TXp_sp h.1)
theorem CJ_sk {m : MM} {g ns nm nt na : Nat} {k : Int32} (h : CJ m g ns nm nt na) : CJ (skC m k).2 g ns nm nt na := CJ_s h (SMo_sk m k) (TXp_sk h.1)
theorem CJ_am {m : MM} {g ns nm nt na : Nat} {lo hi : Int32} (h : CJ m g ns nm nt na) : CJ (amC m lo hi).2 g ns nm nt na := CJ_s h (SMo_am m lo hi) (TXp_am h.1)
theorem CJ_op {m : MM} {g ns nm nt na : Nat} {k w hi : Int32} (h : CJ m g ns nm nt na) : CJ (opC m k w hi).2 g ns nm nt na := CJ_s h (SMo_op m k w hi) (TXp_op h.1)
theorem CJ_me {m : MM} {g ns nm nt na f n : Nat} (h : CJ m g ns nm nt na) : CJ (meC m g f n).2 g ns nm nt na := CJ_s h (SMo_me m g f n) (TXp_me h.1)
theorem CJ_fd {m : MM} {g ns nm nt na f n : Nat} (h : CJ m g ns nm nt na) : CJ (fdC m g f n).2 g ns nm nt na := CJ_s h (SMo_fd m g f n) (TXp_fd h.1)
theorem CJ_nw {m : MM} {g ns nm nt na : Nat} (h : CJ m g ns nm nt na) : CJ (nwC m g).2 g ns nm nt na := CJ_s h (SMo_nw m g) (TXp_nw h.1)
theorem CJ_fa {m : MM} {g ns nm nt na : Nat} {k : Int32} (h : CJ m g ns nm nt na) : CJ (faC m k) g ns nm nt na := CJ_s h (SMo_fa m k) (TXp_fa h.1)
theorem CJ_mi {m : MM} {g ns nm nt na : Nat} (h : CJ m g ns nm nt na) : CJ (miC m) g ns nm nt na := CJ_s h (SMo_mi m) (TXp_mi h.1)
def c7sM (m : MM) (g : Nat) (nm : Int64) (ag co : Int32) : MM := mI (mRow (mRow (mRowL m 29 g (vp_updL (m.2.1 29 g) (m.1 6 g 13).toNatClampNeg nm)) 30 g (upd (m.1 30 g) (m.1 6 g 13).toNatClampNeg ag)) 16 g (upd (m.1 16 g) (m.1 6 g 13).toNatClampNeg co)) 6 g 13 (m.1 6 g 13 + 1)
def c7sE (g : Nat) (nm : Int64) (ag co : Int32) (m : MM) : PR := (true, c7sM m g nm ag co)
def c7sD (g : Nat) (nm : Int64) (ag co : Int32) (m : MM) : PR := pBd (skC m 33) (c7sE g nm ag co)
def c7sB (g : Nat) (nm : Int64) (ag : Int32) (m : MM) : PR := pBi (opC m 2 0 99) (c7sD g nm ag)
def c7sA (g : Nat) (nm : Int64) (m : MM) : PR := pBi (opC m 1 20 99) (c7sB g nm)
def c7sC (g : Nat) (m : MM) : PR := if m.1 6 g 13 < 4 then pBl (nwC (spM m) g) (c7sA g) else (false, faC m 6)

--tpl ⟨_, _, _, _, _, by assumption, rfl⟩ || bI ((c7sC {g1} {m}).1 = true) || (c7sC {g1} {m}).2
def Pre_X7_readSuitor : PreT := fun m as => ∃ g ns nm nt na : Nat, CJ m g ns nm nt na ∧ as = [vR 7 0, vR 6 g]
def Fn_X7_readSuitor : FnT := fun m as => match as with
  | [_, Sum.inr (Sum.inr q)] => (some (vI (bI ((c7sC q.2 m).1 = true))), (c7sC q.2 m).2)
  | _ => (none, m)
abbrev y_X7_readSuitor : MethodName := ⟨"GivenUp$ValleyReader", "readSuitor", "(LGivenUp$Valley;)Z"⟩
def P_X7_readSuitor : List StpT := [s_aload 1, s_getI 6 13, s_ic (4), s_iclt 9, s_aload 0, s_getC 7 0 4 0, s_ic (6), s_callV 4 1 Pre_X4_fail Fn_X4_fail, s_zret, s_aload 0, s_getC 7 0 4 0, s_callV 4 0 Pre_X4_step Fn_X4_step, s_aload 0, s_getC 7 0 4 0, s_aload 1, s_getR 6 0 29, s_callV 4 1 Pre_X4_newName Fn_X4_newName, s_lstore 2, s_lload 2, s_lc 0, s_lcmp, s_ifne 24, s_ic (0), s_zret, s_aload 0, s_getC 7 0 4 0, s_ic (1), s_ic (20), s_ic (99), s_callV 4 3 Pre_X4_option Fn_X4_option, s_istore 4, s_iload 4, s_ifge 35, s_ic (0), s_zret, s_aload 0, s_getC 7 0 4 0, s_ic (2), s_ic (0), s_ic (99), s_callV 4 3 Pre_X4_option Fn_X4_option, s_istore 5, s_iload 5, s_iflt 49, s_aload 0, s_getC 7 0 4 0, s_ic (33), s_callV 4 1 Pre_X4_skip Fn_X4_skip, s_ifne 51, s_ic (0), s_zret, s_aload 1, s_getR 6 0 29, s_aload 1, s_getI 6 13, s_lload 2, s_last, s_aload 1, s_getR 6 1 30, s_aload 1, s_getI 6 13, s_iload 4, s_iast, s_aload 1, s_getR 6 11 1, s_getR 1 0 16, s_aload 1, s_getI 6 13, s_iload 5, s_iast, s_aload 1, s_dup, s_getI 6 13, s_ic (1), s_iadd, s_putI 6 13, s_ic (1), s_zret]
def pc_X7_readSuitor : Nat → Nat := fun i => [0, 1, 4, 5, 8, 9, 12, 14, 17, 18, 19, 22, 25, 26, 29, 30, 33, 36, 37, 38, 39, 40, 43, 44, 45, 46, 49, 50, 52, 54, 57, 59, 61, 64, 65, 66, 67, 70, 71, 72, 74, 77, 79, 81, 84, 85, 88, 90, 93, 96, 97, 98, 99, 102, 103, 106, 107, 108, 109, 112, 113, 116, 118, 119, 120, 123, 126, 127, 130, 132, 133, 134, 135, 138, 139, 140, 143, 144].getD i 0
def dl_X7_readSuitor : List (Nat × Instr × Nat) := [(0, .aload_n 1, 1), (1, .getfield 69, 3), (4, .iconst 4, 1), (5, .if_icmp .lt 13, 3), (8, .aload_n 0, 1), (9, .getfield 18, 3), (12, .bipush 6, 2), (14, .invokevirtual 72, 3), (17, .ireturn, 1), (18, .aload_n 0, 1), (19, .getfield 18, 3), (22, .invokevirtual 76, 3), (25, .aload_n 0, 1), (26, .getfield 18, 3), (29, .aload_n 1, 1), (30, .getfield 79, 3), (33, .invokevirtual 83, 3), (36, .lstore_n 2, 1), (37, .lload_n 2, 1), (38, .lconst 0, 1), (39, .lcmp, 1), (40, .ifCond .ne 5, 3), (43, .iconst 0, 1), (44, .ireturn, 1), (45, .aload_n 0, 1), (46, .getfield 18, 3), (49, .iconst 1, 1), (50, .bipush 20, 2), (52, .bipush 99, 2), (54, .invokevirtual 87, 3), (57, .istore 4, 2), (59, .iload 4, 2), (61, .ifCond .ge 5, 3), (64, .iconst 0, 1), (65, .ireturn, 1), (66, .aload_n 0, 1), (67, .getfield 18, 3), (70, .iconst 2, 1), (71, .iconst 0, 1), (72, .bipush 99, 2), (74, .invokevirtual 87, 3), (77, .istore 5, 2), (79, .iload 5, 2), (81, .ifCond .lt 15, 3), (84, .aload_n 0, 1), (85, .getfield 18, 3), (88, .bipush 33, 2), (90, .invokevirtual 91, 3), (93, .ifCond .ne 5, 3), (96, .iconst 0, 1), (97, .ireturn, 1), (98, .aload_n 1, 1), (99, .getfield 79, 3), (102, .aload_n 1, 1), (103, .getfield 69, 3), (106, .lload_n 2, 1), (107, .lastore, 1), (108, .aload_n 1, 1), (109, .getfield 94, 3), (112, .aload_n 1, 1), (113, .getfield 69, 3), (116, .iload 4, 2), (118, .iastore, 1), (119, .aload_n 1, 1), (120, .getfield 98, 3), (123, .getfield 102, 3), (126, .aload_n 1, 1), (127, .getfield 69, 3), (130, .iload 5, 2), (132, .iastore, 1), (133, .aload_n 1, 1), (134, .dup, 1), (135, .getfield 69, 3), (138, .iconst 1, 1), (139, .iadd, 1), (140, .putfield 69, 3), (143, .iconst 1, 1), (144, .ireturn, 1)]
theorem dc_X7_readSuitor : DEC prog_9_method_3_code pc_X7_readSuitor dl_X7_readSuitor := DEC_of (by decide +kernel)
abbrev rm_X7_readSuitor : Room := { frames := 4, cells := 0, slots := 0, locals := 87 }
set_option maxRecDepth 20000 in
theorem sa_X7_readSuitor (l : Launch) : SNDALL l prog_9_method_3_code "GivenUp$ValleyReader" 6 (some .boolean) rm_X7_readSuitor P_X7_readSuitor pc_X7_readSuitor := fun p e s m args below meth c cells slots Q D dA ad A RR hC hR => by
  have hM := RTX_room (R := rm_X7_readSuitor) hR
  exact ⟨st_aload_n hC (n := 0) (k := 1) (dc_X7_readSuitor 0 (0, .aload_n 1, 1) rfl rfl) rfl rfl,
    st_getI hC (n := 1) (k := 6) (j := 13) (dc_X7_readSuitor 1 (1, .getfield 69, 3) rfl rfl) rfl clf_6 (by decide) rfl wd_620,
    st_iconst hC (n := 2) (x := 4) (dc_X7_readSuitor 2 (4, .iconst 4, 1) rfl rfl) rfl (by decide),
    st_iclt hC (n := 3) (dc_X7_readSuitor 3 (5, .if_icmp .lt 13, 3) rfl rfl) rfl (by decide),
    st_aload_n hC (n := 4) (k := 0) (dc_X7_readSuitor 4 (8, .aload_n 0, 1) rfl rfl) rfl rfl,
    st_getC hC (n := 5) (k := 7) (j := 0) (dc_X7_readSuitor 5 (9, .getfield 18, 3) rfl rfl) rfl clf_7 (by decide) rfl (by decide) wd_277,
    st_bipush hC (n := 6) (x := 6) (dc_X7_readSuitor 6 (12, .bipush 6, 2) rfl rfl) rfl (by decide),
    st_callV hC (n := 7) (k := 4) (na := 1) (con_X4_fail l) (dc_X7_readSuitor 7 (14, .invokevirtual 72, 3) rfl rfl) rfl wd_878 wd_144 (by decide) ⟨rfl, rfl, by decide, by decide⟩ hM wd_875 wd_876 wd_877 clf_4,
    st_zret hC (n := 8) hR (dc_X7_readSuitor 8 (17, .ireturn, 1) rfl rfl),
    st_aload_n hC (n := 9) (k := 0) (dc_X7_readSuitor 9 (18, .aload_n 0, 1) rfl rfl) rfl rfl,
    st_getC hC (n := 10) (k := 7) (j := 0) (dc_X7_readSuitor 10 (19, .getfield 18, 3) rfl rfl) rfl clf_7 (by decide) rfl (by decide) wd_277,
    st_callV hC (n := 11) (k := 4) (na := 0) (con_X4_step l) (dc_X7_readSuitor 11 (22, .invokevirtual 76, 3) rfl rfl) rfl wd_859 wd_144 (by decide) ⟨rfl, rfl, by decide, by decide⟩ hM wd_879 wd_857 wd_858 clf_4,
    st_aload_n hC (n := 12) (k := 0) (dc_X7_readSuitor 12 (25, .aload_n 0, 1) rfl rfl) rfl rfl,
    st_getC hC (n := 13) (k := 7) (j := 0) (dc_X7_readSuitor 13 (26, .getfield 18, 3) rfl rfl) rfl clf_7 (by decide) rfl (by decide) wd_277,
    st_aload_n hC (n := 14) (k := 1) (dc_X7_readSuitor 14 (29, .aload_n 1, 1) rfl rfl) rfl rfl,
    st_getR hC (n := 15) (k := 6) (j := 0) (dc_X7_readSuitor 15 (30, .getfield 79, 3) rfl rfl) rfl clf_6 (by decide) rfl (by decide) wd_576,
    st_callV hC (n := 16) (k := 4) (na := 1) (con_X4_newName l) (dc_X7_readSuitor 16 (33, .invokevirtual 83, 3) rfl rfl) rfl wd_883 wd_144 (by decide) ⟨rfl, rfl, by decide, by decide⟩ hM wd_880 wd_881 wd_882 clf_4,
    st_lstore_n hC (n := 17) (k := 2) (dc_X7_readSuitor 17 (36, .lstore_n 2, 1) rfl rfl) rfl rfl (by decide),
    st_lload_n hC (n := 18) (k := 2) (dc_X7_readSuitor 18 (37, .lload_n 2, 1) rfl rfl) rfl rfl,
    st_lconst hC (n := 19) (x := 0) (dc_X7_readSuitor 19 (38, .lconst 0, 1) rfl rfl) rfl (by decide),
    st_lcmp hC (n := 20) (dc_X7_readSuitor 20 (39, .lcmp, 1) rfl rfl) rfl,
    st_ifne hC (n := 21) (dc_X7_readSuitor 21 (40, .ifCond .ne 5, 3) rfl rfl) rfl (by decide),
    st_iconst hC (n := 22) (x := 0) (dc_X7_readSuitor 22 (43, .iconst 0, 1) rfl rfl) rfl (by decide),
    st_zret hC (n := 23) hR (dc_X7_readSuitor 23 (44, .ireturn, 1) rfl rfl),
    st_aload_n hC (n := 24) (k := 0) (dc_X7_readSuitor 24 (45, .aload_n 0, 1) rfl rfl) rfl rfl,
    st_getC hC (n := 25) (k := 7) (j := 0) (dc_X7_readSuitor 25 (46, .getfield 18, 3) rfl rfl) rfl clf_7 (by decide) rfl (by decide) wd_277,
    st_iconst hC (n := 26) (x := 1) (dc_X7_readSuitor 26 (49, .iconst 1, 1) rfl rfl) rfl (by decide),
    st_bipush hC (n := 27) (x := 20) (dc_X7_readSuitor 27 (50, .bipush 20, 2) rfl rfl) rfl (by decide),
    st_bipush hC (n := 28) (x := 99) (dc_X7_readSuitor 28 (52, .bipush 99, 2) rfl rfl) rfl (by decide),
    st_callV hC (n := 29) (k := 4) (na := 3) (con_X4_option l) (dc_X7_readSuitor 29 (54, .invokevirtual 87, 3) rfl rfl) rfl wd_892 wd_144 (by decide) ⟨rfl, rfl, by decide, by decide⟩ hM wd_889 wd_890 wd_891 clf_4,
    st_istore hC (n := 30) (dc_X7_readSuitor 30 (57, .istore 4, 2) rfl rfl) rfl (by decide),
    st_iload hC (n := 31) (dc_X7_readSuitor 31 (59, .iload 4, 2) rfl rfl) rfl,
    st_ifge hC (n := 32) (dc_X7_readSuitor 32 (61, .ifCond .ge 5, 3) rfl rfl) rfl (by decide),
    st_iconst hC (n := 33) (x := 0) (dc_X7_readSuitor 33 (64, .iconst 0, 1) rfl rfl) rfl (by decide),
    st_zret hC (n := 34) hR (dc_X7_readSuitor 34 (65, .ireturn, 1) rfl rfl),
    st_aload_n hC (n := 35) (k := 0) (dc_X7_readSuitor 35 (66, .aload_n 0, 1) rfl rfl) rfl rfl,
    st_getC hC (n := 36) (k := 7) (j := 0) (dc_X7_readSuitor 36 (67, .getfield 18, 3) rfl rfl) rfl clf_7 (by decide) rfl (by decide) wd_277,
    st_iconst hC (n := 37) (x := 2) (dc_X7_readSuitor 37 (70, .iconst 2, 1) rfl rfl) rfl (by decide),
    st_iconst hC (n := 38) (x := 0) (dc_X7_readSuitor 38 (71, .iconst 0, 1) rfl rfl) rfl (by decide),
    st_bipush hC (n := 39) (x := 99) (dc_X7_readSuitor 39 (72, .bipush 99, 2) rfl rfl) rfl (by decide),
    st_callV hC (n := 40) (k := 4) (na := 3) (con_X4_option l) (dc_X7_readSuitor 40 (74, .invokevirtual 87, 3) rfl rfl) rfl wd_892 wd_144 (by decide) ⟨rfl, rfl, by decide, by decide⟩ hM wd_889 wd_890 wd_891 clf_4,
    st_istore hC (n := 41) (dc_X7_readSuitor 41 (77, .istore 5, 2) rfl rfl) rfl (by decide),
    st_iload hC (n := 42) (dc_X7_readSuitor 42 (79, .iload 5, 2) rfl rfl) rfl,
    st_iflt hC (n := 43) (dc_X7_readSuitor 43 (81, .ifCond .lt 15, 3) rfl rfl) rfl (by decide),
    st_aload_n hC (n := 44) (k := 0) (dc_X7_readSuitor 44 (84, .aload_n 0, 1) rfl rfl) rfl rfl,
    st_getC hC (n := 45) (k := 7) (j := 0) (dc_X7_readSuitor 45 (85, .getfield 18, 3) rfl rfl) rfl clf_7 (by decide) rfl (by decide) wd_277,
    st_bipush hC (n := 46) (x := 33) (dc_X7_readSuitor 46 (88, .bipush 33, 2) rfl rfl) rfl (by decide),
    st_callV hC (n := 47) (k := 4) (na := 1) (con_X4_skip l) (dc_X7_readSuitor 47 (90, .invokevirtual 91, 3) rfl rfl) rfl wd_900 wd_144 (by decide) ⟨rfl, rfl, by decide, by decide⟩ hM wd_897 wd_898 wd_899 clf_4,
    st_ifne hC (n := 48) (dc_X7_readSuitor 48 (93, .ifCond .ne 5, 3) rfl rfl) rfl (by decide),
    st_iconst hC (n := 49) (x := 0) (dc_X7_readSuitor 49 (96, .iconst 0, 1) rfl rfl) rfl (by decide),
    st_zret hC (n := 50) hR (dc_X7_readSuitor 50 (97, .ireturn, 1) rfl rfl),
    st_aload_n hC (n := 51) (k := 1) (dc_X7_readSuitor 51 (98, .aload_n 1, 1) rfl rfl) rfl rfl,
    st_getR hC (n := 52) (k := 6) (j := 0) (dc_X7_readSuitor 52 (99, .getfield 79, 3) rfl rfl) rfl clf_6 (by decide) rfl (by decide) wd_576,
    st_aload_n hC (n := 53) (k := 1) (dc_X7_readSuitor 53 (102, .aload_n 1, 1) rfl rfl) rfl rfl,
    st_getI hC (n := 54) (k := 6) (j := 13) (dc_X7_readSuitor 54 (103, .getfield 69, 3) rfl rfl) rfl clf_6 (by decide) rfl wd_620,
    st_lload_n hC (n := 55) (k := 2) (dc_X7_readSuitor 55 (106, .lload_n 2, 1) rfl rfl) rfl rfl,
    st_last hC (n := 56) (dc_X7_readSuitor 56 (107, .lastore, 1) rfl rfl) rfl,
    st_aload_n hC (n := 57) (k := 1) (dc_X7_readSuitor 57 (108, .aload_n 1, 1) rfl rfl) rfl rfl,
    st_getR hC (n := 58) (k := 6) (j := 1) (dc_X7_readSuitor 58 (109, .getfield 94, 3) rfl rfl) rfl clf_6 (by decide) rfl (by decide) wd_579,
    st_aload_n hC (n := 59) (k := 1) (dc_X7_readSuitor 59 (112, .aload_n 1, 1) rfl rfl) rfl rfl,
    st_getI hC (n := 60) (k := 6) (j := 13) (dc_X7_readSuitor 60 (113, .getfield 69, 3) rfl rfl) rfl clf_6 (by decide) rfl wd_620,
    st_iload hC (n := 61) (dc_X7_readSuitor 61 (116, .iload 4, 2) rfl rfl) rfl,
    st_iast hC (n := 62) (dc_X7_readSuitor 62 (118, .iastore, 1) rfl rfl) rfl,
    st_aload_n hC (n := 63) (k := 1) (dc_X7_readSuitor 63 (119, .aload_n 1, 1) rfl rfl) rfl rfl,
    st_getR hC (n := 64) (k := 6) (j := 11) (dc_X7_readSuitor 64 (120, .getfield 98, 3) rfl rfl) rfl clf_6 (by decide) rfl (by decide) wd_612,
    st_getR hC (n := 65) (k := 1) (j := 0) (dc_X7_readSuitor 65 (123, .getfield 102, 3) rfl rfl) rfl clf_1 (by decide) rfl (by decide) wd_464,
    st_aload_n hC (n := 66) (k := 1) (dc_X7_readSuitor 66 (126, .aload_n 1, 1) rfl rfl) rfl rfl,
    st_getI hC (n := 67) (k := 6) (j := 13) (dc_X7_readSuitor 67 (127, .getfield 69, 3) rfl rfl) rfl clf_6 (by decide) rfl wd_620,
    st_iload hC (n := 68) (dc_X7_readSuitor 68 (130, .iload 5, 2) rfl rfl) rfl,
    st_iast hC (n := 69) (dc_X7_readSuitor 69 (132, .iastore, 1) rfl rfl) rfl,
    st_aload_n hC (n := 70) (k := 1) (dc_X7_readSuitor 70 (133, .aload_n 1, 1) rfl rfl) rfl rfl,
    st_dup hC (n := 71) (dc_X7_readSuitor 71 (134, .dup, 1) rfl rfl) rfl,
    st_getI hC (n := 72) (k := 6) (j := 13) (dc_X7_readSuitor 72 (135, .getfield 69, 3) rfl rfl) rfl clf_6 (by decide) rfl wd_620,
    st_iconst hC (n := 73) (x := 1) (dc_X7_readSuitor 73 (138, .iconst 1, 1) rfl rfl) rfl (by decide),
    st_iadd hC (n := 74) (dc_X7_readSuitor 74 (139, .iadd, 1) rfl rfl) rfl,
    st_putI hC (n := 75) (k := 6) (j := 13) (dc_X7_readSuitor 75 (140, .putfield 69, 3) rfl rfl) rfl clf_6 (by decide) rfl rfl rfl wd_620,
    st_iconst hC (n := 76) (x := 1) (dc_X7_readSuitor 76 (143, .iconst 1, 1) rfl rfl) rfl (by decide),
    st_zret hC (n := 77) hR (dc_X7_readSuitor 77 (144, .ireturn, 1) rfl rfl), trivial⟩
set_option maxRecDepth 8000 in
theorem vc_X7_readSuitor : VC P_X7_readSuitor 6 Pre_X7_readSuitor Fn_X7_readSuitor := by
  rintro mm as hom hoa ⟨g, ns, nm, nt, na, hJ, rfl⟩
  refine ⟨Nat.le_of_ble_eq_true rfl, fun X h => ?_⟩
  replace h : RUN P_X7_readSuitor (RT (c7sC g mm)) X := h
  have fin : ∀ M p x ag co, CJ M g ns nm nt na → ns < 4 → p = c7sE g x ag co M → RUN P_X7_readSuitor (RT p) X → X 51 [some (vR 7 0), some (vR 6 g), some (vL (x)), none, some (vI (ag)), some (vI (co))] [] (M) := by
    intro M p x ag co hM hlt hp h
    have e13 : M.1 6 g 13 = nI ns := hM.2.1.1
    show X 51 [some (vR 7 0), some (vR 6 g), some (vL x), none, some (vI ag), some (vI co)] [] M
    refine h (fun _ => false) 3000 51 _ _ _ ?_
    refine And.intro (show inb (M.1 6 g 13) (alen 29) = true from (inb_o 20 rfl rfl e13 (by omega))) ?_
    refine And.intro (show inb (M.1 6 g 13) (alen 30) = true from (inb_o 4 rfl rfl e13 (by omega))) ?_
    refine And.intro (show inb (M.1 6 g 13) (alen 16) = true from (inb_o 4 rfl rfl e13 (by omega))) ?_
    refine And.intro (Or.inr rfl) ?_
    show ((some (vI 1) : Option MV), mI (mRow (mRow (mRowL M 29 g (vp_updL (M.2.1 29 g) (M.1 6 g 13).toNatClampNeg x)) 30 g (upd (M.1 30 g) (M.1 6 g 13).toNatClampNeg ag)) 16 g (upd (M.1 16 g) (M.1 6 g 13).toNatClampNeg co)) 6 g 13 ((M.1 6 g 13) + 1)) = _
    exact PR_t hp
  have s35 : ∀ M p x ag, CJ M g ns nm nt na → ns < 4 → p = c7sB g x ag M → RUN P_X7_readSuitor (RT p) X → X 35 [some (vR 7 0), some (vR 6 g), some (vL (x)), none, some (vI (ag)), none] [] (M) := by
    intro M p x ag hM hlt hp h
    unfold c7sB at hp
    show X 35 [some (vR 7 0), some (vR 6 g), some (vL x), none, some (vI ag), none] [] M
    refine h (fun i => Nat.beq i 51) 3000 35 _ _ _ ?_
    refine And.intro (show Pre_X4_option M [vR 4 0, vI 2, vI 0, vI 99] from ⟨hM.1, _, _, _, rfl⟩) ?_
    refine br_c (fun b43 => ?_) (fun b43 => ?_)
    · -- 43: (opC M 2 0 99).1 < 0 taken
      replace b43 : (opC M 2 0 99).1 < 0 := b43
      refine And.intro (Or.inl rfl) ?_
      show ((some (vI 0) : Option MV), (opC M 2 0 99).2) = _
      exact PR_f (by rw [hp, pBi_f b43])
    · -- 43: (opC M 2 0 99).1 < 0 on
      replace b43 : ¬ ((opC M 2 0 99).1 < 0) := b43
      refine And.intro (show Pre_X4_skip ((opC M 2 0 99).2) [vR 4 0, vI 33] from ⟨TXp_op hM.1, _, rfl⟩) ?_
      refine brn_c (fun b48 => ?_) (fun b48 => ?_)
      · -- 48: bI ((skC ((opC M 2 0 99).2) 33).1 = true) = 0 taken
        replace b48 : (skC ((opC M 2 0 99).2) 33).1 = true := bI_n0.mp b48
        show X 51 [some (vR 7 0), some (vR 6 g), some (vL x), none, some (vI ag), some (vI ((opC M 2 0 99).1))] [] ((skC ((opC M 2 0 99).2) 33).2)
        exact fin _ _ _ _ _ (CJ_sk (CJ_op hM)) hlt (by rw [hp, pBi_t b43]; unfold c7sD; rw [pBd_t b48]) h
      · -- 48: bI ((skC ((opC M 2 0 99).2) 33).1 = true) = 0 on
        replace b48 : ¬ ((skC ((opC M 2 0 99).2) 33).1 = true) := bI_0.mp b48
        refine And.intro (Or.inl rfl) ?_
        show ((some (vI 0) : Option MV), (skC ((opC M 2 0 99).2) 33).2) = _
        exact PR_f (by rw [hp, pBi_t b43]; unfold c7sD; rw [pBd_f b48])
  have s24 : ∀ M p x, CJ M g ns nm nt na → ns < 4 → p = c7sA g x M → RUN P_X7_readSuitor (RT p) X → X 24 [some (vR 7 0), some (vR 6 g), some (vL (x)), none, none, none] [] (M) := by
    intro M p x hM hlt hp h
    unfold c7sA at hp
    show X 24 [some (vR 7 0), some (vR 6 g), some (vL x), none, none, none] [] M
    refine h (fun i => Nat.beq i 35) 3000 24 _ _ _ ?_
    refine And.intro (show Pre_X4_option M [vR 4 0, vI 1, vI 20, vI 99] from ⟨hM.1, _, _, _, rfl⟩) ?_
    refine br_c (fun b32 => ?_) (fun b32 => ?_)
    · -- 32: 0 ≤ (opC M 1 20 99).1 taken
      replace b32 : 0 ≤ (opC M 1 20 99).1 := b32
      show X 35 [some (vR 7 0), some (vR 6 g), some (vL x), none, some (vI ((opC M 1 20 99).1)), none] [] ((opC M 1 20 99).2)
      exact s35 _ _ _ _ (CJ_op hM) hlt (by rw [hp, pBi_t (Int32.not_lt.mpr b32)]) h
    · -- 32: 0 ≤ (opC M 1 20 99).1 on
      replace b32 : ¬ (0 ≤ (opC M 1 20 99).1) := b32
      refine And.intro (Or.inl rfl) ?_
      show ((some (vI 0) : Option MV), (opC M 1 20 99).2) = _
      exact PR_f (by rw [hp, pBi_f (Int32.not_le.mp b32)])
  unfold c7sC at h
  have hns := hJ.2.1.2
  show X 0 [some (vR 7 0), some (vR 6 g), none, none, none, none] [] mm
  refine h (fun i => Nat.beq i 24) 3000 0 _ _ _ ?_
  refine br_c (fun b3 => ?_) (fun b3 => ?_)
  · -- 3: mm.1 6 g 13 < 4 taken
    replace b3 : mm.1 6 g 13 < 4 := b3
    (try simp only [lg_cmp_eq] at b3)
    refine And.intro (show Pre_X4_step mm [vR 4 0] from ⟨hJ.1, rfl⟩) ?_
    refine And.intro (show Pre_X4_newName (spM mm) [vR 4 0, vR 29 g] from ⟨TXp_sp hJ.1, _, rfl⟩) ?_
    refine brn_c (fun b21 => ?_) (fun b21 => ?_)
    · -- 21: lg_cmp ((nwC (spM mm) g).1) 0 = 0 taken
      replace b21 : ¬ (lg_cmp ((nwC (spM mm) g).1) 0 = 0) := b21
      (try simp only [lg_cmp_eq] at b21)
      show X 24 [some (vR 7 0), some (vR 6 g), some (vL ((nwC (spM mm) g).1)), none, none, none] [] ((nwC (spM mm) g).2)
      (try simp only [lg_cmp_eq])
      exact s24 _ _ _ (CJ_nw (CJ_sp hJ)) (by rw [hJ.2.1.1, show (4 : Int32) = nI 4 from rfl, nI_ltI (by omega) (by omega)] at b3; exact b3) (by rw [if_pos b3, pBl_t b21]) h
    · -- 21: lg_cmp ((nwC (spM mm) g).1) 0 = 0 on
      replace b21 : lg_cmp ((nwC (spM mm) g).1) 0 = 0 := b21
      (try simp only [lg_cmp_eq] at b21)
      refine And.intro (Or.inl rfl) ?_
      show ((some (vI 0) : Option MV), (nwC (spM mm) g).2) = _
      (try simp only [lg_cmp_eq])
      exact PR_f (by rw [if_pos b3, pBl_f b21])
  · -- 3: mm.1 6 g 13 < 4 on
    replace b3 : ¬ (mm.1 6 g 13 < 4) := b3
    (try simp only [lg_cmp_eq] at b3)
    refine And.intro (show Pre_X4_fail mm [vR 4 0, vI 6] from ⟨_, rfl⟩) ?_
    refine And.intro (Or.inl rfl) ?_
    show ((some (vI 0) : Option MV), faC mm 6) = _
    (try simp only [lg_cmp_eq])
    exact PR_f (by rw [if_neg b3])
theorem con_X7_readSuitor (l : Launch) : CON l y_X7_readSuitor prog_9_method_3_code 6 (some .boolean) rm_X7_readSuitor Pre_X7_readSuitor Fn_X7_readSuitor := CON_of (by decide) rfl rfl (sa_X7_readSuitor l) vc_X7_readSuitor
