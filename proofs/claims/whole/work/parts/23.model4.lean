/-! PART 23: the model: weeks, weddings, fairs, who is preferred -/

theorem mRow2 (m : MM) (k g : Nat) (f f' : Nat → Int32) : mRow (mRow m k g f) k g f' = mRow m k g f' := by
  refine Prod.ext (funext fun k' => funext fun g' => ?_) rfl
  show (if k' = k ∧ g' = g then f' else if k' = k ∧ g' = g then f else m.1 k' g') = if k' = k ∧ g' = g then f' else m.1 k' g'
  by_cases q : k' = k ∧ g' = g
  · rw [if_pos q, if_pos q]
  · rw [if_neg q, if_neg q, if_neg q]
/-- a new row of the model -/
abbrev atM (m : MM) (f : Nat → Int32) : MM := mRow m 54 0 f
def zwA (f : Nat → Int32) : Nat → (Nat → Int32)
  | 0 => f
  | j + 1 => upd (zwA f j) (14 + 4 * j) 0
theorem zwA_lo (f : Nat → Int32) {i : Nat} (hi : i < 14) : ∀ j, zwA f j i = f i
  | 0 => rfl
  | j + 1 => by
    show upd (zwA f j) (14 + 4 * j) 0 i = f i
    rw [upd_ne (by omega), zwA_lo f hi j]
def wkA (a : Nat → Int32) : Nat → Int32 := zwA (upd a 6 (a 6 + 1)) (a 0).toNatClampNeg
def wdA (a : Nat → Int32) (i d : Nat) : Nat → Int32 := upd (upd (upd (upd a (13 + 4 * i) (a (13 + 4 * i) - a (30 + 4 * d))) (15 + 4 * i) (nI d)) (31 + 4 * d) (nI i)) 7 (a 7 + 1)
abbrev wdP (a : Nat → Int32) (i d : Nat) : Prop := ysA a i d ∧ ¬ a (13 + 4 * i) < a (30 + 4 * d)
abbrev frP (a : Nat → Int32) : Prop := ¬ a 6 ≤ 0 ∧ a 6 - a 6 / a 5 * a 5 = 0
def bhA (a : Nat → Int32) (t : Nat) : Nat → Int32
  | 0 => 0
  | j + 1 => bhA a t j ||| (if inS (a 8) (nI j) ∧ inS (a (46 + 3 * j)) (nI t) then 1 <<< (nI j &&& 31) else 0)
def ckA (a : Nat → Int32) (j : Nat) : Int32 := if 1 < (a (45 + 3 * j) + 9) / 10 then (a (45 + 3 * j) + 9) / 10 else 1
abbrev cbP (a : Nat → Int32) (j : Nat) : Prop := frP a ∧ a (15 + 4 * owA a j) = -1 ∧ inS (a 8) (nI j) ∧ ¬ a (13 + 4 * owA a j) < ckA a j ∧ bhA a j (a 2).toNatClampNeg = 0
def cbA (a : Nat → Int32) (j : Nat) : Nat → Int32 := upd (upd a 8 (a 8 ^^^ 1 <<< (nI j &&& 31))) (13 + 4 * owA a j) (a (13 + 4 * owA a j) - ckA a j)
abbrev pfP (a : Nat → Int32) (d i o : Nat) : Prop := 0 < hdA a (nI i) d - hdA a (nI o) d ∨ (hdA a (nI i) d - hdA a (nI o) d = 0 ∧ (0 < a (12 + 4 * i) - a (12 + 4 * o) ∨ (a (12 + 4 * i) - a (12 + 4 * o) = 0 ∧ ¬ nI o ≤ nI i)))
def vwA (a : Nat → Int32) (i : Nat) (x : Int32) : Int32 := if a 4 - a (14 + 4 * i) < x then (x - (a 4 - a (14 + 4 * i)) + a 4 - 1) / a 4 else 0
theorem VA_w0 {a : Nat → Int32} {ns nm nt : Nat} (h : VA a ns nm nt) : ¬ a 4 = 0 ∧ ¬ a 5 = 0 := by
  obtain ⟨-, -, -, -, ⟨w, h1, h2, e⟩, ⟨f, h3, h4, e2⟩⟩ := h
  rw [e, e2]
  exact ⟨nI_ne0 (by omega) (by omega), nI_ne0 (by omega) (by omega)⟩

def Pre_J9_max_7cf53 : PreT := fun _ as => ∃ x y : Int32, as = [vI x, vI y]
def Fn_J9_max_7cf53 : FnT := fun m as => match as with
  | [Sum.inl x, Sum.inl y] => (some (vI (if x < y then y else x)), m)
  | _ => (none, m)
abbrev y_J9_max_7cf53 : MethodName := ⟨"java/lang/Math", "max", "(II)I"⟩
def P_J9_max_7cf53 : List StpT := [s_iload 0, s_iload 1, s_iclt 5, s_iload 0, s_goto 6, s_iload 1, s_iret]
def pc_J9_max_7cf53 : Nat → Nat := fun i => [0, 1, 2, 5, 6, 9, 10].getD i 0
def dl_J9_max_7cf53 : List (Nat × Instr × Nat) := [(0, .iload_n 0, 1), (1, .iload_n 1, 1), (2, .if_icmp .lt 7, 3), (5, .iload_n 0, 1), (6, .goto 4, 3), (9, .iload_n 1, 1), (10, .ireturn, 1)]
theorem dc_J9_max_7cf53 : DEC prog_16_method_65_code pc_J9_max_7cf53 dl_J9_max_7cf53 := DEC_of (by decide +kernel)
abbrev rm_J9_max_7cf53 : Room := { frames := 0, cells := 0, slots := 0, locals := 0 }
set_option maxRecDepth 20000 in
theorem sa_J9_max_7cf53 (l : Launch) : SNDALL l prog_16_method_65_code "java/lang/Math" 2 (some .int) rm_J9_max_7cf53 P_J9_max_7cf53 pc_J9_max_7cf53 := fun p e s m args below meth c cells slots Q D dA ad A RR hC hR => by
  have hM := RTX_room (R := rm_J9_max_7cf53) hR
  exact ⟨st_iload_n hC (n := 0) (k := 0) (dc_J9_max_7cf53 0 (0, .iload_n 0, 1) rfl rfl) rfl rfl,
    st_iload_n hC (n := 1) (k := 1) (dc_J9_max_7cf53 1 (1, .iload_n 1, 1) rfl rfl) rfl rfl,
    st_iclt hC (n := 2) (dc_J9_max_7cf53 2 (2, .if_icmp .lt 7, 3) rfl rfl) rfl (by decide),
    st_iload_n hC (n := 3) (k := 0) (dc_J9_max_7cf53 3 (5, .iload_n 0, 1) rfl rfl) rfl rfl,
    st_goto hC (n := 4) (dc_J9_max_7cf53 4 (6, .goto 4, 3) rfl rfl) (by decide),
    st_iload_n hC (n := 5) (k := 1) (dc_J9_max_7cf53 5 (9, .iload_n 1, 1) rfl rfl) rfl rfl,
    st_iret hC (n := 6) hR (dc_J9_max_7cf53 6 (10, .ireturn, 1) rfl rfl), trivial⟩
theorem vc_J9_max_7cf53 : VC P_J9_max_7cf53 2 Pre_J9_max_7cf53 Fn_J9_max_7cf53 := by
  rintro mm as hom hoa ⟨x, y, rfl⟩
  refine ⟨Nat.le_of_ble_eq_true rfl, fun X h => ?_⟩
  refine h (fun _ => false) 3000 0 _ _ _ ?_
  refine br_c (fun h1 => ?_) (fun h1 => ?_)
  · refine leaf ?_
    simp only [Fn_J9_max_7cf53, if_pos h1]
  · refine leaf ?_
    simp only [Fn_J9_max_7cf53, if_neg h1]
theorem con_J9_max_7cf53 (l : Launch) : CON l y_J9_max_7cf53 prog_16_method_65_code 2 (some .int) rm_J9_max_7cf53 Pre_J9_max_7cf53 Fn_J9_max_7cf53 := CON_ofF (by decide +kernel) rfl rfl (sa_J9_max_7cf53 l) vc_J9_max_7cf53
def Pre_J9_min_7cf53 : PreT := fun _ as => ∃ x y : Int32, as = [vI x, vI y]
def Fn_J9_min_7cf53 : FnT := fun m as => match as with
  | [Sum.inl x, Sum.inl y] => (some (vI (if y < x then y else x)), m)
  | _ => (none, m)
abbrev y_J9_min_7cf53 : MethodName := ⟨"java/lang/Math", "min", "(II)I"⟩
def P_J9_min_7cf53 : List StpT := [s_iload 0, s_iload 1, s_icgt 5, s_iload 0, s_goto 6, s_iload 1, s_iret]
def pc_J9_min_7cf53 : Nat → Nat := fun i => [0, 1, 2, 5, 6, 9, 10].getD i 0
def dl_J9_min_7cf53 : List (Nat × Instr × Nat) := [(0, .iload_n 0, 1), (1, .iload_n 1, 1), (2, .if_icmp .gt 7, 3), (5, .iload_n 0, 1), (6, .goto 4, 3), (9, .iload_n 1, 1), (10, .ireturn, 1)]
theorem dc_J9_min_7cf53 : DEC prog_16_method_69_code pc_J9_min_7cf53 dl_J9_min_7cf53 := DEC_of (by decide +kernel)
abbrev rm_J9_min_7cf53 : Room := { frames := 0, cells := 0, slots := 0, locals := 0 }
set_option maxRecDepth 20000 in
theorem sa_J9_min_7cf53 (l : Launch) : SNDALL l prog_16_method_69_code "java/lang/Math" 2 (some .int) rm_J9_min_7cf53 P_J9_min_7cf53 pc_J9_min_7cf53 := fun p e s m args below meth c cells slots Q D dA ad A RR hC hR => by
  have hM := RTX_room (R := rm_J9_min_7cf53) hR
  exact ⟨st_iload_n hC (n := 0) (k := 0) (dc_J9_min_7cf53 0 (0, .iload_n 0, 1) rfl rfl) rfl rfl,
    st_iload_n hC (n := 1) (k := 1) (dc_J9_min_7cf53 1 (1, .iload_n 1, 1) rfl rfl) rfl rfl,
    st_icgt hC (n := 2) (dc_J9_min_7cf53 2 (2, .if_icmp .gt 7, 3) rfl rfl) rfl (by decide),
    st_iload_n hC (n := 3) (k := 0) (dc_J9_min_7cf53 3 (5, .iload_n 0, 1) rfl rfl) rfl rfl,
    st_goto hC (n := 4) (dc_J9_min_7cf53 4 (6, .goto 4, 3) rfl rfl) (by decide),
    st_iload_n hC (n := 5) (k := 1) (dc_J9_min_7cf53 5 (9, .iload_n 1, 1) rfl rfl) rfl rfl,
    st_iret hC (n := 6) hR (dc_J9_min_7cf53 6 (10, .ireturn, 1) rfl rfl), trivial⟩
theorem vc_J9_min_7cf53 : VC P_J9_min_7cf53 2 Pre_J9_min_7cf53 Fn_J9_min_7cf53 := by
  rintro mm as hom hoa ⟨x, y, rfl⟩
  refine ⟨Nat.le_of_ble_eq_true rfl, fun X h => ?_⟩
  refine h (fun _ => false) 3000 0 _ _ _ ?_
  refine br_c (fun h1 => ?_) (fun h1 => ?_)
  · refine leaf ?_
    simp only [Fn_J9_min_7cf53, if_pos h1]
  · refine leaf ?_
    simp only [Fn_J9_min_7cf53, if_neg h1]
theorem con_J9_min_7cf53 (l : Launch) : CON l y_J9_min_7cf53 prog_16_method_69_code 2 (some .int) rm_J9_min_7cf53 Pre_J9_min_7cf53 Fn_J9_min_7cf53 := CON_ofF (by decide +kernel) rfl rfl (sa_J9_min_7cf53 l) vc_J9_min_7cf53
def Pre_X12_goesBy : PreT := fun m as => VM m ∧ as = [vR 12 0]
def Fn_X12_goesBy : FnT := fun m _ => (some (vI (bI (¬ m.1 54 0 6 = 999))), mite (¬ m.1 54 0 6 = 999) (atM m (wkA (m.1 54 0))) m)
abbrev y_X12_goesBy : MethodName := ⟨"GivenUpModel", "goesBy", "()Z"⟩
def P_X12_goesBy : List StpT := [s_aload 0, s_getR 12 0 54, s_ic (6), s_iald, s_ic (999), s_icne 8, s_ic (0), s_zret, s_aload 0, s_getR 12 0 54, s_ic (6), s_dup2, s_iald, s_ic (1), s_iadd, s_iast, s_ic (0), s_istore 1, s_iload 1, s_aload 0, s_getR 12 0 54, s_ic (0), s_iald, s_icge 34, s_aload 0, s_getR 12 0 54, s_iload 1, s_callS 1 Pre_X12_suitorRow Fn_X12_suitorRow, s_ic (2), s_iadd, s_ic (0), s_iast, s_iinc 1 (1), s_goto 18, s_ic (1), s_zret]
def pc_X12_goesBy : Nat → Nat := fun i => [0, 1, 4, 6, 7, 10, 13, 14, 15, 16, 19, 21, 22, 23, 24, 25, 26, 27, 28, 29, 30, 33, 34, 35, 38, 39, 42, 43, 46, 47, 48, 49, 50, 53, 56, 57].getD i 0
def dl_X12_goesBy : List (Nat × Instr × Nat) := [(0, .aload_n 0, 1), (1, .getfield 7, 3), (4, .bipush 6, 2), (6, .iaload, 1), (7, .sipush 999, 3), (10, .if_icmp .ne 5, 3), (13, .iconst 0, 1), (14, .ireturn, 1), (15, .aload_n 0, 1), (16, .getfield 7, 3), (19, .bipush 6, 2), (21, .dup2, 1), (22, .iaload, 1), (23, .iconst 1, 1), (24, .iadd, 1), (25, .iastore, 1), (26, .iconst 0, 1), (27, .istore_n 1, 1), (28, .iload_n 1, 1), (29, .aload_n 0, 1), (30, .getfield 7, 3), (33, .iconst 0, 1), (34, .iaload, 1), (35, .if_icmp .ge 21, 3), (38, .aload_n 0, 1), (39, .getfield 7, 3), (42, .iload_n 1, 1), (43, .invokestatic 289, 3), (46, .iconst 2, 1), (47, .iadd, 1), (48, .iconst 0, 1), (49, .iastore, 1), (50, .iinc 1 1, 3), (53, .goto (-25), 3), (56, .iconst 1, 1), (57, .ireturn, 1)]
theorem dc_X12_goesBy : DEC prog_14_method_90_code pc_X12_goesBy dl_X12_goesBy := DEC_of (by decide +kernel)
abbrev rm_X12_goesBy : Room := { frames := 1, cells := 0, slots := 0, locals := 20 }
set_option maxRecDepth 20000 in
theorem sa_X12_goesBy (l : Launch) : SNDALL l prog_14_method_90_code "GivenUpModel" 2 (some .boolean) rm_X12_goesBy P_X12_goesBy pc_X12_goesBy := fun p e s m args below meth c cells slots Q D dA ad A RR hC hR => by
  have hM := RTX_room (R := rm_X12_goesBy) hR
  exact ⟨st_aload_n hC (n := 0) (k := 0) (dc_X12_goesBy 0 (0, .aload_n 0, 1) rfl rfl) rfl rfl,
    st_getR hC (n := 1) (k := 12) (j := 0) (dc_X12_goesBy 1 (1, .getfield 7, 3) rfl rfl) rfl clf_12 (by decide) rfl (by decide) wd_1552,
    st_bipush hC (n := 2) (x := 6) (dc_X12_goesBy 2 (4, .bipush 6, 2) rfl rfl) rfl (by decide),
    st_iald hC (n := 3) (dc_X12_goesBy 3 (6, .iaload, 1) rfl rfl) rfl,
    st_sipush hC (n := 4) (x := 999) (dc_X12_goesBy 4 (7, .sipush 999, 3) rfl rfl) rfl (by decide),
    st_icne hC (n := 5) (dc_X12_goesBy 5 (10, .if_icmp .ne 5, 3) rfl rfl) rfl (by decide),
    st_iconst hC (n := 6) (x := 0) (dc_X12_goesBy 6 (13, .iconst 0, 1) rfl rfl) rfl (by decide),
    st_zret hC (n := 7) hR (dc_X12_goesBy 7 (14, .ireturn, 1) rfl rfl),
    st_aload_n hC (n := 8) (k := 0) (dc_X12_goesBy 8 (15, .aload_n 0, 1) rfl rfl) rfl rfl,
    st_getR hC (n := 9) (k := 12) (j := 0) (dc_X12_goesBy 9 (16, .getfield 7, 3) rfl rfl) rfl clf_12 (by decide) rfl (by decide) wd_1552,
    st_bipush hC (n := 10) (x := 6) (dc_X12_goesBy 10 (19, .bipush 6, 2) rfl rfl) rfl (by decide),
    st_dup2 hC (n := 11) (dc_X12_goesBy 11 (21, .dup2, 1) rfl rfl) rfl,
    st_iald hC (n := 12) (dc_X12_goesBy 12 (22, .iaload, 1) rfl rfl) rfl,
    st_iconst hC (n := 13) (x := 1) (dc_X12_goesBy 13 (23, .iconst 1, 1) rfl rfl) rfl (by decide),
    st_iadd hC (n := 14) (dc_X12_goesBy 14 (24, .iadd, 1) rfl rfl) rfl,
    st_iast hC (n := 15) (dc_X12_goesBy 15 (25, .iastore, 1) rfl rfl) rfl,
    st_iconst hC (n := 16) (x := 0) (dc_X12_goesBy 16 (26, .iconst 0, 1) rfl rfl) rfl (by decide),
    st_istore_n hC (n := 17) (k := 1) (dc_X12_goesBy 17 (27, .istore_n 1, 1) rfl rfl) rfl rfl (by decide),
    st_iload_n hC (n := 18) (k := 1) (dc_X12_goesBy 18 (28, .iload_n 1, 1) rfl rfl) rfl rfl,
    st_aload_n hC (n := 19) (k := 0) (dc_X12_goesBy 19 (29, .aload_n 0, 1) rfl rfl) rfl rfl,
    st_getR hC (n := 20) (k := 12) (j := 0) (dc_X12_goesBy 20 (30, .getfield 7, 3) rfl rfl) rfl clf_12 (by decide) rfl (by decide) wd_1552,
    st_iconst hC (n := 21) (x := 0) (dc_X12_goesBy 21 (33, .iconst 0, 1) rfl rfl) rfl (by decide),
    st_iald hC (n := 22) (dc_X12_goesBy 22 (34, .iaload, 1) rfl rfl) rfl,
    st_icge hC (n := 23) (dc_X12_goesBy 23 (35, .if_icmp .ge 21, 3) rfl rfl) rfl (by decide),
    st_aload_n hC (n := 24) (k := 0) (dc_X12_goesBy 24 (38, .aload_n 0, 1) rfl rfl) rfl rfl,
    st_getR hC (n := 25) (k := 12) (j := 0) (dc_X12_goesBy 25 (39, .getfield 7, 3) rfl rfl) rfl clf_12 (by decide) rfl (by decide) wd_1552,
    st_iload_n hC (n := 26) (k := 1) (dc_X12_goesBy 26 (42, .iload_n 1, 1) rfl rfl) rfl rfl,
    st_callS hC (n := 27) (na := 1) (con_X12_suitorRow l) (dc_X12_goesBy 27 (43, .invokestatic 289, 3) rfl rfl) rfl wd_1888 wd_160 (by decide) ⟨rfl, rfl, by decide, by decide⟩ hM wd_1886 wd_1887,
    st_iconst hC (n := 28) (x := 2) (dc_X12_goesBy 28 (46, .iconst 2, 1) rfl rfl) rfl (by decide),
    st_iadd hC (n := 29) (dc_X12_goesBy 29 (47, .iadd, 1) rfl rfl) rfl,
    st_iconst hC (n := 30) (x := 0) (dc_X12_goesBy 30 (48, .iconst 0, 1) rfl rfl) rfl (by decide),
    st_iast hC (n := 31) (dc_X12_goesBy 31 (49, .iastore, 1) rfl rfl) rfl,
    st_iinc hC (n := 32) (x := 1) (dc_X12_goesBy 32 (50, .iinc 1 1, 3) rfl rfl) rfl (by decide) (by decide),
    st_goto hC (n := 33) (dc_X12_goesBy 33 (53, .goto (-25), 3) rfl rfl) (by decide),
    st_iconst hC (n := 34) (x := 1) (dc_X12_goesBy 34 (56, .iconst 1, 1) rfl rfl) rfl (by decide),
    st_zret hC (n := 35) hR (dc_X12_goesBy 35 (57, .ireturn, 1) rfl rfl), trivial⟩
theorem vc_X12_goesBy : VC P_X12_goesBy 2 Pre_X12_goesBy Fn_X12_goesBy := by
  rintro mm as hom hoa ⟨⟨ns, nm, nt, hV⟩, rfl⟩
  refine ⟨Nat.le_of_ble_eq_true rfl, fun X h => ?_⟩
  have hns : mm.1 54 0 0 = nI ns := hV.1.1
  have hns4 : ns ≤ 4 := hV.1.2
  have e0 : (mm.1 54 0 0).toNatClampNeg = ns := by rw [hns, nI_clamp (by omega)]
  have loop : ¬ mm.1 54 0 6 = 999 → ∀ t, t ≤ ns → X 18 [some (vR 12 0), some (vI (nI t))] [] (atM mm (zwA (upd (mm.1 54 0) 6 (mm.1 54 0 6 + 1)) t)) := by
    intro h9
    refine up_ind ns ?_ (fun t ht hk => ?_)
    · refine h (fun i => Nat.beq i 18) 3000 18 _ _ _ ?_
      have e1 : (atM mm (zwA (upd (mm.1 54 0) 6 (mm.1 54 0 6 + 1)) ns)).1 54 0 0 = nI ns := by
        show zwA _ _ 0 = _
        rw [zwA_lo _ (by omega), upd_ne (by omega)]
        exact hns
      refine And.intro rfl ?_
      refine br_t (by show (atM mm (zwA (upd (mm.1 54 0) 6 (mm.1 54 0 6 + 1)) ns)).1 54 0 0 ≤ nI ns; rw [e1]; exact Int32.le_refl _) ?_
      refine And.intro (Or.inr rfl) ?_
      refine Eq.trans ?_ (rit_t h9)
      rw [wkA, e0]
    · refine h (fun i => Nat.beq i 18) 3000 18 _ _ _ ?_
      have e1 : (atM mm (zwA (upd (mm.1 54 0) 6 (mm.1 54 0 6 + 1)) t)).1 54 0 0 = nI ns := by
        show zwA _ _ 0 = _
        rw [zwA_lo _ (by omega), upd_ne (by omega)]
        exact hns
      refine And.intro rfl ?_
      refine br_f (by show ¬ (atM mm (zwA (upd (mm.1 54 0) 6 (mm.1 54 0 6 + 1)) t)).1 54 0 0 ≤ nI t; rw [e1, nI_leI (by omega) (by omega)]; omega) ?_
      refine And.intro ⟨_, rfl⟩ ?_
      repeat' (first | refine And.intro (by (first | exact rfl | exact Or.inl rfl | exact Or.inr rfl | exact bI_in | exact inb_o 3060 rfl rfl (by (try simp (disch := omega) only [li, pk_mul, nI_add, nI_clamp]); rfl) (by omega) | exact inb_o 12 rfl rfl (by (try simp (disch := omega) only [li, pk_mul, nI_add, nI_clamp]); rfl) (by omega) | exact inb_o 4 rfl rfl (by (try simp (disch := omega) only [li, pk_mul, nI_add, nI_clamp]); rfl) (by omega) | exact inb_o 5 rfl rfl (by (try simp (disch := omega) only [li, pk_mul, nI_add, nI_clamp]); rfl) (by omega) | exact inb_o 16 rfl rfl (by (try simp (disch := omega) only [li, pk_mul, nI_add, nI_clamp]); rfl) (by omega) | exact inb_o 20 rfl rfl (by (try simp (disch := omega) only [li, pk_mul, nI_add, nI_clamp]); rfl) (by omega) | exact inb_o 30 rfl rfl (by (try simp (disch := omega) only [li, pk_mul, nI_add, nI_clamp]); rfl) (by omega) | exact inb_o 48 rfl rfl (by (try simp (disch := omega) only [li, pk_mul, nI_add, nI_clamp]); rfl) (by omega) | exact inb_o 60 rfl rfl (by (try simp (disch := omega) only [li, pk_mul, nI_add, nI_clamp]); rfl) (by omega) | exact inb_o 80 rfl rfl (by (try simp (disch := omega) only [li, pk_mul, nI_add, nI_clamp]); rfl) (by omega) | exact inb_o 120 rfl rfl (by (try simp (disch := omega) only [li, pk_mul, nI_add, nI_clamp]); rfl) (by omega) | exact inb_o 240 rfl rfl (by (try simp (disch := omega) only [li, pk_mul, nI_add, nI_clamp]); rfl) (by omega) | exact inb_o 900 rfl rfl (by (try simp (disch := omega) only [li, pk_mul, nI_add, nI_clamp]); rfl) (by omega) | exact inb_o 4096 rfl rfl (by (try simp (disch := omega) only [li, pk_mul, nI_add, nI_clamp]); rfl) (by omega) | exact inb_o 3 rfl rfl (by (try simp (disch := omega) only [li, pk_mul, nI_add, nI_clamp]); rfl) (by omega))) ?_ | refine br_t (by ((try simp (disch := omega) only [li, pk_mul, nI_add, nI_clamp, nI_leI, nI_ltI, nI_eq, bI_0, bI_n0, Decidable.not_not, gu_m1]); first | done | omega | assumption)) ?_ | refine br_f (by ((try simp (disch := omega) only [li, pk_mul, nI_add, nI_clamp, nI_leI, nI_ltI, nI_eq, bI_0, bI_n0, Decidable.not_not, gu_m1]); first | done | omega | assumption)) ?_ | refine brn_t (by ((try simp (disch := omega) only [li, pk_mul, nI_add, nI_clamp, nI_leI, nI_ltI, nI_eq, bI_0, bI_n0, Decidable.not_not, gu_m1]); first | done | omega | assumption)) ?_ | refine brn_f (by ((try simp (disch := omega) only [li, pk_mul, nI_add, nI_clamp, nI_leI, nI_ltI, nI_eq, bI_0, bI_n0, Decidable.not_not, gu_m1]); first | done | omega | assumption)) ?_ | refine br_c (fun _ => ?_) (fun _ => ?_) | refine brn_c (fun _ => ?_) (fun _ => ?_))
      have e2 : (12 + 4 * nI t + 2).toNatClampNeg = 14 + 4 * t := by simp (disch := omega) only [li, pk_mul, nI_add, nI_clamp]; omega
      show X 18 [some (vR 12 0), some (vI (nI t + 1))] [] (mI (atM mm (zwA (upd (mm.1 54 0) 6 (mm.1 54 0 6 + 1)) t)) 54 0 (12 + 4 * nI t + 2).toNatClampNeg 0)
      rw [e2, nI_1, mI, mRow2]
      exact hk
  refine h (fun i => Nat.beq i 18) 3000 0 _ _ _ ?_
  refine And.intro rfl ?_
  refine brn_c (fun h9 => ?_) (fun h9 => ?_)
  · refine And.intro rfl ?_
    refine And.intro rfl ?_
    exact loop h9 0 (Nat.zero_le _)
  · refine And.intro (Or.inl rfl) ?_
    exact rit_f (fun z => z h9)
theorem con_X12_goesBy (l : Launch) : CON l y_X12_goesBy prog_14_method_90_code 2 (some .boolean) rm_X12_goesBy Pre_X12_goesBy Fn_X12_goesBy := CON_of (by decide) rfl rfl (sa_X12_goesBy l) vc_X12_goesBy
def Pre_X12_weds : PreT := fun m as => VM m ∧ ∃ (i d : Nat), i < 4 ∧ d < 4 ∧ as = [vR 12 0, vI (nI i), vI (nI d)]
def Fn_X12_weds : FnT := fun m as => match as with
  | [_, Sum.inl i, Sum.inl d] => (some (vI (bI (wdP (m.1 54 0) i.toNatClampNeg d.toNatClampNeg))), mite (wdP (m.1 54 0) i.toNatClampNeg d.toNatClampNeg) (atM m (wdA (m.1 54 0) i.toNatClampNeg d.toNatClampNeg)) m)
  | _ => (none, m)
abbrev y_X12_weds : MethodName := ⟨"GivenUpModel", "weds", "(II)Z"⟩
def P_X12_weds : List StpT := [s_aload 0, s_getR 12 0 54, s_iload 2, s_callS 1 Pre_X12_maidRow Fn_X12_maidRow, s_ic (2), s_iadd, s_iald, s_istore 3, s_aload 0, s_iload 1, s_iload 2, s_callV 12 2 Pre_X12_saysYes Fn_X12_saysYes, s_ifeq 22, s_aload 0, s_getR 12 0 54, s_iload 1, s_callS 1 Pre_X12_suitorRow Fn_X12_suitorRow, s_ic (1), s_iadd, s_iald, s_iload 3, s_icge 24, s_ic (0), s_zret, s_aload 0, s_getR 12 0 54, s_iload 1, s_callS 1 Pre_X12_suitorRow Fn_X12_suitorRow, s_ic (1), s_iadd, s_dup2, s_iald, s_iload 3, s_isub, s_iast, s_aload 0, s_getR 12 0 54, s_iload 1, s_callS 1 Pre_X12_suitorRow Fn_X12_suitorRow, s_ic (3), s_iadd, s_iload 2, s_iast, s_aload 0, s_getR 12 0 54, s_iload 2, s_callS 1 Pre_X12_maidRow Fn_X12_maidRow, s_ic (3), s_iadd, s_iload 1, s_iast, s_aload 0, s_getR 12 0 54, s_ic (7), s_dup2, s_iald, s_ic (1), s_iadd, s_iast, s_ic (1), s_zret]
def pc_X12_weds : Nat → Nat := fun i => [0, 1, 4, 5, 8, 9, 10, 11, 12, 13, 14, 15, 18, 21, 22, 25, 26, 29, 30, 31, 32, 33, 36, 37, 38, 39, 42, 43, 46, 47, 48, 49, 50, 51, 52, 53, 54, 57, 58, 61, 62, 63, 64, 65, 66, 69, 70, 73, 74, 75, 76, 77, 78, 81, 83, 84, 85, 86, 87, 88, 89].getD i 0
def dl_X12_weds : List (Nat × Instr × Nat) := [(0, .aload_n 0, 1), (1, .getfield 7, 3), (4, .iload_n 2, 1), (5, .invokestatic 286, 3), (8, .iconst 2, 1), (9, .iadd, 1), (10, .iaload, 1), (11, .istore_n 3, 1), (12, .aload_n 0, 1), (13, .iload_n 1, 1), (14, .iload_n 2, 1), (15, .invokevirtual 343, 3), (18, .ifCond .eq 18, 3), (21, .aload_n 0, 1), (22, .getfield 7, 3), (25, .iload_n 1, 1), (26, .invokestatic 289, 3), (29, .iconst 1, 1), (30, .iadd, 1), (31, .iaload, 1), (32, .iload_n 3, 1), (33, .if_icmp .ge 5, 3), (36, .iconst 0, 1), (37, .ireturn, 1), (38, .aload_n 0, 1), (39, .getfield 7, 3), (42, .iload_n 1, 1), (43, .invokestatic 289, 3), (46, .iconst 1, 1), (47, .iadd, 1), (48, .dup2, 1), (49, .iaload, 1), (50, .iload_n 3, 1), (51, .isub, 1), (52, .iastore, 1), (53, .aload_n 0, 1), (54, .getfield 7, 3), (57, .iload_n 1, 1), (58, .invokestatic 289, 3), (61, .iconst 3, 1), (62, .iadd, 1), (63, .iload_n 2, 1), (64, .iastore, 1), (65, .aload_n 0, 1), (66, .getfield 7, 3), (69, .iload_n 2, 1), (70, .invokestatic 286, 3), (73, .iconst 3, 1), (74, .iadd, 1), (75, .iload_n 1, 1), (76, .iastore, 1), (77, .aload_n 0, 1), (78, .getfield 7, 3), (81, .bipush 7, 2), (83, .dup2, 1), (84, .iaload, 1), (85, .iconst 1, 1), (86, .iadd, 1), (87, .iastore, 1), (88, .iconst 1, 1), (89, .ireturn, 1)]
theorem dc_X12_weds : DEC prog_14_method_95_code pc_X12_weds dl_X12_weds := DEC_of (by decide +kernel)
abbrev rm_X12_weds : Room := { frames := 5, cells := 0, slots := 0, locals := 108 }
set_option maxRecDepth 20000 in
theorem sa_X12_weds (l : Launch) : SNDALL l prog_14_method_95_code "GivenUpModel" 4 (some .boolean) rm_X12_weds P_X12_weds pc_X12_weds := fun p e s m args below meth c cells slots Q D dA ad A RR hC hR => by
  have hM := RTX_room (R := rm_X12_weds) hR
  exact ⟨st_aload_n hC (n := 0) (k := 0) (dc_X12_weds 0 (0, .aload_n 0, 1) rfl rfl) rfl rfl,
    st_getR hC (n := 1) (k := 12) (j := 0) (dc_X12_weds 1 (1, .getfield 7, 3) rfl rfl) rfl clf_12 (by decide) rfl (by decide) wd_1552,
    st_iload_n hC (n := 2) (k := 2) (dc_X12_weds 2 (4, .iload_n 2, 1) rfl rfl) rfl rfl,
    st_callS hC (n := 3) (na := 1) (con_X12_maidRow l) (dc_X12_weds 3 (5, .invokestatic 286, 3) rfl rfl) rfl wd_1926 wd_160 (by decide) ⟨rfl, rfl, by decide, by decide⟩ hM wd_1924 wd_1925,
    st_iconst hC (n := 4) (x := 2) (dc_X12_weds 4 (8, .iconst 2, 1) rfl rfl) rfl (by decide),
    st_iadd hC (n := 5) (dc_X12_weds 5 (9, .iadd, 1) rfl rfl) rfl,
    st_iald hC (n := 6) (dc_X12_weds 6 (10, .iaload, 1) rfl rfl) rfl,
    st_istore_n hC (n := 7) (k := 3) (dc_X12_weds 7 (11, .istore_n 3, 1) rfl rfl) rfl rfl (by decide),
    st_aload_n hC (n := 8) (k := 0) (dc_X12_weds 8 (12, .aload_n 0, 1) rfl rfl) rfl rfl,
    st_iload_n hC (n := 9) (k := 1) (dc_X12_weds 9 (13, .iload_n 1, 1) rfl rfl) rfl rfl,
    st_iload_n hC (n := 10) (k := 2) (dc_X12_weds 10 (14, .iload_n 2, 1) rfl rfl) rfl rfl,
    st_callV hC (n := 11) (k := 12) (na := 2) (con_X12_saysYes l) (dc_X12_weds 11 (15, .invokevirtual 343, 3) rfl rfl) rfl wd_2033 wd_160 (by decide) ⟨rfl, rfl, by decide, by decide⟩ hM wd_2030 wd_2032 wd_108 clf_12,
    st_ifeq hC (n := 12) (dc_X12_weds 12 (18, .ifCond .eq 18, 3) rfl rfl) rfl (by decide),
    st_aload_n hC (n := 13) (k := 0) (dc_X12_weds 13 (21, .aload_n 0, 1) rfl rfl) rfl rfl,
    st_getR hC (n := 14) (k := 12) (j := 0) (dc_X12_weds 14 (22, .getfield 7, 3) rfl rfl) rfl clf_12 (by decide) rfl (by decide) wd_1552,
    st_iload_n hC (n := 15) (k := 1) (dc_X12_weds 15 (25, .iload_n 1, 1) rfl rfl) rfl rfl,
    st_callS hC (n := 16) (na := 1) (con_X12_suitorRow l) (dc_X12_weds 16 (26, .invokestatic 289, 3) rfl rfl) rfl wd_1888 wd_160 (by decide) ⟨rfl, rfl, by decide, by decide⟩ hM wd_1886 wd_1887,
    st_iconst hC (n := 17) (x := 1) (dc_X12_weds 17 (29, .iconst 1, 1) rfl rfl) rfl (by decide),
    st_iadd hC (n := 18) (dc_X12_weds 18 (30, .iadd, 1) rfl rfl) rfl,
    st_iald hC (n := 19) (dc_X12_weds 19 (31, .iaload, 1) rfl rfl) rfl,
    st_iload_n hC (n := 20) (k := 3) (dc_X12_weds 20 (32, .iload_n 3, 1) rfl rfl) rfl rfl,
    st_icge hC (n := 21) (dc_X12_weds 21 (33, .if_icmp .ge 5, 3) rfl rfl) rfl (by decide),
    st_iconst hC (n := 22) (x := 0) (dc_X12_weds 22 (36, .iconst 0, 1) rfl rfl) rfl (by decide),
    st_zret hC (n := 23) hR (dc_X12_weds 23 (37, .ireturn, 1) rfl rfl),
    st_aload_n hC (n := 24) (k := 0) (dc_X12_weds 24 (38, .aload_n 0, 1) rfl rfl) rfl rfl,
    st_getR hC (n := 25) (k := 12) (j := 0) (dc_X12_weds 25 (39, .getfield 7, 3) rfl rfl) rfl clf_12 (by decide) rfl (by decide) wd_1552,
    st_iload_n hC (n := 26) (k := 1) (dc_X12_weds 26 (42, .iload_n 1, 1) rfl rfl) rfl rfl,
    st_callS hC (n := 27) (na := 1) (con_X12_suitorRow l) (dc_X12_weds 27 (43, .invokestatic 289, 3) rfl rfl) rfl wd_1888 wd_160 (by decide) ⟨rfl, rfl, by decide, by decide⟩ hM wd_1886 wd_1887,
    st_iconst hC (n := 28) (x := 1) (dc_X12_weds 28 (46, .iconst 1, 1) rfl rfl) rfl (by decide),
    st_iadd hC (n := 29) (dc_X12_weds 29 (47, .iadd, 1) rfl rfl) rfl,
    st_dup2 hC (n := 30) (dc_X12_weds 30 (48, .dup2, 1) rfl rfl) rfl,
    st_iald hC (n := 31) (dc_X12_weds 31 (49, .iaload, 1) rfl rfl) rfl,
    st_iload_n hC (n := 32) (k := 3) (dc_X12_weds 32 (50, .iload_n 3, 1) rfl rfl) rfl rfl,
    st_isub hC (n := 33) (dc_X12_weds 33 (51, .isub, 1) rfl rfl) rfl,
    st_iast hC (n := 34) (dc_X12_weds 34 (52, .iastore, 1) rfl rfl) rfl,
    st_aload_n hC (n := 35) (k := 0) (dc_X12_weds 35 (53, .aload_n 0, 1) rfl rfl) rfl rfl,
    st_getR hC (n := 36) (k := 12) (j := 0) (dc_X12_weds 36 (54, .getfield 7, 3) rfl rfl) rfl clf_12 (by decide) rfl (by decide) wd_1552,
    st_iload_n hC (n := 37) (k := 1) (dc_X12_weds 37 (57, .iload_n 1, 1) rfl rfl) rfl rfl,
    st_callS hC (n := 38) (na := 1) (con_X12_suitorRow l) (dc_X12_weds 38 (58, .invokestatic 289, 3) rfl rfl) rfl wd_1888 wd_160 (by decide) ⟨rfl, rfl, by decide, by decide⟩ hM wd_1886 wd_1887,
    st_iconst hC (n := 39) (x := 3) (dc_X12_weds 39 (61, .iconst 3, 1) rfl rfl) rfl (by decide),
    st_iadd hC (n := 40) (dc_X12_weds 40 (62, .iadd, 1) rfl rfl) rfl,
    st_iload_n hC (n := 41) (k := 2) (dc_X12_weds 41 (63, .iload_n 2, 1) rfl rfl) rfl rfl,
    st_iast hC (n := 42) (dc_X12_weds 42 (64, .iastore, 1) rfl rfl) rfl,
    st_aload_n hC (n := 43) (k := 0) (dc_X12_weds 43 (65, .aload_n 0, 1) rfl rfl) rfl rfl,
    st_getR hC (n := 44) (k := 12) (j := 0) (dc_X12_weds 44 (66, .getfield 7, 3) rfl rfl) rfl clf_12 (by decide) rfl (by decide) wd_1552,
    st_iload_n hC (n := 45) (k := 2) (dc_X12_weds 45 (69, .iload_n 2, 1) rfl rfl) rfl rfl,
    st_callS hC (n := 46) (na := 1) (con_X12_maidRow l) (dc_X12_weds 46 (70, .invokestatic 286, 3) rfl rfl) rfl wd_1926 wd_160 (by decide) ⟨rfl, rfl, by decide, by decide⟩ hM wd_1924 wd_1925,
    st_iconst hC (n := 47) (x := 3) (dc_X12_weds 47 (73, .iconst 3, 1) rfl rfl) rfl (by decide),
    st_iadd hC (n := 48) (dc_X12_weds 48 (74, .iadd, 1) rfl rfl) rfl,
    st_iload_n hC (n := 49) (k := 1) (dc_X12_weds 49 (75, .iload_n 1, 1) rfl rfl) rfl rfl,
    st_iast hC (n := 50) (dc_X12_weds 50 (76, .iastore, 1) rfl rfl) rfl,
    st_aload_n hC (n := 51) (k := 0) (dc_X12_weds 51 (77, .aload_n 0, 1) rfl rfl) rfl rfl,
    st_getR hC (n := 52) (k := 12) (j := 0) (dc_X12_weds 52 (78, .getfield 7, 3) rfl rfl) rfl clf_12 (by decide) rfl (by decide) wd_1552,
    st_bipush hC (n := 53) (x := 7) (dc_X12_weds 53 (81, .bipush 7, 2) rfl rfl) rfl (by decide),
    st_dup2 hC (n := 54) (dc_X12_weds 54 (83, .dup2, 1) rfl rfl) rfl,
    st_iald hC (n := 55) (dc_X12_weds 55 (84, .iaload, 1) rfl rfl) rfl,
    st_iconst hC (n := 56) (x := 1) (dc_X12_weds 56 (85, .iconst 1, 1) rfl rfl) rfl (by decide),
    st_iadd hC (n := 57) (dc_X12_weds 57 (86, .iadd, 1) rfl rfl) rfl,
    st_iast hC (n := 58) (dc_X12_weds 58 (87, .iastore, 1) rfl rfl) rfl,
    st_iconst hC (n := 59) (x := 1) (dc_X12_weds 59 (88, .iconst 1, 1) rfl rfl) rfl (by decide),
    st_zret hC (n := 60) hR (dc_X12_weds 60 (89, .ireturn, 1) rfl rfl), trivial⟩
theorem vc_X12_weds : VC P_X12_weds 4 Pre_X12_weds Fn_X12_weds := by
  rintro mm as hom hoa ⟨hV, i, d, hi, hd, rfl⟩
  refine ⟨Nat.le_of_ble_eq_true rfl, fun X h => ?_⟩
  have ei : (nI i).toNatClampNeg = i := nI_clamp (by omega)
  have ed : (nI d).toNatClampNeg = d := nI_clamp (by omega)
  have eF : Fn_X12_weds mm [vR 12 0, vI (nI i), vI (nI d)] = (some (vI (bI (wdP (mm.1 54 0) i d))), mite (wdP (mm.1 54 0) i d) (atM mm (wdA (mm.1 54 0) i d)) mm) := by
    simp only [Fn_X12_weds, ei, ed]
  rw [eF] at h
  have x1 : (28 + 4 * nI d + 2).toNatClampNeg = 30 + 4 * d := by simp (disch := omega) only [li, pk_mul, nI_add, nI_clamp]; omega
  have x2 : (12 + 4 * nI i + 1).toNatClampNeg = 13 + 4 * i := by simp (disch := omega) only [li, pk_mul, nI_add, nI_clamp]; omega
  have x3 : (12 + 4 * nI i + 3).toNatClampNeg = 15 + 4 * i := by simp (disch := omega) only [li, pk_mul, nI_add, nI_clamp]; omega
  have x4 : (28 + 4 * nI d + 3).toNatClampNeg = 31 + 4 * d := by simp (disch := omega) only [li, pk_mul, nI_add, nI_clamp]; omega
  have b1 : inb (28 + 4 * nI d + 2) (alen 54) = true := inb_o 3060 rfl rfl (by simp (disch := omega) only [li, pk_mul, nI_add, nI_clamp]; rfl) (by omega)
  have b2 : inb (12 + 4 * nI i + 1) (alen 54) = true := inb_o 3060 rfl rfl (by simp (disch := omega) only [li, pk_mul, nI_add, nI_clamp]; rfl) (by omega)
  have b3 : inb (12 + 4 * nI i + 3) (alen 54) = true := inb_o 3060 rfl rfl (by simp (disch := omega) only [li, pk_mul, nI_add, nI_clamp]; rfl) (by omega)
  have b4 : inb (28 + 4 * nI d + 3) (alen 54) = true := inb_o 3060 rfl rfl (by simp (disch := omega) only [li, pk_mul, nI_add, nI_clamp]; rfl) (by omega)
  refine h (fun i => Nat.beq i 8) 3000 0 _ _ _ ?_
  refine And.intro ⟨_, rfl⟩ ?_
  refine And.intro b1 ?_
  show X 8 [some (vR 12 0), some (vI (nI i)), some (vI (nI d)), some (vI (mm.1 54 0 (28 + 4 * nI d + 2).toNatClampNeg))] [] mm
  rw [x1]
  refine h (fun i => Nat.beq i 22 || Nat.beq i 24) 3000 8 _ _ _ ?_
  refine And.intro ⟨hV, i, d, hi, hd, rfl⟩ ?_
  refine br_c (fun h1 => ?_) (fun h1 => ?_)
  · replace h1 := bI_0.mp h1
    rw [ei, ed] at h1
    show X 22 [some (vR 12 0), some (vI (nI i)), some (vI (nI d)), some (vI (mm.1 54 0 (30 + 4 * d)))] [] mm
    refine h (fun _ => false) 3000 22 _ _ _ ?_
    refine And.intro (Or.inl rfl) ?_
    exact rit_f (fun z => h1 z.1)
  replace h1 := bI_n0.mp h1
  rw [ei, ed] at h1
  refine And.intro ⟨_, rfl⟩ ?_
  refine And.intro b2 ?_
  refine br_c (fun h2 => ?_) (fun h2 => ?_)
  · have h2' : mm.1 54 0 (30 + 4 * d) ≤ mm.1 54 0 (12 + 4 * nI i + 1).toNatClampNeg := h2
    rw [x2] at h2'
    show X 24 [some (vR 12 0), some (vI (nI i)), some (vI (nI d)), some (vI (mm.1 54 0 (30 + 4 * d)))] [] mm
    have hw : wdP (mm.1 54 0) i d := ⟨h1, Int32.not_lt.mpr h2'⟩
    refine h (fun i => Nat.beq i 35) 3000 24 _ _ _ ?_
    refine And.intro ⟨_, rfl⟩ ?_
    refine And.intro b2 ?_
    refine And.intro b2 ?_
    show X 35 _ [] (mI mm 54 0 (12 + 4 * nI i + 1).toNatClampNeg (mm.1 54 0 (12 + 4 * nI i + 1).toNatClampNeg - mm.1 54 0 (30 + 4 * d)))
    rw [x2]
    refine h (fun i => Nat.beq i 43) 3000 35 _ _ _ ?_
    refine And.intro ⟨_, rfl⟩ ?_
    refine And.intro b3 ?_
    show X 43 [some (vR 12 0), some (vI (nI i)), some (vI (nI d)), some (vI (mm.1 54 0 (30 + 4 * d)))] [] (mI (mI mm 54 0 (13 + 4 * i) (mm.1 54 0 (13 + 4 * i) - mm.1 54 0 (30 + 4 * d))) 54 0 (12 + 4 * nI i + 3).toNatClampNeg (nI d))
    rw [x3]
    refine h (fun i => Nat.beq i 51) 3000 43 _ _ _ ?_
    refine And.intro ⟨_, rfl⟩ ?_
    refine And.intro b4 ?_
    show X 51 [some (vR 12 0), some (vI (nI i)), some (vI (nI d)), some (vI (mm.1 54 0 (30 + 4 * d)))] [] (mI (mI (mI mm 54 0 (13 + 4 * i) (mm.1 54 0 (13 + 4 * i) - mm.1 54 0 (30 + 4 * d))) 54 0 (15 + 4 * i) (nI d)) 54 0 (28 + 4 * nI d + 3).toNatClampNeg (nI i))
    rw [x4]
    refine h (fun _ => false) 3000 51 _ _ _ ?_
    refine And.intro rfl ?_
    refine And.intro rfl ?_
    refine And.intro (Or.inr rfl) ?_
    refine Eq.trans ?_ (rit_t hw)
    refine Prod.ext rfl ?_
    show mI (mI (mI (mI mm 54 0 _ _) 54 0 _ _) 54 0 _ _) 54 0 7 (upd (upd (upd _ _ _) _ _) _ _ 7 + 1) = _
    rw [upd_ne (by omega), upd_ne (by omega), upd_ne (by omega)]
    simp only [mI, mRow2, mRow_row]
    rfl
  · have h2' : ¬ mm.1 54 0 (30 + 4 * d) ≤ mm.1 54 0 (12 + 4 * nI i + 1).toNatClampNeg := h2
    rw [x2] at h2'
    show X 22 [some (vR 12 0), some (vI (nI i)), some (vI (nI d)), some (vI (mm.1 54 0 (30 + 4 * d)))] [] mm
    refine h (fun _ => false) 3000 22 _ _ _ ?_
    refine And.intro (Or.inl rfl) ?_
    exact rit_f (fun z => z.2 (Int32.not_le.mp h2'))
theorem con_X12_weds (l : Launch) : CON l y_X12_weds prog_14_method_95_code 4 (some .boolean) rm_X12_weds Pre_X12_weds Fn_X12_weds := CON_of (by decide) rfl rfl (sa_X12_weds l) vc_X12_weds
def Pre_X12_isFair : PreT := fun m as => VM m ∧ as = [vR 12 0]
def Fn_X12_isFair : FnT := fun m _ => (some (vI (bI (frP (m.1 54 0)))), m)
abbrev y_X12_isFair : MethodName := ⟨"GivenUpModel", "isFair", "()Z"⟩
def P_X12_isFair : List StpT := [s_aload 0, s_getR 12 0 54, s_ic (6), s_iald, s_ifle 17, s_aload 0, s_getR 12 0 54, s_ic (6), s_iald, s_aload 0, s_getR 12 0 54, s_ic (5), s_iald, s_irem, s_ifne 17, s_ic (1), s_goto 18, s_ic (0), s_zret]
def pc_X12_isFair : Nat → Nat := fun i => [0, 1, 4, 6, 7, 10, 11, 14, 16, 17, 18, 21, 22, 23, 24, 27, 28, 31, 32].getD i 0
def dl_X12_isFair : List (Nat × Instr × Nat) := [(0, .aload_n 0, 1), (1, .getfield 7, 3), (4, .bipush 6, 2), (6, .iaload, 1), (7, .ifCond .le 24, 3), (10, .aload_n 0, 1), (11, .getfield 7, 3), (14, .bipush 6, 2), (16, .iaload, 1), (17, .aload_n 0, 1), (18, .getfield 7, 3), (21, .iconst 5, 1), (22, .iaload, 1), (23, .irem, 1), (24, .ifCond .ne 7, 3), (27, .iconst 1, 1), (28, .goto 4, 3), (31, .iconst 0, 1), (32, .ireturn, 1)]
theorem dc_X12_isFair : DEC prog_14_method_97_code pc_X12_isFair dl_X12_isFair := DEC_of (by decide +kernel)
abbrev rm_X12_isFair : Room := { frames := 0, cells := 0, slots := 0, locals := 0 }
set_option maxRecDepth 20000 in
theorem sa_X12_isFair (l : Launch) : SNDALL l prog_14_method_97_code "GivenUpModel" 1 (some .boolean) rm_X12_isFair P_X12_isFair pc_X12_isFair := fun p e s m args below meth c cells slots Q D dA ad A RR hC hR => by
  have hM := RTX_room (R := rm_X12_isFair) hR
  exact ⟨st_aload_n hC (n := 0) (k := 0) (dc_X12_isFair 0 (0, .aload_n 0, 1) rfl rfl) rfl rfl,
    st_getR hC (n := 1) (k := 12) (j := 0) (dc_X12_isFair 1 (1, .getfield 7, 3) rfl rfl) rfl clf_12 (by decide) rfl (by decide) wd_1552,
    st_bipush hC (n := 2) (x := 6) (dc_X12_isFair 2 (4, .bipush 6, 2) rfl rfl) rfl (by decide),
    st_iald hC (n := 3) (dc_X12_isFair 3 (6, .iaload, 1) rfl rfl) rfl,
    st_ifle hC (n := 4) (dc_X12_isFair 4 (7, .ifCond .le 24, 3) rfl rfl) rfl (by decide),
    st_aload_n hC (n := 5) (k := 0) (dc_X12_isFair 5 (10, .aload_n 0, 1) rfl rfl) rfl rfl,
    st_getR hC (n := 6) (k := 12) (j := 0) (dc_X12_isFair 6 (11, .getfield 7, 3) rfl rfl) rfl clf_12 (by decide) rfl (by decide) wd_1552,
    st_bipush hC (n := 7) (x := 6) (dc_X12_isFair 7 (14, .bipush 6, 2) rfl rfl) rfl (by decide),
    st_iald hC (n := 8) (dc_X12_isFair 8 (16, .iaload, 1) rfl rfl) rfl,
    st_aload_n hC (n := 9) (k := 0) (dc_X12_isFair 9 (17, .aload_n 0, 1) rfl rfl) rfl rfl,
    st_getR hC (n := 10) (k := 12) (j := 0) (dc_X12_isFair 10 (18, .getfield 7, 3) rfl rfl) rfl clf_12 (by decide) rfl (by decide) wd_1552,
    st_iconst hC (n := 11) (x := 5) (dc_X12_isFair 11 (21, .iconst 5, 1) rfl rfl) rfl (by decide),
    st_iald hC (n := 12) (dc_X12_isFair 12 (22, .iaload, 1) rfl rfl) rfl,
    st_irem hC (n := 13) (dc_X12_isFair 13 (23, .irem, 1) rfl rfl) rfl,
    st_ifne hC (n := 14) (dc_X12_isFair 14 (24, .ifCond .ne 7, 3) rfl rfl) rfl (by decide),
    st_iconst hC (n := 15) (x := 1) (dc_X12_isFair 15 (27, .iconst 1, 1) rfl rfl) rfl (by decide),
    st_goto hC (n := 16) (dc_X12_isFair 16 (28, .goto 4, 3) rfl rfl) (by decide),
    st_iconst hC (n := 17) (x := 0) (dc_X12_isFair 17 (31, .iconst 0, 1) rfl rfl) rfl (by decide),
    st_zret hC (n := 18) hR (dc_X12_isFair 18 (32, .ireturn, 1) rfl rfl), trivial⟩
theorem vc_X12_isFair : VC P_X12_isFair 1 Pre_X12_isFair Fn_X12_isFair := by
  rintro mm as hom hoa ⟨⟨ns, nm, nt, hV⟩, rfl⟩
  refine ⟨Nat.le_of_ble_eq_true rfl, fun X h => ?_⟩
  refine h (fun _ => false) 3000 0 _ _ _ ?_
  refine And.intro rfl ?_
  refine br_c (fun h1 => ?_) (fun h1 => ?_)
  · repeat' (first | refine And.intro (by (first | exact rfl | exact Or.inl rfl | exact Or.inr rfl | exact bI_in | exact inb_o 3060 rfl rfl (by (try simp (disch := omega) only [li, pk_mul, nI_add, nI_clamp]); rfl) (by omega) | exact inb_o 12 rfl rfl (by (try simp (disch := omega) only [li, pk_mul, nI_add, nI_clamp]); rfl) (by omega) | exact inb_o 4 rfl rfl (by (try simp (disch := omega) only [li, pk_mul, nI_add, nI_clamp]); rfl) (by omega) | exact inb_o 5 rfl rfl (by (try simp (disch := omega) only [li, pk_mul, nI_add, nI_clamp]); rfl) (by omega) | exact inb_o 16 rfl rfl (by (try simp (disch := omega) only [li, pk_mul, nI_add, nI_clamp]); rfl) (by omega) | exact inb_o 20 rfl rfl (by (try simp (disch := omega) only [li, pk_mul, nI_add, nI_clamp]); rfl) (by omega) | exact inb_o 30 rfl rfl (by (try simp (disch := omega) only [li, pk_mul, nI_add, nI_clamp]); rfl) (by omega) | exact inb_o 48 rfl rfl (by (try simp (disch := omega) only [li, pk_mul, nI_add, nI_clamp]); rfl) (by omega) | exact inb_o 60 rfl rfl (by (try simp (disch := omega) only [li, pk_mul, nI_add, nI_clamp]); rfl) (by omega) | exact inb_o 80 rfl rfl (by (try simp (disch := omega) only [li, pk_mul, nI_add, nI_clamp]); rfl) (by omega) | exact inb_o 120 rfl rfl (by (try simp (disch := omega) only [li, pk_mul, nI_add, nI_clamp]); rfl) (by omega) | exact inb_o 240 rfl rfl (by (try simp (disch := omega) only [li, pk_mul, nI_add, nI_clamp]); rfl) (by omega) | exact inb_o 900 rfl rfl (by (try simp (disch := omega) only [li, pk_mul, nI_add, nI_clamp]); rfl) (by omega) | exact inb_o 4096 rfl rfl (by (try simp (disch := omega) only [li, pk_mul, nI_add, nI_clamp]); rfl) (by omega) | exact inb_o 3 rfl rfl (by (try simp (disch := omega) only [li, pk_mul, nI_add, nI_clamp]); rfl) (by omega))) ?_ | refine br_t (by ((try simp (disch := omega) only [li, pk_mul, nI_add, nI_clamp, nI_leI, nI_ltI, nI_eq, bI_0, bI_n0, Decidable.not_not, gu_m1]); first | done | omega | assumption)) ?_ | refine br_f (by ((try simp (disch := omega) only [li, pk_mul, nI_add, nI_clamp, nI_leI, nI_ltI, nI_eq, bI_0, bI_n0, Decidable.not_not, gu_m1]); first | done | omega | assumption)) ?_ | refine brn_t (by ((try simp (disch := omega) only [li, pk_mul, nI_add, nI_clamp, nI_leI, nI_ltI, nI_eq, bI_0, bI_n0, Decidable.not_not, gu_m1]); first | done | omega | assumption)) ?_ | refine brn_f (by ((try simp (disch := omega) only [li, pk_mul, nI_add, nI_clamp, nI_leI, nI_ltI, nI_eq, bI_0, bI_n0, Decidable.not_not, gu_m1]); first | done | omega | assumption)) ?_ | refine br_c (fun _ => ?_) (fun _ => ?_) | refine brn_c (fun _ => ?_) (fun _ => ?_))
    exact ret_f (fun z => z.1 h1)
  · refine And.intro rfl ?_
    refine And.intro rfl ?_
    refine And.intro (VA_w0 hV).2 ?_
    refine brn_c (fun h2 => ?_) (fun h2 => ?_)
    · repeat' (first | refine And.intro (by (first | exact rfl | exact Or.inl rfl | exact Or.inr rfl | exact bI_in | exact inb_o 3060 rfl rfl (by (try simp (disch := omega) only [li, pk_mul, nI_add, nI_clamp]); rfl) (by omega) | exact inb_o 12 rfl rfl (by (try simp (disch := omega) only [li, pk_mul, nI_add, nI_clamp]); rfl) (by omega) | exact inb_o 4 rfl rfl (by (try simp (disch := omega) only [li, pk_mul, nI_add, nI_clamp]); rfl) (by omega) | exact inb_o 5 rfl rfl (by (try simp (disch := omega) only [li, pk_mul, nI_add, nI_clamp]); rfl) (by omega) | exact inb_o 16 rfl rfl (by (try simp (disch := omega) only [li, pk_mul, nI_add, nI_clamp]); rfl) (by omega) | exact inb_o 20 rfl rfl (by (try simp (disch := omega) only [li, pk_mul, nI_add, nI_clamp]); rfl) (by omega) | exact inb_o 30 rfl rfl (by (try simp (disch := omega) only [li, pk_mul, nI_add, nI_clamp]); rfl) (by omega) | exact inb_o 48 rfl rfl (by (try simp (disch := omega) only [li, pk_mul, nI_add, nI_clamp]); rfl) (by omega) | exact inb_o 60 rfl rfl (by (try simp (disch := omega) only [li, pk_mul, nI_add, nI_clamp]); rfl) (by omega) | exact inb_o 80 rfl rfl (by (try simp (disch := omega) only [li, pk_mul, nI_add, nI_clamp]); rfl) (by omega) | exact inb_o 120 rfl rfl (by (try simp (disch := omega) only [li, pk_mul, nI_add, nI_clamp]); rfl) (by omega) | exact inb_o 240 rfl rfl (by (try simp (disch := omega) only [li, pk_mul, nI_add, nI_clamp]); rfl) (by omega) | exact inb_o 900 rfl rfl (by (try simp (disch := omega) only [li, pk_mul, nI_add, nI_clamp]); rfl) (by omega) | exact inb_o 4096 rfl rfl (by (try simp (disch := omega) only [li, pk_mul, nI_add, nI_clamp]); rfl) (by omega) | exact inb_o 3 rfl rfl (by (try simp (disch := omega) only [li, pk_mul, nI_add, nI_clamp]); rfl) (by omega))) ?_ | refine br_t (by ((try simp (disch := omega) only [li, pk_mul, nI_add, nI_clamp, nI_leI, nI_ltI, nI_eq, bI_0, bI_n0, Decidable.not_not, gu_m1]); first | done | omega | assumption)) ?_ | refine br_f (by ((try simp (disch := omega) only [li, pk_mul, nI_add, nI_clamp, nI_leI, nI_ltI, nI_eq, bI_0, bI_n0, Decidable.not_not, gu_m1]); first | done | omega | assumption)) ?_ | refine brn_t (by ((try simp (disch := omega) only [li, pk_mul, nI_add, nI_clamp, nI_leI, nI_ltI, nI_eq, bI_0, bI_n0, Decidable.not_not, gu_m1]); first | done | omega | assumption)) ?_ | refine brn_f (by ((try simp (disch := omega) only [li, pk_mul, nI_add, nI_clamp, nI_leI, nI_ltI, nI_eq, bI_0, bI_n0, Decidable.not_not, gu_m1]); first | done | omega | assumption)) ?_ | refine br_c (fun _ => ?_) (fun _ => ?_) | refine brn_c (fun _ => ?_) (fun _ => ?_))
      exact ret_f (fun z => h2 z.2)
    · repeat' (first | refine And.intro (by (first | exact rfl | exact Or.inl rfl | exact Or.inr rfl | exact bI_in | exact inb_o 3060 rfl rfl (by (try simp (disch := omega) only [li, pk_mul, nI_add, nI_clamp]); rfl) (by omega) | exact inb_o 12 rfl rfl (by (try simp (disch := omega) only [li, pk_mul, nI_add, nI_clamp]); rfl) (by omega) | exact inb_o 4 rfl rfl (by (try simp (disch := omega) only [li, pk_mul, nI_add, nI_clamp]); rfl) (by omega) | exact inb_o 5 rfl rfl (by (try simp (disch := omega) only [li, pk_mul, nI_add, nI_clamp]); rfl) (by omega) | exact inb_o 16 rfl rfl (by (try simp (disch := omega) only [li, pk_mul, nI_add, nI_clamp]); rfl) (by omega) | exact inb_o 20 rfl rfl (by (try simp (disch := omega) only [li, pk_mul, nI_add, nI_clamp]); rfl) (by omega) | exact inb_o 30 rfl rfl (by (try simp (disch := omega) only [li, pk_mul, nI_add, nI_clamp]); rfl) (by omega) | exact inb_o 48 rfl rfl (by (try simp (disch := omega) only [li, pk_mul, nI_add, nI_clamp]); rfl) (by omega) | exact inb_o 60 rfl rfl (by (try simp (disch := omega) only [li, pk_mul, nI_add, nI_clamp]); rfl) (by omega) | exact inb_o 80 rfl rfl (by (try simp (disch := omega) only [li, pk_mul, nI_add, nI_clamp]); rfl) (by omega) | exact inb_o 120 rfl rfl (by (try simp (disch := omega) only [li, pk_mul, nI_add, nI_clamp]); rfl) (by omega) | exact inb_o 240 rfl rfl (by (try simp (disch := omega) only [li, pk_mul, nI_add, nI_clamp]); rfl) (by omega) | exact inb_o 900 rfl rfl (by (try simp (disch := omega) only [li, pk_mul, nI_add, nI_clamp]); rfl) (by omega) | exact inb_o 4096 rfl rfl (by (try simp (disch := omega) only [li, pk_mul, nI_add, nI_clamp]); rfl) (by omega) | exact inb_o 3 rfl rfl (by (try simp (disch := omega) only [li, pk_mul, nI_add, nI_clamp]); rfl) (by omega))) ?_ | refine br_t (by ((try simp (disch := omega) only [li, pk_mul, nI_add, nI_clamp, nI_leI, nI_ltI, nI_eq, bI_0, bI_n0, Decidable.not_not, gu_m1]); first | done | omega | assumption)) ?_ | refine br_f (by ((try simp (disch := omega) only [li, pk_mul, nI_add, nI_clamp, nI_leI, nI_ltI, nI_eq, bI_0, bI_n0, Decidable.not_not, gu_m1]); first | done | omega | assumption)) ?_ | refine brn_t (by ((try simp (disch := omega) only [li, pk_mul, nI_add, nI_clamp, nI_leI, nI_ltI, nI_eq, bI_0, bI_n0, Decidable.not_not, gu_m1]); first | done | omega | assumption)) ?_ | refine brn_f (by ((try simp (disch := omega) only [li, pk_mul, nI_add, nI_clamp, nI_leI, nI_ltI, nI_eq, bI_0, bI_n0, Decidable.not_not, gu_m1]); first | done | omega | assumption)) ?_ | refine br_c (fun _ => ?_) (fun _ => ?_) | refine brn_c (fun _ => ?_) (fun _ => ?_))
      exact ret_t ⟨h1, h2⟩
theorem con_X12_isFair (l : Launch) : CON l y_X12_isFair prog_14_method_97_code 1 (some .boolean) rm_X12_isFair Pre_X12_isFair Fn_X12_isFair := CON_of (by decide) rfl rfl (sa_X12_isFair l) vc_X12_isFair
def Pre_X12_behindIt : PreT := fun m as => VM m ∧ ∃ (s : Nat), s < 12 ∧ as = [vR 12 0, vI (nI s)]
def Fn_X12_behindIt : FnT := fun m as => match as with
  | [_, Sum.inl s] => (some (vI (bhA (m.1 54 0) s.toNatClampNeg (m.1 54 0 2).toNatClampNeg)), m)
  | _ => (none, m)
abbrev y_X12_behindIt : MethodName := ⟨"GivenUpModel", "behindIt", "(I)I"⟩
def P_X12_behindIt : List StpT := [s_ic (0), s_istore 2, s_ic (0), s_istore 3, s_iload 3, s_aload 0, s_getR 12 0 54, s_ic (2), s_iald, s_icge 35, s_iload 2, s_aload 0, s_aload 0, s_getR 12 0 54, s_ic (8), s_iald, s_iload 3, s_callV 12 2 Pre_X12_isIn Fn_X12_isIn, s_ifeq 30, s_aload 0, s_aload 0, s_iload 3, s_callV 12 1 Pre_X12_aheadOf Fn_X12_aheadOf, s_iload 1, s_callV 12 2 Pre_X12_isIn Fn_X12_isIn, s_ifeq 30, s_ic (1), s_iload 3, s_ishl, s_goto 31, s_ic (0), s_ior, s_istore 2, s_iinc 3 (1), s_goto 4, s_iload 2, s_iret]
def pc_X12_behindIt : Nat → Nat := fun i => [0, 1, 2, 3, 4, 5, 6, 9, 10, 11, 14, 15, 16, 17, 20, 22, 23, 24, 27, 30, 31, 32, 33, 36, 37, 40, 43, 44, 45, 46, 49, 50, 51, 52, 55, 58, 59].getD i 0
def dl_X12_behindIt : List (Nat × Instr × Nat) := [(0, .iconst 0, 1), (1, .istore_n 2, 1), (2, .iconst 0, 1), (3, .istore_n 3, 1), (4, .iload_n 3, 1), (5, .aload_n 0, 1), (6, .getfield 7, 3), (9, .iconst 2, 1), (10, .iaload, 1), (11, .if_icmp .ge 47, 3), (14, .iload_n 2, 1), (15, .aload_n 0, 1), (16, .aload_n 0, 1), (17, .getfield 7, 3), (20, .bipush 8, 2), (22, .iaload, 1), (23, .iload_n 3, 1), (24, .invokevirtual 277, 3), (27, .ifCond .eq 22, 3), (30, .aload_n 0, 1), (31, .aload_n 0, 1), (32, .iload_n 3, 1), (33, .invokevirtual 316, 3), (36, .iload_n 1, 1), (37, .invokevirtual 277, 3), (40, .ifCond .eq 9, 3), (43, .iconst 1, 1), (44, .iload_n 3, 1), (45, .ishl, 1), (46, .goto 4, 3), (49, .iconst 0, 1), (50, .ior, 1), (51, .istore_n 2, 1), (52, .iinc 3 1, 3), (55, .goto (-51), 3), (58, .iload_n 2, 1), (59, .ireturn, 1)]
theorem dc_X12_behindIt : DEC prog_14_method_98_code pc_X12_behindIt dl_X12_behindIt := DEC_of (by decide +kernel)
abbrev rm_X12_behindIt : Room := { frames := 2, cells := 0, slots := 0, locals := 41 }
set_option maxRecDepth 20000 in
theorem sa_X12_behindIt (l : Launch) : SNDALL l prog_14_method_98_code "GivenUpModel" 4 (some .int) rm_X12_behindIt P_X12_behindIt pc_X12_behindIt := fun p e s m args below meth c cells slots Q D dA ad A RR hC hR => by
  have hM := RTX_room (R := rm_X12_behindIt) hR
  exact ⟨st_iconst hC (n := 0) (x := 0) (dc_X12_behindIt 0 (0, .iconst 0, 1) rfl rfl) rfl (by decide),
    st_istore_n hC (n := 1) (k := 2) (dc_X12_behindIt 1 (1, .istore_n 2, 1) rfl rfl) rfl rfl (by decide),
    st_iconst hC (n := 2) (x := 0) (dc_X12_behindIt 2 (2, .iconst 0, 1) rfl rfl) rfl (by decide),
    st_istore_n hC (n := 3) (k := 3) (dc_X12_behindIt 3 (3, .istore_n 3, 1) rfl rfl) rfl rfl (by decide),
    st_iload_n hC (n := 4) (k := 3) (dc_X12_behindIt 4 (4, .iload_n 3, 1) rfl rfl) rfl rfl,
    st_aload_n hC (n := 5) (k := 0) (dc_X12_behindIt 5 (5, .aload_n 0, 1) rfl rfl) rfl rfl,
    st_getR hC (n := 6) (k := 12) (j := 0) (dc_X12_behindIt 6 (6, .getfield 7, 3) rfl rfl) rfl clf_12 (by decide) rfl (by decide) wd_1552,
    st_iconst hC (n := 7) (x := 2) (dc_X12_behindIt 7 (9, .iconst 2, 1) rfl rfl) rfl (by decide),
    st_iald hC (n := 8) (dc_X12_behindIt 8 (10, .iaload, 1) rfl rfl) rfl,
    st_icge hC (n := 9) (dc_X12_behindIt 9 (11, .if_icmp .ge 47, 3) rfl rfl) rfl (by decide),
    st_iload_n hC (n := 10) (k := 2) (dc_X12_behindIt 10 (14, .iload_n 2, 1) rfl rfl) rfl rfl,
    st_aload_n hC (n := 11) (k := 0) (dc_X12_behindIt 11 (15, .aload_n 0, 1) rfl rfl) rfl rfl,
    st_aload_n hC (n := 12) (k := 0) (dc_X12_behindIt 12 (16, .aload_n 0, 1) rfl rfl) rfl rfl,
    st_getR hC (n := 13) (k := 12) (j := 0) (dc_X12_behindIt 13 (17, .getfield 7, 3) rfl rfl) rfl clf_12 (by decide) rfl (by decide) wd_1552,
    st_bipush hC (n := 14) (x := 8) (dc_X12_behindIt 14 (20, .bipush 8, 2) rfl rfl) rfl (by decide),
    st_iald hC (n := 15) (dc_X12_behindIt 15 (22, .iaload, 1) rfl rfl) rfl,
    st_iload_n hC (n := 16) (k := 3) (dc_X12_behindIt 16 (23, .iload_n 3, 1) rfl rfl) rfl rfl,
    st_callV hC (n := 17) (k := 12) (na := 2) (con_X12_isIn l) (dc_X12_behindIt 17 (24, .invokevirtual 277, 3) rfl rfl) rfl wd_1907 wd_160 (by decide) ⟨rfl, rfl, by decide, by decide⟩ hM wd_1904 wd_1906 wd_89 clf_12,
    st_ifeq hC (n := 18) (dc_X12_behindIt 18 (27, .ifCond .eq 22, 3) rfl rfl) rfl (by decide),
    st_aload_n hC (n := 19) (k := 0) (dc_X12_behindIt 19 (30, .aload_n 0, 1) rfl rfl) rfl rfl,
    st_aload_n hC (n := 20) (k := 0) (dc_X12_behindIt 20 (31, .aload_n 0, 1) rfl rfl) rfl rfl,
    st_iload_n hC (n := 21) (k := 3) (dc_X12_behindIt 21 (32, .iload_n 3, 1) rfl rfl) rfl rfl,
    st_callV hC (n := 22) (k := 12) (na := 1) (con_X12_aheadOf l) (dc_X12_behindIt 22 (33, .invokevirtual 316, 3) rfl rfl) rfl wd_1942 wd_160 (by decide) ⟨rfl, rfl, by decide, by decide⟩ hM wd_1939 wd_1941 wd_95 clf_12,
    st_iload_n hC (n := 23) (k := 1) (dc_X12_behindIt 23 (36, .iload_n 1, 1) rfl rfl) rfl rfl,
    st_callV hC (n := 24) (k := 12) (na := 2) (con_X12_isIn l) (dc_X12_behindIt 24 (37, .invokevirtual 277, 3) rfl rfl) rfl wd_1907 wd_160 (by decide) ⟨rfl, rfl, by decide, by decide⟩ hM wd_1904 wd_1906 wd_89 clf_12,
    st_ifeq hC (n := 25) (dc_X12_behindIt 25 (40, .ifCond .eq 9, 3) rfl rfl) rfl (by decide),
    st_iconst hC (n := 26) (x := 1) (dc_X12_behindIt 26 (43, .iconst 1, 1) rfl rfl) rfl (by decide),
    st_iload_n hC (n := 27) (k := 3) (dc_X12_behindIt 27 (44, .iload_n 3, 1) rfl rfl) rfl rfl,
    st_ishl hC (n := 28) (dc_X12_behindIt 28 (45, .ishl, 1) rfl rfl) rfl,
    st_goto hC (n := 29) (dc_X12_behindIt 29 (46, .goto 4, 3) rfl rfl) (by decide),
    st_iconst hC (n := 30) (x := 0) (dc_X12_behindIt 30 (49, .iconst 0, 1) rfl rfl) rfl (by decide),
    st_ior hC (n := 31) (dc_X12_behindIt 31 (50, .ior, 1) rfl rfl) rfl,
    st_istore_n hC (n := 32) (k := 2) (dc_X12_behindIt 32 (51, .istore_n 2, 1) rfl rfl) rfl rfl (by decide),
    st_iinc hC (n := 33) (x := 1) (dc_X12_behindIt 33 (52, .iinc 3 1, 3) rfl rfl) rfl (by decide) (by decide),
    st_goto hC (n := 34) (dc_X12_behindIt 34 (55, .goto (-51), 3) rfl rfl) (by decide),
    st_iload_n hC (n := 35) (k := 2) (dc_X12_behindIt 35 (58, .iload_n 2, 1) rfl rfl) rfl rfl,
    st_iret hC (n := 36) hR (dc_X12_behindIt 36 (59, .ireturn, 1) rfl rfl), trivial⟩
theorem vc_X12_behindIt : VC P_X12_behindIt 4 Pre_X12_behindIt Fn_X12_behindIt := by
  rintro mm as hom hoa ⟨⟨ns, nm, n, hV⟩, s, hs, rfl⟩
  refine ⟨Nat.le_of_ble_eq_true rfl, fun X h => ?_⟩
  have hn : mm.1 54 0 2 = nI n := hV.2.2.1.1
  have hn12 : n ≤ 12 := hV.2.2.1.2
  have loop : ∀ t, t ≤ n → X 4 [some (vR 12 0), some (vI (nI s)), some (vI (bhA (mm.1 54 0) s t)), some (vI (nI t))] [] mm := by
    refine up_ind n ?_ (fun t ht hk => ?_)
    · refine h (fun i => Nat.beq i 4) 3000 4 _ _ _ ?_
      repeat' (first | refine And.intro (by (first | exact rfl | exact Or.inl rfl | exact Or.inr rfl | exact bI_in | exact inb_o 3060 rfl rfl (by (try simp (disch := omega) only [hn, li, pk_mul, nI_add, nI_clamp]); rfl) (by omega) | exact inb_o 12 rfl rfl (by (try simp (disch := omega) only [hn, li, pk_mul, nI_add, nI_clamp]); rfl) (by omega) | exact inb_o 4 rfl rfl (by (try simp (disch := omega) only [hn, li, pk_mul, nI_add, nI_clamp]); rfl) (by omega) | exact inb_o 5 rfl rfl (by (try simp (disch := omega) only [hn, li, pk_mul, nI_add, nI_clamp]); rfl) (by omega) | exact inb_o 16 rfl rfl (by (try simp (disch := omega) only [hn, li, pk_mul, nI_add, nI_clamp]); rfl) (by omega) | exact inb_o 20 rfl rfl (by (try simp (disch := omega) only [hn, li, pk_mul, nI_add, nI_clamp]); rfl) (by omega) | exact inb_o 30 rfl rfl (by (try simp (disch := omega) only [hn, li, pk_mul, nI_add, nI_clamp]); rfl) (by omega) | exact inb_o 48 rfl rfl (by (try simp (disch := omega) only [hn, li, pk_mul, nI_add, nI_clamp]); rfl) (by omega) | exact inb_o 60 rfl rfl (by (try simp (disch := omega) only [hn, li, pk_mul, nI_add, nI_clamp]); rfl) (by omega) | exact inb_o 80 rfl rfl (by (try simp (disch := omega) only [hn, li, pk_mul, nI_add, nI_clamp]); rfl) (by omega) | exact inb_o 120 rfl rfl (by (try simp (disch := omega) only [hn, li, pk_mul, nI_add, nI_clamp]); rfl) (by omega) | exact inb_o 240 rfl rfl (by (try simp (disch := omega) only [hn, li, pk_mul, nI_add, nI_clamp]); rfl) (by omega) | exact inb_o 900 rfl rfl (by (try simp (disch := omega) only [hn, li, pk_mul, nI_add, nI_clamp]); rfl) (by omega) | exact inb_o 4096 rfl rfl (by (try simp (disch := omega) only [hn, li, pk_mul, nI_add, nI_clamp]); rfl) (by omega) | exact inb_o 3 rfl rfl (by (try simp (disch := omega) only [hn, li, pk_mul, nI_add, nI_clamp]); rfl) (by omega))) ?_ | refine br_t (by ((try simp (disch := omega) only [hn, li, pk_mul, nI_add, nI_clamp, nI_leI, nI_ltI, nI_eq, bI_0, bI_n0, Decidable.not_not, gu_m1]); first | done | omega | assumption)) ?_ | refine br_f (by ((try simp (disch := omega) only [hn, li, pk_mul, nI_add, nI_clamp, nI_leI, nI_ltI, nI_eq, bI_0, bI_n0, Decidable.not_not, gu_m1]); first | done | omega | assumption)) ?_ | refine brn_t (by ((try simp (disch := omega) only [hn, li, pk_mul, nI_add, nI_clamp, nI_leI, nI_ltI, nI_eq, bI_0, bI_n0, Decidable.not_not, gu_m1]); first | done | omega | assumption)) ?_ | refine brn_f (by ((try simp (disch := omega) only [hn, li, pk_mul, nI_add, nI_clamp, nI_leI, nI_ltI, nI_eq, bI_0, bI_n0, Decidable.not_not, gu_m1]); first | done | omega | assumption)) ?_ | refine br_c (fun _ => ?_) (fun _ => ?_) | refine brn_c (fun _ => ?_) (fun _ => ?_))
      (refine leaf ?_; simp (disch := omega) only [Fn_X12_behindIt, hn, li, pk_mul, nI_add, nI_clamp])
    · have et : (nI t).toNatClampNeg = t := nI_clamp (by omega)
      refine h (fun i => Nat.beq i 4) 3000 4 _ _ _ ?_
      repeat' (first | refine And.intro (by (first | exact rfl | exact Or.inl rfl | exact Or.inr rfl | exact bI_in | exact inb_o 3060 rfl rfl (by (try simp (disch := omega) only [hn, li, pk_mul, nI_add, nI_clamp]); rfl) (by omega) | exact inb_o 12 rfl rfl (by (try simp (disch := omega) only [hn, li, pk_mul, nI_add, nI_clamp]); rfl) (by omega) | exact inb_o 4 rfl rfl (by (try simp (disch := omega) only [hn, li, pk_mul, nI_add, nI_clamp]); rfl) (by omega) | exact inb_o 5 rfl rfl (by (try simp (disch := omega) only [hn, li, pk_mul, nI_add, nI_clamp]); rfl) (by omega) | exact inb_o 16 rfl rfl (by (try simp (disch := omega) only [hn, li, pk_mul, nI_add, nI_clamp]); rfl) (by omega) | exact inb_o 20 rfl rfl (by (try simp (disch := omega) only [hn, li, pk_mul, nI_add, nI_clamp]); rfl) (by omega) | exact inb_o 30 rfl rfl (by (try simp (disch := omega) only [hn, li, pk_mul, nI_add, nI_clamp]); rfl) (by omega) | exact inb_o 48 rfl rfl (by (try simp (disch := omega) only [hn, li, pk_mul, nI_add, nI_clamp]); rfl) (by omega) | exact inb_o 60 rfl rfl (by (try simp (disch := omega) only [hn, li, pk_mul, nI_add, nI_clamp]); rfl) (by omega) | exact inb_o 80 rfl rfl (by (try simp (disch := omega) only [hn, li, pk_mul, nI_add, nI_clamp]); rfl) (by omega) | exact inb_o 120 rfl rfl (by (try simp (disch := omega) only [hn, li, pk_mul, nI_add, nI_clamp]); rfl) (by omega) | exact inb_o 240 rfl rfl (by (try simp (disch := omega) only [hn, li, pk_mul, nI_add, nI_clamp]); rfl) (by omega) | exact inb_o 900 rfl rfl (by (try simp (disch := omega) only [hn, li, pk_mul, nI_add, nI_clamp]); rfl) (by omega) | exact inb_o 4096 rfl rfl (by (try simp (disch := omega) only [hn, li, pk_mul, nI_add, nI_clamp]); rfl) (by omega) | exact inb_o 3 rfl rfl (by (try simp (disch := omega) only [hn, li, pk_mul, nI_add, nI_clamp]); rfl) (by omega))) ?_ | refine br_t (by ((try simp (disch := omega) only [hn, li, pk_mul, nI_add, nI_clamp, nI_leI, nI_ltI, nI_eq, bI_0, bI_n0, Decidable.not_not, gu_m1]); first | done | omega | assumption)) ?_ | refine br_f (by ((try simp (disch := omega) only [hn, li, pk_mul, nI_add, nI_clamp, nI_leI, nI_ltI, nI_eq, bI_0, bI_n0, Decidable.not_not, gu_m1]); first | done | omega | assumption)) ?_ | refine brn_t (by ((try simp (disch := omega) only [hn, li, pk_mul, nI_add, nI_clamp, nI_leI, nI_ltI, nI_eq, bI_0, bI_n0, Decidable.not_not, gu_m1]); first | done | omega | assumption)) ?_ | refine brn_f (by ((try simp (disch := omega) only [hn, li, pk_mul, nI_add, nI_clamp, nI_leI, nI_ltI, nI_eq, bI_0, bI_n0, Decidable.not_not, gu_m1]); first | done | omega | assumption)) ?_ | refine br_c (fun _ => ?_) (fun _ => ?_) | refine brn_c (fun _ => ?_) (fun _ => ?_))
      refine And.intro ⟨_, _, rfl⟩ ?_
      refine br_c (fun h1 => ?_) (fun h1 => ?_)
      · replace h1 := bI_0.mp h1
        rw [bhA, if_neg (fun z => h1 z.1), ← nI_1] at hk
        exact hk
      · replace h1 := bI_n0.mp h1
        refine And.intro ⟨t, by omega, rfl⟩ ?_
        refine And.intro ⟨_, _, rfl⟩ ?_
        refine br_c (fun h2 => ?_) (fun h2 => ?_)
        · replace h2 := bI_0.mp h2
          rw [et] at h2
          rw [bhA, if_neg (fun z => h2 z.2), ← nI_1] at hk
          exact hk
        · replace h2 := bI_n0.mp h2
          rw [et] at h2
          rw [bhA, if_pos ⟨h1, h2⟩, ← nI_1] at hk
          exact hk
  refine h (fun i => Nat.beq i 4) 3000 0 _ _ _ ?_
  exact loop 0 (Nat.zero_le n)
theorem con_X12_behindIt (l : Launch) : CON l y_X12_behindIt prog_14_method_98_code 4 (some .int) rm_X12_behindIt Pre_X12_behindIt Fn_X12_behindIt := CON_of (by decide) rfl rfl (sa_X12_behindIt l) vc_X12_behindIt
def Pre_X12_isBare : PreT := fun m as => VM m ∧ ∃ (s : Int32), as = [vR 12 0, vI s]
def Fn_X12_isBare : FnT := fun m as => match as with
  | [_, Sum.inl s] => (some (vI (bI (thA (m.1 54 0) s &&& (m.1 54 0 8 ^^^ -1) = 0))), m)
  | _ => (none, m)
abbrev y_X12_isBare : MethodName := ⟨"GivenUpModel", "isBare", "(I)Z"⟩
def P_X12_isBare : List StpT := [s_aload 0, s_iload 1, s_callV 12 1 Pre_X12_thingsOf Fn_X12_thingsOf, s_aload 0, s_getR 12 0 54, s_ic (8), s_iald, s_ic (-1), s_ixor, s_iand, s_ifne 13, s_ic (1), s_goto 14, s_ic (0), s_zret]
def pc_X12_isBare : Nat → Nat := fun i => [0, 1, 2, 5, 6, 9, 11, 12, 13, 14, 15, 18, 19, 22, 23].getD i 0
def dl_X12_isBare : List (Nat × Instr × Nat) := [(0, .aload_n 0, 1), (1, .iload_n 1, 1), (2, .invokevirtual 280, 3), (5, .aload_n 0, 1), (6, .getfield 7, 3), (9, .bipush 8, 2), (11, .iaload, 1), (12, .iconst (-1), 1), (13, .ixor, 1), (14, .iand, 1), (15, .ifCond .ne 7, 3), (18, .iconst 1, 1), (19, .goto 4, 3), (22, .iconst 0, 1), (23, .ireturn, 1)]
theorem dc_X12_isBare : DEC prog_14_method_102_code pc_X12_isBare dl_X12_isBare := DEC_of (by decide +kernel)
abbrev rm_X12_isBare : Room := { frames := 3, cells := 0, slots := 0, locals := 64 }
set_option maxRecDepth 20000 in
theorem sa_X12_isBare (l : Launch) : SNDALL l prog_14_method_102_code "GivenUpModel" 2 (some .boolean) rm_X12_isBare P_X12_isBare pc_X12_isBare := fun p e s m args below meth c cells slots Q D dA ad A RR hC hR => by
  have hM := RTX_room (R := rm_X12_isBare) hR
  exact ⟨st_aload_n hC (n := 0) (k := 0) (dc_X12_isBare 0 (0, .aload_n 0, 1) rfl rfl) rfl rfl,
    st_iload_n hC (n := 1) (k := 1) (dc_X12_isBare 1 (1, .iload_n 1, 1) rfl rfl) rfl rfl,
    st_callV hC (n := 2) (k := 12) (na := 1) (con_X12_thingsOf l) (dc_X12_isBare 2 (2, .invokevirtual 280, 3) rfl rfl) rfl wd_1892 wd_160 (by decide) ⟨rfl, rfl, by decide, by decide⟩ hM wd_1889 wd_1891 wd_86 clf_12,
    st_aload_n hC (n := 3) (k := 0) (dc_X12_isBare 3 (5, .aload_n 0, 1) rfl rfl) rfl rfl,
    st_getR hC (n := 4) (k := 12) (j := 0) (dc_X12_isBare 4 (6, .getfield 7, 3) rfl rfl) rfl clf_12 (by decide) rfl (by decide) wd_1552,
    st_bipush hC (n := 5) (x := 8) (dc_X12_isBare 5 (9, .bipush 8, 2) rfl rfl) rfl (by decide),
    st_iald hC (n := 6) (dc_X12_isBare 6 (11, .iaload, 1) rfl rfl) rfl,
    st_iconst hC (n := 7) (x := (-1)) (dc_X12_isBare 7 (12, .iconst (-1), 1) rfl rfl) rfl (by decide),
    st_ixor hC (n := 8) (dc_X12_isBare 8 (13, .ixor, 1) rfl rfl) rfl,
    st_iand hC (n := 9) (dc_X12_isBare 9 (14, .iand, 1) rfl rfl) rfl,
    st_ifne hC (n := 10) (dc_X12_isBare 10 (15, .ifCond .ne 7, 3) rfl rfl) rfl (by decide),
    st_iconst hC (n := 11) (x := 1) (dc_X12_isBare 11 (18, .iconst 1, 1) rfl rfl) rfl (by decide),
    st_goto hC (n := 12) (dc_X12_isBare 12 (19, .goto 4, 3) rfl rfl) (by decide),
    st_iconst hC (n := 13) (x := 0) (dc_X12_isBare 13 (22, .iconst 0, 1) rfl rfl) rfl (by decide),
    st_zret hC (n := 14) hR (dc_X12_isBare 14 (23, .ireturn, 1) rfl rfl), trivial⟩
theorem vc_X12_isBare : VC P_X12_isBare 2 Pre_X12_isBare Fn_X12_isBare := by
  rintro mm as hom hoa ⟨hV, s, rfl⟩
  refine ⟨Nat.le_of_ble_eq_true rfl, fun X h => ?_⟩
  refine h (fun _ => false) 3000 0 _ _ _ ?_
  refine And.intro ⟨hV, _, rfl⟩ ?_
  refine And.intro rfl ?_
  refine brn_c (fun h2 => ?_) (fun h2 => ?_)
  · repeat' (first | refine And.intro (by (first | exact rfl | exact Or.inl rfl | exact Or.inr rfl | exact bI_in | exact inb_o 3060 rfl rfl (by (try simp (disch := omega) only [li, pk_mul, nI_add, nI_clamp]); rfl) (by omega) | exact inb_o 12 rfl rfl (by (try simp (disch := omega) only [li, pk_mul, nI_add, nI_clamp]); rfl) (by omega) | exact inb_o 4 rfl rfl (by (try simp (disch := omega) only [li, pk_mul, nI_add, nI_clamp]); rfl) (by omega) | exact inb_o 5 rfl rfl (by (try simp (disch := omega) only [li, pk_mul, nI_add, nI_clamp]); rfl) (by omega) | exact inb_o 16 rfl rfl (by (try simp (disch := omega) only [li, pk_mul, nI_add, nI_clamp]); rfl) (by omega) | exact inb_o 20 rfl rfl (by (try simp (disch := omega) only [li, pk_mul, nI_add, nI_clamp]); rfl) (by omega) | exact inb_o 30 rfl rfl (by (try simp (disch := omega) only [li, pk_mul, nI_add, nI_clamp]); rfl) (by omega) | exact inb_o 48 rfl rfl (by (try simp (disch := omega) only [li, pk_mul, nI_add, nI_clamp]); rfl) (by omega) | exact inb_o 60 rfl rfl (by (try simp (disch := omega) only [li, pk_mul, nI_add, nI_clamp]); rfl) (by omega) | exact inb_o 80 rfl rfl (by (try simp (disch := omega) only [li, pk_mul, nI_add, nI_clamp]); rfl) (by omega) | exact inb_o 120 rfl rfl (by (try simp (disch := omega) only [li, pk_mul, nI_add, nI_clamp]); rfl) (by omega) | exact inb_o 240 rfl rfl (by (try simp (disch := omega) only [li, pk_mul, nI_add, nI_clamp]); rfl) (by omega) | exact inb_o 900 rfl rfl (by (try simp (disch := omega) only [li, pk_mul, nI_add, nI_clamp]); rfl) (by omega) | exact inb_o 4096 rfl rfl (by (try simp (disch := omega) only [li, pk_mul, nI_add, nI_clamp]); rfl) (by omega) | exact inb_o 3 rfl rfl (by (try simp (disch := omega) only [li, pk_mul, nI_add, nI_clamp]); rfl) (by omega))) ?_ | refine br_t (by ((try simp (disch := omega) only [li, pk_mul, nI_add, nI_clamp, nI_leI, nI_ltI, nI_eq, bI_0, bI_n0, Decidable.not_not, gu_m1]); first | done | omega | assumption)) ?_ | refine br_f (by ((try simp (disch := omega) only [li, pk_mul, nI_add, nI_clamp, nI_leI, nI_ltI, nI_eq, bI_0, bI_n0, Decidable.not_not, gu_m1]); first | done | omega | assumption)) ?_ | refine brn_t (by ((try simp (disch := omega) only [li, pk_mul, nI_add, nI_clamp, nI_leI, nI_ltI, nI_eq, bI_0, bI_n0, Decidable.not_not, gu_m1]); first | done | omega | assumption)) ?_ | refine brn_f (by ((try simp (disch := omega) only [li, pk_mul, nI_add, nI_clamp, nI_leI, nI_ltI, nI_eq, bI_0, bI_n0, Decidable.not_not, gu_m1]); first | done | omega | assumption)) ?_ | refine br_c (fun _ => ?_) (fun _ => ?_) | refine brn_c (fun _ => ?_) (fun _ => ?_))
    exact ret_f h2
  · repeat' (first | refine And.intro (by (first | exact rfl | exact Or.inl rfl | exact Or.inr rfl | exact bI_in | exact inb_o 3060 rfl rfl (by (try simp (disch := omega) only [li, pk_mul, nI_add, nI_clamp]); rfl) (by omega) | exact inb_o 12 rfl rfl (by (try simp (disch := omega) only [li, pk_mul, nI_add, nI_clamp]); rfl) (by omega) | exact inb_o 4 rfl rfl (by (try simp (disch := omega) only [li, pk_mul, nI_add, nI_clamp]); rfl) (by omega) | exact inb_o 5 rfl rfl (by (try simp (disch := omega) only [li, pk_mul, nI_add, nI_clamp]); rfl) (by omega) | exact inb_o 16 rfl rfl (by (try simp (disch := omega) only [li, pk_mul, nI_add, nI_clamp]); rfl) (by omega) | exact inb_o 20 rfl rfl (by (try simp (disch := omega) only [li, pk_mul, nI_add, nI_clamp]); rfl) (by omega) | exact inb_o 30 rfl rfl (by (try simp (disch := omega) only [li, pk_mul, nI_add, nI_clamp]); rfl) (by omega) | exact inb_o 48 rfl rfl (by (try simp (disch := omega) only [li, pk_mul, nI_add, nI_clamp]); rfl) (by omega) | exact inb_o 60 rfl rfl (by (try simp (disch := omega) only [li, pk_mul, nI_add, nI_clamp]); rfl) (by omega) | exact inb_o 80 rfl rfl (by (try simp (disch := omega) only [li, pk_mul, nI_add, nI_clamp]); rfl) (by omega) | exact inb_o 120 rfl rfl (by (try simp (disch := omega) only [li, pk_mul, nI_add, nI_clamp]); rfl) (by omega) | exact inb_o 240 rfl rfl (by (try simp (disch := omega) only [li, pk_mul, nI_add, nI_clamp]); rfl) (by omega) | exact inb_o 900 rfl rfl (by (try simp (disch := omega) only [li, pk_mul, nI_add, nI_clamp]); rfl) (by omega) | exact inb_o 4096 rfl rfl (by (try simp (disch := omega) only [li, pk_mul, nI_add, nI_clamp]); rfl) (by omega) | exact inb_o 3 rfl rfl (by (try simp (disch := omega) only [li, pk_mul, nI_add, nI_clamp]); rfl) (by omega))) ?_ | refine br_t (by ((try simp (disch := omega) only [li, pk_mul, nI_add, nI_clamp, nI_leI, nI_ltI, nI_eq, bI_0, bI_n0, Decidable.not_not, gu_m1]); first | done | omega | assumption)) ?_ | refine br_f (by ((try simp (disch := omega) only [li, pk_mul, nI_add, nI_clamp, nI_leI, nI_ltI, nI_eq, bI_0, bI_n0, Decidable.not_not, gu_m1]); first | done | omega | assumption)) ?_ | refine brn_t (by ((try simp (disch := omega) only [li, pk_mul, nI_add, nI_clamp, nI_leI, nI_ltI, nI_eq, bI_0, bI_n0, Decidable.not_not, gu_m1]); first | done | omega | assumption)) ?_ | refine brn_f (by ((try simp (disch := omega) only [li, pk_mul, nI_add, nI_clamp, nI_leI, nI_ltI, nI_eq, bI_0, bI_n0, Decidable.not_not, gu_m1]); first | done | omega | assumption)) ?_ | refine br_c (fun _ => ?_) (fun _ => ?_) | refine brn_c (fun _ => ?_) (fun _ => ?_))
    exact ret_t h2
theorem con_X12_isBare (l : Launch) : CON l y_X12_isBare prog_14_method_102_code 2 (some .boolean) rm_X12_isBare Pre_X12_isBare Fn_X12_isBare := CON_of (by decide) rfl rfl (sa_X12_isBare l) vc_X12_isBare
