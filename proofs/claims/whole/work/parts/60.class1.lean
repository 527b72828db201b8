/-! PART 60: the class: bits, rows that are filled, answers -/

def usR (x j : Int32) : Int32 := (x.toUInt32 >>> (j.toUInt32 &&& Int32.toUInt32 31)).toInt32
def bc1 (x : Int32) : Int32 := x - (usR x 1 &&& 1431655765)
def bc2 (x : Int32) : Int32 := (x &&& 858993459) + (usR x 2 &&& 858993459)
def bc3 (x : Int32) : Int32 := (x + usR x 4) &&& 252645135
def bc4 (x : Int32) : Int32 := x + usR x 8
def bc5 (x : Int32) : Int32 := x + usR x 16
def bcE (n : Nat) : Int32 := bc5 (bc4 (bc3 (bc2 (bc1 (nI n))))) &&& 63
set_option maxRecDepth 100000 in
theorem bcE_ok : ∀ n, n < 4096 → bcE n = nI (pcN n) := by decide +kernel

--tpl ⟨_, _, rfl⟩ || bI (inS {0} {1})
def Pre_X11_holds : PreT := fun _ as => ∃ x y : Int32, as = [vI x, vI y]
def Fn_X11_holds : FnT := fun m as => match as with
  | [Sum.inl x, Sum.inl y] => (some (vI (bI (inS x y))), m)
  | _ => (none, m)
abbrev y_X11_holds : MethodName := ⟨"GivenUp", "holds", "(II)Z"⟩
def P_X11_holds : List StpT := [s_iload 0, s_iload 1, s_ishr, s_ic (1), s_iand, s_ifeq 8, s_ic (1), s_goto 9, s_ic (0), s_zret]
def pc_X11_holds : Nat → Nat := fun i => [0, 1, 2, 3, 4, 5, 8, 9, 12, 13].getD i 0
def dl_X11_holds : List (Nat × Instr × Nat) := [(0, .iload_n 0, 1), (1, .iload_n 1, 1), (2, .ishr, 1), (3, .iconst 1, 1), (4, .iand, 1), (5, .ifCond .eq 7, 3), (8, .iconst 1, 1), (9, .goto 4, 3), (12, .iconst 0, 1), (13, .ireturn, 1)]
theorem dc_X11_holds : DEC prog_1_method_71_code pc_X11_holds dl_X11_holds := DEC_of (by decide +kernel)
abbrev rm_X11_holds : Room := { frames := 0, cells := 0, slots := 0, locals := 0 }
set_option maxRecDepth 20000 in
theorem sa_X11_holds (l : Launch) : SNDALL l prog_1_method_71_code "GivenUp" 2 (some .boolean) rm_X11_holds P_X11_holds pc_X11_holds := fun p e s m args below meth c cells slots Q D dA ad A RR hC hR => by
  have hM := RTX_room (R := rm_X11_holds) hR
  exact ⟨st_iload_n hC (n := 0) (k := 0) (dc_X11_holds 0 (0, .iload_n 0, 1) rfl rfl) rfl rfl,
    st_iload_n hC (n := 1) (k := 1) (dc_X11_holds 1 (1, .iload_n 1, 1) rfl rfl) rfl rfl,
    st_ishr hC (n := 2) (dc_X11_holds 2 (2, .ishr, 1) rfl rfl) rfl,
    st_iconst hC (n := 3) (x := 1) (dc_X11_holds 3 (3, .iconst 1, 1) rfl rfl) rfl (by decide),
    st_iand hC (n := 4) (dc_X11_holds 4 (4, .iand, 1) rfl rfl) rfl,
    st_ifeq hC (n := 5) (dc_X11_holds 5 (5, .ifCond .eq 7, 3) rfl rfl) rfl (by decide),
    st_iconst hC (n := 6) (x := 1) (dc_X11_holds 6 (8, .iconst 1, 1) rfl rfl) rfl (by decide),
    st_goto hC (n := 7) (dc_X11_holds 7 (9, .goto 4, 3) rfl rfl) (by decide),
    st_iconst hC (n := 8) (x := 0) (dc_X11_holds 8 (12, .iconst 0, 1) rfl rfl) rfl (by decide),
    st_zret hC (n := 9) hR (dc_X11_holds 9 (13, .ireturn, 1) rfl rfl), trivial⟩
set_option maxRecDepth 8000 in
theorem vc_X11_holds : VC P_X11_holds 2 Pre_X11_holds Fn_X11_holds := by
  rintro mm as hom hoa ⟨x, y, rfl⟩
  refine ⟨Nat.le_of_ble_eq_true rfl, fun X h => ?_⟩
  have key : ((x >>> (y &&& 31)) &&& 1 = 0) ↔ ¬ inS x y := by
    obtain ⟨j, hj, e⟩ := pk_andE (x >>> (y &&& 31)) (m := 1) 1 (by decide)
    unfold inS
    rw [e]
    show nI j = nI 0 ↔ ¬ nI j = nI 1
    rw [nI_eq (by omega) (by omega), nI_eq (by omega) (by omega)]
    omega
  show X 0 [some (vI x), some (vI y)] [] mm
  refine h (fun _ => false) 3000 0 _ _ _ ?_
  refine br_c (fun b5 => ?_) (fun b5 => ?_)
  · -- 5: (x >>> (y &&& 31)) &&& 1 = 0 taken
    replace b5 : (x >>> (y &&& 31)) &&& 1 = 0 := b5
    refine And.intro (Or.inl rfl) ?_
    show ((some (vI 0) : Option MV), mm) = _
    exact ret_f (key.mp b5)
  · -- 5: (x >>> (y &&& 31)) &&& 1 = 0 on
    replace b5 : ¬ ((x >>> (y &&& 31)) &&& 1 = 0) := b5
    refine And.intro (Or.inr rfl) ?_
    show ((some (vI 1) : Option MV), mm) = _
    exact ret_t (Classical.byContradiction (fun z => b5 (key.mpr z)))
theorem con_X11_holds (l : Launch) : CON l y_X11_holds prog_1_method_71_code 2 (some .boolean) rm_X11_holds Pre_X11_holds Fn_X11_holds := CON_of (by decide) rfl rfl (sa_X11_holds l) vc_X11_holds
--tpl ⟨_, rfl⟩ || bI ({0} < 0 ∨ 99 < {0})
def Pre_X11_isNoTime : PreT := fun _ as => ∃ x : Int32, as = [vI x]
def Fn_X11_isNoTime : FnT := fun m as => match as with
  | [Sum.inl x] => (some (vI (bI (x < 0 ∨ 99 < x))), m)
  | _ => (none, m)
abbrev y_X11_isNoTime : MethodName := ⟨"GivenUp", "isNoTime", "(I)Z"⟩
def P_X11_isNoTime : List StpT := [s_iload 0, s_iflt 5, s_iload 0, s_ic (99), s_icle 7, s_ic (1), s_goto 8, s_ic (0), s_zret]
def pc_X11_isNoTime : Nat → Nat := fun i => [0, 1, 4, 5, 7, 10, 11, 14, 15].getD i 0
def dl_X11_isNoTime : List (Nat × Instr × Nat) := [(0, .iload_n 0, 1), (1, .ifCond .lt 9, 3), (4, .iload_n 0, 1), (5, .bipush 99, 2), (7, .if_icmp .le 7, 3), (10, .iconst 1, 1), (11, .goto 4, 3), (14, .iconst 0, 1), (15, .ireturn, 1)]
theorem dc_X11_isNoTime : DEC prog_1_method_70_code pc_X11_isNoTime dl_X11_isNoTime := DEC_of (by decide +kernel)
abbrev rm_X11_isNoTime : Room := { frames := 0, cells := 0, slots := 0, locals := 0 }
set_option maxRecDepth 20000 in
theorem sa_X11_isNoTime (l : Launch) : SNDALL l prog_1_method_70_code "GivenUp" 1 (some .boolean) rm_X11_isNoTime P_X11_isNoTime pc_X11_isNoTime := fun p e s m args below meth c cells slots Q D dA ad A RR hC hR => by
  have hM := RTX_room (R := rm_X11_isNoTime) hR
  exact ⟨st_iload_n hC (n := 0) (k := 0) (dc_X11_isNoTime 0 (0, .iload_n 0, 1) rfl rfl) rfl rfl,
    st_iflt hC (n := 1) (dc_X11_isNoTime 1 (1, .ifCond .lt 9, 3) rfl rfl) rfl (by decide),
    st_iload_n hC (n := 2) (k := 0) (dc_X11_isNoTime 2 (4, .iload_n 0, 1) rfl rfl) rfl rfl,
    st_bipush hC (n := 3) (x := 99) (dc_X11_isNoTime 3 (5, .bipush 99, 2) rfl rfl) rfl (by decide),
    st_icle hC (n := 4) (dc_X11_isNoTime 4 (7, .if_icmp .le 7, 3) rfl rfl) rfl (by decide),
    st_iconst hC (n := 5) (x := 1) (dc_X11_isNoTime 5 (10, .iconst 1, 1) rfl rfl) rfl (by decide),
    st_goto hC (n := 6) (dc_X11_isNoTime 6 (11, .goto 4, 3) rfl rfl) (by decide),
    st_iconst hC (n := 7) (x := 0) (dc_X11_isNoTime 7 (14, .iconst 0, 1) rfl rfl) rfl (by decide),
    st_zret hC (n := 8) hR (dc_X11_isNoTime 8 (15, .ireturn, 1) rfl rfl), trivial⟩
set_option maxRecDepth 8000 in
theorem vc_X11_isNoTime : VC P_X11_isNoTime 1 Pre_X11_isNoTime Fn_X11_isNoTime := by
  rintro mm as hom hoa ⟨x, rfl⟩
  refine ⟨Nat.le_of_ble_eq_true rfl, fun X h => ?_⟩
  show X 0 [some (vI x)] [] mm
  refine h (fun _ => false) 3000 0 _ _ _ ?_
  refine br_c (fun b1 => ?_) (fun b1 => ?_)
  · -- 1: x < 0 taken
    replace b1 : x < 0 := b1
    refine And.intro (Or.inr rfl) ?_
    show ((some (vI 1) : Option MV), mm) = _
    exact ret_t (Or.inl b1)
  · -- 1: x < 0 on
    replace b1 : ¬ (x < 0) := b1
    refine br_c (fun b4 => ?_) (fun b4 => ?_)
    · -- 4: x ≤ 99 taken
      replace b4 : x ≤ 99 := b4
      refine And.intro (Or.inl rfl) ?_
      show ((some (vI 0) : Option MV), mm) = _
      exact ret_f (fun z => z.elim b1 (fun z => Int32.not_lt.mpr b4 z))
    · -- 4: x ≤ 99 on
      replace b4 : ¬ (x ≤ 99) := b4
      refine And.intro (Or.inr rfl) ?_
      show ((some (vI 1) : Option MV), mm) = _
      exact ret_t (Or.inr (Int32.not_le.mp b4))
theorem con_X11_isNoTime (l : Launch) : CON l y_X11_isNoTime prog_1_method_70_code 1 (some .boolean) rm_X11_isNoTime Pre_X11_isNoTime Fn_X11_isNoTime := CON_of (by decide) rfl rfl (sa_X11_isNoTime l) vc_X11_isNoTime
/-- the class's STATUS is so -/
def stC (m : MM) (x : Int32) : MM := mI m 11 0 15 x

--tpl ⟨_, rfl⟩ || {1} || stC {m} 0
def Pre_X11_answer : PreT := fun _ as => ∃ x : Int32, as = [vR 11 0, vI x]
def Fn_X11_answer : FnT := fun m as => match as with
  | [_, Sum.inl x] => (some (vI x), stC m 0)
  | _ => (none, m)
abbrev y_X11_answer : MethodName := ⟨"GivenUp", "answer", "(I)I"⟩
def P_X11_answer : List StpT := [s_aload 0, s_ic (0), s_putI 11 15, s_iload 1, s_iret]
def pc_X11_answer : Nat → Nat := fun i => [0, 1, 2, 5, 6].getD i 0
def dl_X11_answer : List (Nat × Instr × Nat) := [(0, .aload_n 0, 1), (1, .iconst 0, 1), (2, .putfield 98, 3), (5, .iload_n 1, 1), (6, .ireturn, 1)]
theorem dc_X11_answer : DEC prog_1_method_64_code pc_X11_answer dl_X11_answer := DEC_of (by decide +kernel)
abbrev rm_X11_answer : Room := { frames := 0, cells := 0, slots := 0, locals := 0 }
set_option maxRecDepth 20000 in
theorem sa_X11_answer (l : Launch) : SNDALL l prog_1_method_64_code "GivenUp" 2 (some .int) rm_X11_answer P_X11_answer pc_X11_answer := fun p e s m args below meth c cells slots Q D dA ad A RR hC hR => by
  have hM := RTX_room (R := rm_X11_answer) hR
  exact ⟨st_aload_n hC (n := 0) (k := 0) (dc_X11_answer 0 (0, .aload_n 0, 1) rfl rfl) rfl rfl,
    st_iconst hC (n := 1) (x := 0) (dc_X11_answer 1 (1, .iconst 0, 1) rfl rfl) rfl (by decide),
    st_putI hC (n := 2) (k := 11) (j := 15) (dc_X11_answer 2 (2, .putfield 98, 3) rfl rfl) rfl clf_11 (by decide) rfl rfl rfl wd_726,
    st_iload_n hC (n := 3) (k := 1) (dc_X11_answer 3 (5, .iload_n 1, 1) rfl rfl) rfl rfl,
    st_iret hC (n := 4) hR (dc_X11_answer 4 (6, .ireturn, 1) rfl rfl), trivial⟩
set_option maxRecDepth 8000 in
theorem vc_X11_answer : VC P_X11_answer 2 Pre_X11_answer Fn_X11_answer := by
  rintro mm as hom hoa ⟨x, rfl⟩
  refine ⟨Nat.le_of_ble_eq_true rfl, fun X h => ?_⟩
  show X 0 [some (vR 11 0), some (vI x)] [] mm
  refine h (fun _ => false) 3000 0 _ _ _ ?_
  show ((some (vI x) : Option MV), mI mm 11 0 15 0) = _
  exact rfl
theorem con_X11_answer (l : Launch) : CON l y_X11_answer prog_1_method_64_code 2 (some .int) rm_X11_answer Pre_X11_answer Fn_X11_answer := CON_of (by decide) rfl rfl (sa_X11_answer l) vc_X11_answer
--tpl ⟨_, rfl⟩ || (-1) || stC {m} {1}
def Pre_X11_refuse : PreT := fun _ as => ∃ x : Int32, as = [vR 11 0, vI x]
def Fn_X11_refuse : FnT := fun m as => match as with
  | [_, Sum.inl x] => (some (vI (-1)), stC m x)
  | _ => (none, m)
abbrev y_X11_refuse : MethodName := ⟨"GivenUp", "refuse", "(I)I"⟩
def P_X11_refuse : List StpT := [s_aload 0, s_iload 1, s_putI 11 15, s_ic (-1), s_iret]
def pc_X11_refuse : Nat → Nat := fun i => [0, 1, 2, 5, 6].getD i 0
def dl_X11_refuse : List (Nat × Instr × Nat) := [(0, .aload_n 0, 1), (1, .iload_n 1, 1), (2, .putfield 98, 3), (5, .iconst (-1), 1), (6, .ireturn, 1)]
theorem dc_X11_refuse : DEC prog_1_method_66_code pc_X11_refuse dl_X11_refuse := DEC_of (by decide +kernel)
abbrev rm_X11_refuse : Room := { frames := 0, cells := 0, slots := 0, locals := 0 }
set_option maxRecDepth 20000 in
theorem sa_X11_refuse (l : Launch) : SNDALL l prog_1_method_66_code "GivenUp" 2 (some .int) rm_X11_refuse P_X11_refuse pc_X11_refuse := fun p e s m args below meth c cells slots Q D dA ad A RR hC hR => by
  have hM := RTX_room (R := rm_X11_refuse) hR
  exact ⟨st_aload_n hC (n := 0) (k := 0) (dc_X11_refuse 0 (0, .aload_n 0, 1) rfl rfl) rfl rfl,
    st_iload_n hC (n := 1) (k := 1) (dc_X11_refuse 1 (1, .iload_n 1, 1) rfl rfl) rfl rfl,
    st_putI hC (n := 2) (k := 11) (j := 15) (dc_X11_refuse 2 (2, .putfield 98, 3) rfl rfl) rfl clf_11 (by decide) rfl rfl rfl wd_726,
    st_iconst hC (n := 3) (x := (-1)) (dc_X11_refuse 3 (5, .iconst (-1), 1) rfl rfl) rfl (by decide),
    st_iret hC (n := 4) hR (dc_X11_refuse 4 (6, .ireturn, 1) rfl rfl), trivial⟩
set_option maxRecDepth 8000 in
theorem vc_X11_refuse : VC P_X11_refuse 2 Pre_X11_refuse Fn_X11_refuse := by
  rintro mm as hom hoa ⟨x, rfl⟩
  refine ⟨Nat.le_of_ble_eq_true rfl, fun X h => ?_⟩
  show X 0 [some (vR 11 0), some (vI x)] [] mm
  refine h (fun _ => false) 3000 0 _ _ _ ?_
  show ((some (vI (-1)) : Option MV), mI mm 11 0 15 x) = _
  exact rfl
theorem con_X11_refuse (l : Launch) : CON l y_X11_refuse prog_1_method_66_code 2 (some .int) rm_X11_refuse Pre_X11_refuse Fn_X11_refuse := CON_of (by decide) rfl rfl (sa_X11_refuse l) vc_X11_refuse
--tpl rfl || 1 || stC {m} 0
def Pre_X11_allow : PreT := fun _ as => as = [vR 11 0]
def Fn_X11_allow : FnT := fun m _ => (some (vI 1), stC m 0)
abbrev y_X11_allow : MethodName := ⟨"GivenUp", "allow", "()Z"⟩
def P_X11_allow : List StpT := [s_aload 0, s_ic (0), s_putI 11 15, s_ic (1), s_zret]
def pc_X11_allow : Nat → Nat := fun i => [0, 1, 2, 5, 6].getD i 0
def dl_X11_allow : List (Nat × Instr × Nat) := [(0, .aload_n 0, 1), (1, .iconst 0, 1), (2, .putfield 98, 3), (5, .iconst 1, 1), (6, .ireturn, 1)]
theorem dc_X11_allow : DEC prog_1_method_67_code pc_X11_allow dl_X11_allow := DEC_of (by decide +kernel)
abbrev rm_X11_allow : Room := { frames := 0, cells := 0, slots := 0, locals := 0 }
set_option maxRecDepth 20000 in
theorem sa_X11_allow (l : Launch) : SNDALL l prog_1_method_67_code "GivenUp" 1 (some .boolean) rm_X11_allow P_X11_allow pc_X11_allow := fun p e s m args below meth c cells slots Q D dA ad A RR hC hR => by
  have hM := RTX_room (R := rm_X11_allow) hR
  exact ⟨st_aload_n hC (n := 0) (k := 0) (dc_X11_allow 0 (0, .aload_n 0, 1) rfl rfl) rfl rfl,
    st_iconst hC (n := 1) (x := 0) (dc_X11_allow 1 (1, .iconst 0, 1) rfl rfl) rfl (by decide),
    st_putI hC (n := 2) (k := 11) (j := 15) (dc_X11_allow 2 (2, .putfield 98, 3) rfl rfl) rfl clf_11 (by decide) rfl rfl rfl wd_726,
    st_iconst hC (n := 3) (x := 1) (dc_X11_allow 3 (5, .iconst 1, 1) rfl rfl) rfl (by decide),
    st_zret hC (n := 4) hR (dc_X11_allow 4 (6, .ireturn, 1) rfl rfl), trivial⟩
set_option maxRecDepth 8000 in
theorem vc_X11_allow : VC P_X11_allow 1 Pre_X11_allow Fn_X11_allow := by
  rintro mm as hom hoa rfl
  refine ⟨Nat.le_of_ble_eq_true rfl, fun X h => ?_⟩
  show X 0 [some (vR 11 0)] [] mm
  refine h (fun _ => false) 3000 0 _ _ _ ?_
  refine And.intro (Or.inr rfl) ?_
  show ((some (vI 1) : Option MV), mI mm 11 0 15 0) = _
  exact rfl
theorem con_X11_allow (l : Launch) : CON l y_X11_allow prog_1_method_67_code 1 (some .boolean) rm_X11_allow Pre_X11_allow Fn_X11_allow := CON_of (by decide) rfl rfl (sa_X11_allow l) vc_X11_allow
--tpl ⟨_, rfl⟩ || 0 || stC {m} {1}
def Pre_X11_deny : PreT := fun _ as => ∃ x : Int32, as = [vR 11 0, vI x]
def Fn_X11_deny : FnT := fun m as => match as with
  | [_, Sum.inl x] => (some (vI 0), stC m x)
  | _ => (none, m)
abbrev y_X11_deny : MethodName := ⟨"GivenUp", "deny", "(I)Z"⟩
def P_X11_deny : List StpT := [s_aload 0, s_iload 1, s_putI 11 15, s_ic (0), s_zret]
def pc_X11_deny : Nat → Nat := fun i => [0, 1, 2, 5, 6].getD i 0
def dl_X11_deny : List (Nat × Instr × Nat) := [(0, .aload_n 0, 1), (1, .iload_n 1, 1), (2, .putfield 98, 3), (5, .iconst 0, 1), (6, .ireturn, 1)]
theorem dc_X11_deny : DEC prog_1_method_68_code pc_X11_deny dl_X11_deny := DEC_of (by decide +kernel)
abbrev rm_X11_deny : Room := { frames := 0, cells := 0, slots := 0, locals := 0 }
set_option maxRecDepth 20000 in
theorem sa_X11_deny (l : Launch) : SNDALL l prog_1_method_68_code "GivenUp" 2 (some .boolean) rm_X11_deny P_X11_deny pc_X11_deny := fun p e s m args below meth c cells slots Q D dA ad A RR hC hR => by
  have hM := RTX_room (R := rm_X11_deny) hR
  exact ⟨st_aload_n hC (n := 0) (k := 0) (dc_X11_deny 0 (0, .aload_n 0, 1) rfl rfl) rfl rfl,
    st_iload_n hC (n := 1) (k := 1) (dc_X11_deny 1 (1, .iload_n 1, 1) rfl rfl) rfl rfl,
    st_putI hC (n := 2) (k := 11) (j := 15) (dc_X11_deny 2 (2, .putfield 98, 3) rfl rfl) rfl clf_11 (by decide) rfl rfl rfl wd_726,
    st_iconst hC (n := 3) (x := 0) (dc_X11_deny 3 (5, .iconst 0, 1) rfl rfl) rfl (by decide),
    st_zret hC (n := 4) hR (dc_X11_deny 4 (6, .ireturn, 1) rfl rfl), trivial⟩
set_option maxRecDepth 8000 in
theorem vc_X11_deny : VC P_X11_deny 2 Pre_X11_deny Fn_X11_deny := by
  rintro mm as hom hoa ⟨x, rfl⟩
  refine ⟨Nat.le_of_ble_eq_true rfl, fun X h => ?_⟩
  show X 0 [some (vR 11 0), some (vI x)] [] mm
  refine h (fun _ => false) 3000 0 _ _ _ ?_
  refine And.intro (Or.inl rfl) ?_
  show ((some (vI 0) : Option MV), mI mm 11 0 15 x) = _
  exact rfl
theorem con_X11_deny (l : Launch) : CON l y_X11_deny prog_1_method_68_code 2 (some .boolean) rm_X11_deny Pre_X11_deny Fn_X11_deny := CON_of (by decide) rfl rfl (sa_X11_deny l) vc_X11_deny
--tpl ⟨_, rfl⟩ || (if {1} < 0 then -1 else {1}) || stC {m} (if {1} < 0 then 6 else 0)
def Pre_X11_answerOrNone : PreT := fun _ as => ∃ x : Int32, as = [vR 11 0, vI x]
def Fn_X11_answerOrNone : FnT := fun m as => match as with
  | [_, Sum.inl x] => (some (vI (if x < 0 then -1 else x)), stC m (if x < 0 then 6 else 0))
  | _ => (none, m)
abbrev y_X11_answerOrNone : MethodName := ⟨"GivenUp", "answerOrNone", "(I)I"⟩
def P_X11_answerOrNone : List StpT := [s_iload 1, s_ifge 6, s_aload 0, s_ic (6), s_callV 11 1 Pre_X11_refuse Fn_X11_refuse, s_goto 9, s_aload 0, s_iload 1, s_callV 11 1 Pre_X11_answer Fn_X11_answer, s_iret]
def pc_X11_answerOrNone : Nat → Nat := fun i => [0, 1, 4, 5, 7, 10, 13, 14, 15, 18].getD i 0
def dl_X11_answerOrNone : List (Nat × Instr × Nat) := [(0, .iload_n 1, 1), (1, .ifCond .ge 12, 3), (4, .aload_n 0, 1), (5, .bipush 6, 2), (7, .invokevirtual 139, 3), (10, .goto 8, 3), (13, .aload_n 0, 1), (14, .iload_n 1, 1), (15, .invokevirtual 178, 3), (18, .ireturn, 1)]
theorem dc_X11_answerOrNone : DEC prog_1_method_65_code pc_X11_answerOrNone dl_X11_answerOrNone := DEC_of (by decide +kernel)
abbrev rm_X11_answerOrNone : Room := { frames := 1, cells := 0, slots := 0, locals := 21 }
set_option maxRecDepth 20000 in
theorem sa_X11_answerOrNone (l : Launch) : SNDALL l prog_1_method_65_code "GivenUp" 2 (some .int) rm_X11_answerOrNone P_X11_answerOrNone pc_X11_answerOrNone := fun p e s m args below meth c cells slots Q D dA ad A RR hC hR => by
  have hM := RTX_room (R := rm_X11_answerOrNone) hR
  exact ⟨st_iload_n hC (n := 0) (k := 1) (dc_X11_answerOrNone 0 (0, .iload_n 1, 1) rfl rfl) rfl rfl,
    st_ifge hC (n := 1) (dc_X11_answerOrNone 1 (1, .ifCond .ge 12, 3) rfl rfl) rfl (by decide),
    st_aload_n hC (n := 2) (k := 0) (dc_X11_answerOrNone 2 (4, .aload_n 0, 1) rfl rfl) rfl rfl,
    st_bipush hC (n := 3) (x := 6) (dc_X11_answerOrNone 3 (5, .bipush 6, 2) rfl rfl) rfl (by decide),
    st_callV hC (n := 4) (k := 11) (na := 1) (con_X11_refuse l) (dc_X11_answerOrNone 4 (7, .invokevirtual 139, 3) rfl rfl) rfl wd_824 wd_143 (by decide) ⟨rfl, rfl, by decide, by decide⟩ hM wd_821 wd_823 wd_3 clf_11,
    st_goto hC (n := 5) (dc_X11_answerOrNone 5 (10, .goto 8, 3) rfl rfl) (by decide),
    st_aload_n hC (n := 6) (k := 0) (dc_X11_answerOrNone 6 (13, .aload_n 0, 1) rfl rfl) rfl rfl,
    st_iload_n hC (n := 7) (k := 1) (dc_X11_answerOrNone 7 (14, .iload_n 1, 1) rfl rfl) rfl rfl,
    st_callV hC (n := 8) (k := 11) (na := 1) (con_X11_answer l) (dc_X11_answerOrNone 8 (15, .invokevirtual 178, 3) rfl rfl) rfl wd_967 wd_143 (by decide) ⟨rfl, rfl, by decide, by decide⟩ hM wd_964 wd_966 wd_17 clf_11,
    st_iret hC (n := 9) hR (dc_X11_answerOrNone 9 (18, .ireturn, 1) rfl rfl), trivial⟩
set_option maxRecDepth 8000 in
theorem vc_X11_answerOrNone : VC P_X11_answerOrNone 2 Pre_X11_answerOrNone Fn_X11_answerOrNone := by
  rintro mm as hom hoa ⟨x, rfl⟩
  refine ⟨Nat.le_of_ble_eq_true rfl, fun X h => ?_⟩
  have hF : Fn_X11_answerOrNone mm [vR 11 0, vI x] = (some (vI (if x < 0 then -1 else x)), stC mm (if x < 0 then 6 else 0)) := rfl
  rw [hF] at h
  show X 0 [some (vR 11 0), some (vI x)] [] mm
  refine h (fun _ => false) 3000 0 _ _ _ ?_
  refine br_c (fun b1 => ?_) (fun b1 => ?_)
  · -- 1: 0 ≤ x taken
    replace b1 : 0 ≤ x := b1
    refine And.intro (show Pre_X11_answer mm [vR 11 0, vI x] from ⟨_, rfl⟩) ?_
    show ((some (vI x) : Option MV), stC mm 0) = _
    refine leaf ?_
    rw [if_neg (Int32.not_lt.mpr b1), if_neg (Int32.not_lt.mpr b1)] 
    all_goals exact rfl
  · -- 1: 0 ≤ x on
    replace b1 : ¬ (0 ≤ x) := b1
    refine And.intro (show Pre_X11_refuse mm [vR 11 0, vI 6] from ⟨_, rfl⟩) ?_
    show ((some (vI (-1)) : Option MV), stC mm 6) = _
    refine leaf ?_
    rw [if_pos (Int32.not_le.mp b1), if_pos (Int32.not_le.mp b1)] 
    all_goals exact rfl
theorem con_X11_answerOrNone (l : Launch) : CON l y_X11_answerOrNone prog_1_method_65_code 2 (some .int) rm_X11_answerOrNone Pre_X11_answerOrNone Fn_X11_answerOrNone := CON_of (by decide) rfl rfl (sa_X11_answerOrNone l) vc_X11_answerOrNone
--tpl ⟨{0N}, by omega, rfl⟩ || nI (pcN {0n})
def Pre_J6_bitCount_0f7a4 : PreT := fun _ as => ∃ n : Nat, n < 4096 ∧ as = [vI (nI n)]
def Fn_J6_bitCount_0f7a4 : FnT := fun m as => match as with
  | [Sum.inl x] => (some (vI (nI (pcN x.toNatClampNeg))), m)
  | _ => (none, m)
abbrev y_J6_bitCount_0f7a4 : MethodName := ⟨"java/lang/Integer", "bitCount", "(I)I"⟩
def P_J6_bitCount_0f7a4 : List StpT := [s_iload 0, s_iload 0, s_ic (1), s_iushr, s_ic (1431655765), s_iand, s_isub, s_istore 0, s_iload 0, s_ic (858993459), s_iand, s_iload 0, s_ic (2), s_iushr, s_ic (858993459), s_iand, s_iadd, s_istore 0, s_iload 0, s_iload 0, s_ic (4), s_iushr, s_iadd, s_ic (252645135), s_iand, s_istore 0, s_iload 0, s_iload 0, s_ic (8), s_iushr, s_iadd, s_istore 0, s_iload 0, s_iload 0, s_ic (16), s_iushr, s_iadd, s_istore 0, s_iload 0, s_ic (63), s_iand, s_iret]
def pc_J6_bitCount_0f7a4 : Nat → Nat := fun i => [0, 1, 2, 3, 4, 7, 8, 9, 10, 11, 14, 15, 16, 17, 18, 21, 22, 23, 24, 25, 26, 27, 28, 29, 32, 33, 34, 35, 36, 38, 39, 40, 41, 42, 43, 45, 46, 47, 48, 49, 51, 52].getD i 0
def dl_J6_bitCount_0f7a4 : List (Nat × Instr × Nat) := [(0, .iload_n 0, 1), (1, .iload_n 0, 1), (2, .iconst 1, 1), (3, .iushr, 1), (4, .ldc_w 265, 3), (7, .iand, 1), (8, .isub, 1), (9, .istore_n 0, 1), (10, .iload_n 0, 1), (11, .ldc_w 266, 3), (14, .iand, 1), (15, .iload_n 0, 1), (16, .iconst 2, 1), (17, .iushr, 1), (18, .ldc_w 266, 3), (21, .iand, 1), (22, .iadd, 1), (23, .istore_n 0, 1), (24, .iload_n 0, 1), (25, .iload_n 0, 1), (26, .iconst 4, 1), (27, .iushr, 1), (28, .iadd, 1), (29, .ldc_w 267, 3), (32, .iand, 1), (33, .istore_n 0, 1), (34, .iload_n 0, 1), (35, .iload_n 0, 1), (36, .bipush 8, 2), (38, .iushr, 1), (39, .iadd, 1), (40, .istore_n 0, 1), (41, .iload_n 0, 1), (42, .iload_n 0, 1), (43, .bipush 16, 2), (45, .iushr, 1), (46, .iadd, 1), (47, .istore_n 0, 1), (48, .iload_n 0, 1), (49, .bipush 63, 2), (51, .iand, 1), (52, .ireturn, 1)]
theorem dc_J6_bitCount_0f7a4 : DEC prog_15_method_49_code pc_J6_bitCount_0f7a4 dl_J6_bitCount_0f7a4 := DEC_of (by decide +kernel)
abbrev rm_J6_bitCount_0f7a4 : Room := { frames := 0, cells := 0, slots := 0, locals := 0 }
set_option maxRecDepth 20000 in
theorem sa_J6_bitCount_0f7a4 (l : Launch) : SNDALL l prog_15_method_49_code "java/lang/Integer" 1 (some .int) rm_J6_bitCount_0f7a4 P_J6_bitCount_0f7a4 pc_J6_bitCount_0f7a4 := fun p e s m args below meth c cells slots Q D dA ad A RR hC hR => by
  have hM := RTX_room (R := rm_J6_bitCount_0f7a4) hR
  exact ⟨st_iload_n hC (n := 0) (k := 0) (dc_J6_bitCount_0f7a4 0 (0, .iload_n 0, 1) rfl rfl) rfl rfl,
    st_iload_n hC (n := 1) (k := 0) (dc_J6_bitCount_0f7a4 1 (1, .iload_n 0, 1) rfl rfl) rfl rfl,
    st_iconst hC (n := 2) (x := 1) (dc_J6_bitCount_0f7a4 2 (2, .iconst 1, 1) rfl rfl) rfl (by decide),
    st_iushr hC (n := 3) (dc_J6_bitCount_0f7a4 3 (3, .iushr, 1) rfl rfl) rfl,
    st_ldcw hC (n := 4) (x := 1431655765) (dc_J6_bitCount_0f7a4 4 (4, .ldc_w 265, 3) rfl rfl) rfl wd_1072,
    st_iand hC (n := 5) (dc_J6_bitCount_0f7a4 5 (7, .iand, 1) rfl rfl) rfl,
    st_isub hC (n := 6) (dc_J6_bitCount_0f7a4 6 (8, .isub, 1) rfl rfl) rfl,
    st_istore_n hC (n := 7) (k := 0) (dc_J6_bitCount_0f7a4 7 (9, .istore_n 0, 1) rfl rfl) rfl rfl (by decide),
    st_iload_n hC (n := 8) (k := 0) (dc_J6_bitCount_0f7a4 8 (10, .iload_n 0, 1) rfl rfl) rfl rfl,
    st_ldcw hC (n := 9) (x := 858993459) (dc_J6_bitCount_0f7a4 9 (11, .ldc_w 266, 3) rfl rfl) rfl wd_1073,
    st_iand hC (n := 10) (dc_J6_bitCount_0f7a4 10 (14, .iand, 1) rfl rfl) rfl,
    st_iload_n hC (n := 11) (k := 0) (dc_J6_bitCount_0f7a4 11 (15, .iload_n 0, 1) rfl rfl) rfl rfl,
    st_iconst hC (n := 12) (x := 2) (dc_J6_bitCount_0f7a4 12 (16, .iconst 2, 1) rfl rfl) rfl (by decide),
    st_iushr hC (n := 13) (dc_J6_bitCount_0f7a4 13 (17, .iushr, 1) rfl rfl) rfl,
    st_ldcw hC (n := 14) (x := 858993459) (dc_J6_bitCount_0f7a4 14 (18, .ldc_w 266, 3) rfl rfl) rfl wd_1073,
    st_iand hC (n := 15) (dc_J6_bitCount_0f7a4 15 (21, .iand, 1) rfl rfl) rfl,
    st_iadd hC (n := 16) (dc_J6_bitCount_0f7a4 16 (22, .iadd, 1) rfl rfl) rfl,
    st_istore_n hC (n := 17) (k := 0) (dc_J6_bitCount_0f7a4 17 (23, .istore_n 0, 1) rfl rfl) rfl rfl (by decide),
    st_iload_n hC (n := 18) (k := 0) (dc_J6_bitCount_0f7a4 18 (24, .iload_n 0, 1) rfl rfl) rfl rfl,
    st_iload_n hC (n := 19) (k := 0) (dc_J6_bitCount_0f7a4 19 (25, .iload_n 0, 1) rfl rfl) rfl rfl,
    st_iconst hC (n := 20) (x := 4) (dc_J6_bitCount_0f7a4 20 (26, .iconst 4, 1) rfl rfl) rfl (by decide),
    st_iushr hC (n := 21) (dc_J6_bitCount_0f7a4 21 (27, .iushr, 1) rfl rfl) rfl,
    st_iadd hC (n := 22) (dc_J6_bitCount_0f7a4 22 (28, .iadd, 1) rfl rfl) rfl,
    st_ldcw hC (n := 23) (x := 252645135) (dc_J6_bitCount_0f7a4 23 (29, .ldc_w 267, 3) rfl rfl) rfl wd_1074,
    st_iand hC (n := 24) (dc_J6_bitCount_0f7a4 24 (32, .iand, 1) rfl rfl) rfl,
    st_istore_n hC (n := 25) (k := 0) (dc_J6_bitCount_0f7a4 25 (33, .istore_n 0, 1) rfl rfl) rfl rfl (by decide),
    st_iload_n hC (n := 26) (k := 0) (dc_J6_bitCount_0f7a4 26 (34, .iload_n 0, 1) rfl rfl) rfl rfl,
    st_iload_n hC (n := 27) (k := 0) (dc_J6_bitCount_0f7a4 27 (35, .iload_n 0, 1) rfl rfl) rfl rfl,
    st_bipush hC (n := 28) (x := 8) (dc_J6_bitCount_0f7a4 28 (36, .bipush 8, 2) rfl rfl) rfl (by decide),
    st_iushr hC (n := 29) (dc_J6_bitCount_0f7a4 29 (38, .iushr, 1) rfl rfl) rfl,
    st_iadd hC (n := 30) (dc_J6_bitCount_0f7a4 30 (39, .iadd, 1) rfl rfl) rfl,
    st_istore_n hC (n := 31) (k := 0) (dc_J6_bitCount_0f7a4 31 (40, .istore_n 0, 1) rfl rfl) rfl rfl (by decide),
    st_iload_n hC (n := 32) (k := 0) (dc_J6_bitCount_0f7a4 32 (41, .iload_n 0, 1) rfl rfl) rfl rfl,
    st_iload_n hC (n := 33) (k := 0) (dc_J6_bitCount_0f7a4 33 (42, .iload_n 0, 1) rfl rfl) rfl rfl,
    st_bipush hC (n := 34) (x := 16) (dc_J6_bitCount_0f7a4 34 (43, .bipush 16, 2) rfl rfl) rfl (by decide),
    st_iushr hC (n := 35) (dc_J6_bitCount_0f7a4 35 (45, .iushr, 1) rfl rfl) rfl,
    st_iadd hC (n := 36) (dc_J6_bitCount_0f7a4 36 (46, .iadd, 1) rfl rfl) rfl,
    st_istore_n hC (n := 37) (k := 0) (dc_J6_bitCount_0f7a4 37 (47, .istore_n 0, 1) rfl rfl) rfl rfl (by decide),
    st_iload_n hC (n := 38) (k := 0) (dc_J6_bitCount_0f7a4 38 (48, .iload_n 0, 1) rfl rfl) rfl rfl,
    st_bipush hC (n := 39) (x := 63) (dc_J6_bitCount_0f7a4 39 (49, .bipush 63, 2) rfl rfl) rfl (by decide),
    st_iand hC (n := 40) (dc_J6_bitCount_0f7a4 40 (51, .iand, 1) rfl rfl) rfl,
    st_iret hC (n := 41) hR (dc_J6_bitCount_0f7a4 41 (52, .ireturn, 1) rfl rfl), trivial⟩
set_option maxRecDepth 8000 in
theorem vc_J6_bitCount_0f7a4 : VC P_J6_bitCount_0f7a4 1 Pre_J6_bitCount_0f7a4 Fn_J6_bitCount_0f7a4 := by
  rintro mm as hom hoa ⟨n, hn, rfl⟩
  refine ⟨Nat.le_of_ble_eq_true rfl, fun X h => ?_⟩
  have hF : Fn_J6_bitCount_0f7a4 mm [vI (nI n)] = (some (vI (nI (pcN n))), mm) := by
    show (some (vI (nI (pcN (nI n).toNatClampNeg))), mm) = _
    rw [nI_clamp (by omega)]
  rw [hF] at h
  rw [← bcE_ok n hn] at h
  show X 0 [some (vI (nI n))] [] mm
  refine h (fun _ => false) 3000 0 _ _ _ ?_
  show ((some (vI (((((((((nI n) - ((((nI n).toUInt32 >>> ((1 : Int32).toUInt32 &&& Int32.toUInt32 31)).toInt32) &&& 1431655765)) &&& 858993459) + (((((nI n) - ((((nI n).toUInt32 >>> ((1 : Int32).toUInt32 &&& Int32.toUInt32 31)).toInt32) &&& 1431655765)).toUInt32 >>> ((2 : Int32).toUInt32 &&& Int32.toUInt32 31)).toInt32) &&& 858993459)) + ((((((nI n) - ((((nI n).toUInt32 >>> ((1 : Int32).toUInt32 &&& Int32.toUInt32 31)).toInt32) &&& 1431655765)) &&& 858993459) + (((((nI n) - ((((nI n).toUInt32 >>> ((1 : Int32).toUInt32 &&& Int32.toUInt32 31)).toInt32) &&& 1431655765)).toUInt32 >>> ((2 : Int32).toUInt32 &&& Int32.toUInt32 31)).toInt32) &&& 858993459)).toUInt32 >>> ((4 : Int32).toUInt32 &&& Int32.toUInt32 31)).toInt32)) &&& 252645135) + ((((((((nI n) - ((((nI n).toUInt32 >>> ((1 : Int32).toUInt32 &&& Int32.toUInt32 31)).toInt32) &&& 1431655765)) &&& 858993459) + (((((nI n) - ((((nI n).toUInt32 >>> ((1 : Int32).toUInt32 &&& Int32.toUInt32 31)).toInt32) &&& 1431655765)).toUInt32 >>> ((2 : Int32).toUInt32 &&& Int32.toUInt32 31)).toInt32) &&& 858993459)) + ((((((nI n) - ((((nI n).toUInt32 >>> ((1 : Int32).toUInt32 &&& Int32.toUInt32 31)).toInt32) &&& 1431655765)) &&& 858993459) + (((((nI n) - ((((nI n).toUInt32 >>> ((1 : Int32).toUInt32 &&& Int32.toUInt32 31)).toInt32) &&& 1431655765)).toUInt32 >>> ((2 : Int32).toUInt32 &&& Int32.toUInt32 31)).toInt32) &&& 858993459)).toUInt32 >>> ((4 : Int32).toUInt32 &&& Int32.toUInt32 31)).toInt32)) &&& 252645135).toUInt32 >>> ((8 : Int32).toUInt32 &&& Int32.toUInt32 31)).toInt32)) + (((((((((nI n) - ((((nI n).toUInt32 >>> ((1 : Int32).toUInt32 &&& Int32.toUInt32 31)).toInt32) &&& 1431655765)) &&& 858993459) + (((((nI n) - ((((nI n).toUInt32 >>> ((1 : Int32).toUInt32 &&& Int32.toUInt32 31)).toInt32) &&& 1431655765)).toUInt32 >>> ((2 : Int32).toUInt32 &&& Int32.toUInt32 31)).toInt32) &&& 858993459)) + ((((((nI n) - ((((nI n).toUInt32 >>> ((1 : Int32).toUInt32 &&& Int32.toUInt32 31)).toInt32) &&& 1431655765)) &&& 858993459) + (((((nI n) - ((((nI n).toUInt32 >>> ((1 : Int32).toUInt32 &&& Int32.toUInt32 31)).toInt32) &&& 1431655765)).toUInt32 >>> ((2 : Int32).toUInt32 &&& Int32.toUInt32 31)).toInt32) &&& 858993459)).toUInt32 >>> ((4 : Int32).toUInt32 &&& Int32.toUInt32 31)).toInt32)) &&& 252645135) + ((((((((nI n) - ((((nI n).toUInt32 >>> ((1 : Int32).toUInt32 &&& Int32.toUInt32 31)).toInt32) &&& 1431655765)) &&& 858993459) + (((((nI n) - ((((nI n).toUInt32 >>> ((1 : Int32).toUInt32 &&& Int32.toUInt32 31)).toInt32) &&& 1431655765)).toUInt32 >>> ((2 : Int32).toUInt32 &&& Int32.toUInt32 31)).toInt32) &&& 858993459)) + ((((((nI n) - ((((nI n).toUInt32 >>> ((1 : Int32).toUInt32 &&& Int32.toUInt32 31)).toInt32) &&& 1431655765)) &&& 858993459) + (((((nI n) - ((((nI n).toUInt32 >>> ((1 : Int32).toUInt32 &&& Int32.toUInt32 31)).toInt32) &&& 1431655765)).toUInt32 >>> ((2 : Int32).toUInt32 &&& Int32.toUInt32 31)).toInt32) &&& 858993459)).toUInt32 >>> ((4 : Int32).toUInt32 &&& Int32.toUInt32 31)).toInt32)) &&& 252645135).toUInt32 >>> ((8 : Int32).toUInt32 &&& Int32.toUInt32 31)).toInt32)).toUInt32 >>> ((16 : Int32).toUInt32 &&& Int32.toUInt32 31)).toInt32)) &&& 63)) : Option MV), mm) = _
  exact rfl
theorem con_J6_bitCount_0f7a4 (l : Launch) : CON l y_J6_bitCount_0f7a4 prog_15_method_49_code 1 (some .int) rm_J6_bitCount_0f7a4 Pre_J6_bitCount_0f7a4 Fn_J6_bitCount_0f7a4 := CON_ofF (by decide +kernel) rfl rfl (sa_J6_bitCount_0f7a4 l) vc_J6_bitCount_0f7a4
def flR (o : Nat → Int32) (v : Int32) (k : Nat) : Nat → Int32 := fun j => if j < k then v else o j
theorem flR_s (o : Nat → Int32) (v : Int32) (k : Nat) : upd (flR o v k) k v = flR o v (k + 1) := by
  funext j
  unfold upd flR
  by_cases h : j = k
  · subst h
    rw [if_pos rfl, if_pos (by omega)]
  · rw [if_neg h]
    by_cases h2 : j < k
    · rw [if_pos h2, if_pos (by omega)]
    · rw [if_neg h2, if_neg (by omega)]
theorem flR_0 (o : Nat → Int32) (v : Int32) : flR o v 0 = o := by
  funext j
  exact if_neg (by omega)
def flQ (o : Nat → Int64) (v : Int64) (k : Nat) : Nat → Int64 := fun j => if j < k then v else o j
theorem flQ_s (o : Nat → Int64) (v : Int64) (k : Nat) : vp_updL (flQ o v k) k v = flQ o v (k + 1) := by
  funext j
  unfold vp_updL flQ
  by_cases h : j = k
  · subst h
    rw [if_pos rfl, if_pos (by omega)]
  · rw [if_neg h]
    by_cases h2 : j < k
    · rw [if_pos h2, if_pos (by omega)]
    · rw [if_neg h2, if_neg (by omega)]
theorem flQ_0 (o : Nat → Int64) (v : Int64) : flQ o v 0 = o := by
  funext j
  exact if_neg (by omega)
theorem mRow_row2 (m : MM) (k g : Nat) (f : Nat → Int32) : (mRow m k g f).1 k g = f := mRow_row m k g f
theorem mRowL_row2 (m : MM) (k g : Nat) (f : Nat → Int64) : (mRowL m k g f).2.1 k g = f := mRowL_row m k g f

--tpl ⟨_, _, by decide, rfl⟩ ||  || mRow {m} {k0} {g0} (flR ({r 1 {k0} {g0}}) {1} (alen {k0}))
def FLK : List Nat := [14, 16, 17, 18, 19, 21, 31, 37, 38, 39]
def Pre_J7_fill_53178 : PreT := fun _ as => ∃ (k g : Nat), FLK.contains k = true ∧ ∃ v : Int32, as = [vR k g, vI v]
def Fn_J7_fill_53178 : FnT := fun m as => match as with
  | [Sum.inr (Sum.inr q), Sum.inl v] => (none, mRow m q.1 q.2 (flR (m.1 q.1 q.2) v (alen q.1)))
  | _ => (none, m)
abbrev y_J7_fill_53178 : MethodName := ⟨"java/util/Arrays", "fill", "([II)V"⟩
def P_J7_fill_53178 : List StpT := [s_ic (0), s_istore 2, s_aload 0, s_alen, s_istore 3, s_iload 2, s_iload 3, s_icge 14, s_aload 0, s_iload 2, s_iload 1, s_iast, s_iinc 2 (1), s_goto 5, s_vret]
def pc_J7_fill_53178 : Nat → Nat := fun i => [0, 1, 2, 3, 4, 5, 6, 7, 10, 11, 12, 13, 14, 17, 20].getD i 0
def dl_J7_fill_53178 : List (Nat × Instr × Nat) := [(0, .iconst 0, 1), (1, .istore_n 2, 1), (2, .aload_n 0, 1), (3, .arraylength, 1), (4, .istore_n 3, 1), (5, .iload_n 2, 1), (6, .iload_n 3, 1), (7, .if_icmp .ge 13, 3), (10, .aload_n 0, 1), (11, .iload_n 2, 1), (12, .iload_n 1, 1), (13, .iastore, 1), (14, .iinc 2 1, 3), (17, .goto (-12), 3), (20, .return_, 1)]
theorem dc_J7_fill_53178 : DEC prog_21_method_103_code pc_J7_fill_53178 dl_J7_fill_53178 := DEC_of (by decide +kernel)
abbrev rm_J7_fill_53178 : Room := { frames := 0, cells := 0, slots := 0, locals := 0 }
set_option maxRecDepth 20000 in
theorem sa_J7_fill_53178 (l : Launch) : SNDALL l prog_21_method_103_code "java/util/Arrays" 4 none rm_J7_fill_53178 P_J7_fill_53178 pc_J7_fill_53178 := fun p e s m args below meth c cells slots Q D dA ad A RR hC hR => by
  have hM := RTX_room (R := rm_J7_fill_53178) hR
  exact ⟨st_iconst hC (n := 0) (x := 0) (dc_J7_fill_53178 0 (0, .iconst 0, 1) rfl rfl) rfl (by decide),
    st_istore_n hC (n := 1) (k := 2) (dc_J7_fill_53178 1 (1, .istore_n 2, 1) rfl rfl) rfl rfl (by decide),
    st_aload_n hC (n := 2) (k := 0) (dc_J7_fill_53178 2 (2, .aload_n 0, 1) rfl rfl) rfl rfl,
    st_alen hC (n := 3) (dc_J7_fill_53178 3 (3, .arraylength, 1) rfl rfl) rfl,
    st_istore_n hC (n := 4) (k := 3) (dc_J7_fill_53178 4 (4, .istore_n 3, 1) rfl rfl) rfl rfl (by decide),
    st_iload_n hC (n := 5) (k := 2) (dc_J7_fill_53178 5 (5, .iload_n 2, 1) rfl rfl) rfl rfl,
    st_iload_n hC (n := 6) (k := 3) (dc_J7_fill_53178 6 (6, .iload_n 3, 1) rfl rfl) rfl rfl,
    st_icge hC (n := 7) (dc_J7_fill_53178 7 (7, .if_icmp .ge 13, 3) rfl rfl) rfl (by decide),
    st_aload_n hC (n := 8) (k := 0) (dc_J7_fill_53178 8 (10, .aload_n 0, 1) rfl rfl) rfl rfl,
    st_iload_n hC (n := 9) (k := 2) (dc_J7_fill_53178 9 (11, .iload_n 2, 1) rfl rfl) rfl rfl,
    st_iload_n hC (n := 10) (k := 1) (dc_J7_fill_53178 10 (12, .iload_n 1, 1) rfl rfl) rfl rfl,
    st_iast hC (n := 11) (dc_J7_fill_53178 11 (13, .iastore, 1) rfl rfl) rfl,
    st_iinc hC (n := 12) (x := 1) (dc_J7_fill_53178 12 (14, .iinc 2 1, 3) rfl rfl) rfl (by decide) (by decide),
    st_goto hC (n := 13) (dc_J7_fill_53178 13 (17, .goto (-12), 3) rfl rfl) (by decide),
    st_vret hC (n := 14) hR (dc_J7_fill_53178 14 (20, .return_, 1) rfl rfl), trivial⟩
set_option maxRecDepth 8000 in
theorem vc_J7_fill_53178 : VC P_J7_fill_53178 4 Pre_J7_fill_53178 Fn_J7_fill_53178 := by
  rintro mm as hom hoa ⟨k, g, hk, v, rfl⟩
  refine ⟨Nat.le_of_ble_eq_true rfl, fun X h => ?_⟩
  replace h : RUN P_J7_fill_53178 (fun r m' => (r, m') = (none, mRow mm k g (flR (mm.1 k g) v (alen k)))) X := h
  have hk2 : k = 14 ∨ k = 16 ∨ k = 17 ∨ k = 18 ∨ k = 19 ∨ k = 21 ∨ k = 31 ∨ k = 37 ∨ k = 38 ∨ k = 39 := by
    unfold FLK at hk
    simp at hk
    exact hk
  rcases hk2 with rfl | rfl | rfl | rfl | rfl | rfl | rfl | rfl | rfl | rfl
  · have e : alen 14 = 4 := rfl
    rw [e] at h
    have loop : ∀ i, i ≤ 4 → X 5 [some (vR 14 g), some (vI (v)), some (vI (nI i)), some (vI (nI 4))] [] (mRow mm 14 g (flR (mm.1 14 g) v i)) := by
      refine up_ind 4 ?_ (fun i hi ih => ?_)
      ·
        show X 5 [some (vR 14 g), some (vI v), some (vI (nI 4)), some (vI (nI 4))] [] (mRow mm 14 g (flR (mm.1 14 g) v 4))
        refine h (fun _ => false) 3000 5 _ _ _ ?_
        refine br_t (show nI 4 ≤ nI 4 from Int32.le_refl _) ?_
        show ((none : Option MV), mRow mm 14 g (flR (mm.1 14 g) v 4)) = _
        exact rfl
      · have ei : (nI i).toNatClampNeg = i := nI_clamp (by omega)
        show X 5 [some (vR 14 g), some (vI v), some (vI (nI i)), some (vI (nI 4))] [] (mRow mm 14 g (flR (mm.1 14 g) v i))
        refine h (fun i => Nat.beq i 5) 3000 5 _ _ _ ?_
        refine br_f (show ¬ (nI 4 ≤ nI i) from show ¬ nI 4 ≤ nI i from nI_ge hi (by omega)) ?_
        refine And.intro (show inb (nI i) (alen 14) = true from (inb_o 4 rfl rfl rfl (by omega))) ?_
        show X 5 [some (vR 14 g), some (vI v), some (vI ((nI i) + 1)), some (vI (nI 4))] [] (mRow (mRow mm 14 g (flR (mm.1 14 g) v i)) 14 g (upd ((mRow mm 14 g (flR (mm.1 14 g) v i)).1 14 g) (nI i).toNatClampNeg v))
        rw [ei, mRow2, mRow_row, flR_s, nI_1]
        exact ih
    have l0 := loop 0 (by omega)
    rw [flR_0, mRow_self] at l0
    show X 0 [some (vR 14 g), some (vI v), none, none] [] mm
    refine h (fun i => Nat.beq i 5) 3000 0 _ _ _ ?_
    show X 5 [some (vR 14 g), some (vI v), some (vI 0), some (vI (Int32.ofNat (alen 14)))] [] mm
    exact l0
  · have e : alen 16 = 4 := rfl
    rw [e] at h
    have loop : ∀ i, i ≤ 4 → X 5 [some (vR 16 g), some (vI (v)), some (vI (nI i)), some (vI (nI 4))] [] (mRow mm 16 g (flR (mm.1 16 g) v i)) := by
      refine up_ind 4 ?_ (fun i hi ih => ?_)
      ·
        show X 5 [some (vR 16 g), some (vI v), some (vI (nI 4)), some (vI (nI 4))] [] (mRow mm 16 g (flR (mm.1 16 g) v 4))
        refine h (fun _ => false) 3000 5 _ _ _ ?_
        refine br_t (show nI 4 ≤ nI 4 from Int32.le_refl _) ?_
        show ((none : Option MV), mRow mm 16 g (flR (mm.1 16 g) v 4)) = _
        exact rfl
      · have ei : (nI i).toNatClampNeg = i := nI_clamp (by omega)
        show X 5 [some (vR 16 g), some (vI v), some (vI (nI i)), some (vI (nI 4))] [] (mRow mm 16 g (flR (mm.1 16 g) v i))
        refine h (fun i => Nat.beq i 5) 3000 5 _ _ _ ?_
        refine br_f (show ¬ (nI 4 ≤ nI i) from show ¬ nI 4 ≤ nI i from nI_ge hi (by omega)) ?_
        refine And.intro (show inb (nI i) (alen 16) = true from (inb_o 4 rfl rfl rfl (by omega))) ?_
        show X 5 [some (vR 16 g), some (vI v), some (vI ((nI i) + 1)), some (vI (nI 4))] [] (mRow (mRow mm 16 g (flR (mm.1 16 g) v i)) 16 g (upd ((mRow mm 16 g (flR (mm.1 16 g) v i)).1 16 g) (nI i).toNatClampNeg v))
        rw [ei, mRow2, mRow_row, flR_s, nI_1]
        exact ih
    have l0 := loop 0 (by omega)
    rw [flR_0, mRow_self] at l0
    show X 0 [some (vR 16 g), some (vI v), none, none] [] mm
    refine h (fun i => Nat.beq i 5) 3000 0 _ _ _ ?_
    show X 5 [some (vR 16 g), some (vI v), some (vI 0), some (vI (Int32.ofNat (alen 16)))] [] mm
    exact l0
  · have e : alen 17 = 4 := rfl
    rw [e] at h
    have loop : ∀ i, i ≤ 4 → X 5 [some (vR 17 g), some (vI (v)), some (vI (nI i)), some (vI (nI 4))] [] (mRow mm 17 g (flR (mm.1 17 g) v i)) := by
      refine up_ind 4 ?_ (fun i hi ih => ?_)
      ·
        show X 5 [some (vR 17 g), some (vI v), some (vI (nI 4)), some (vI (nI 4))] [] (mRow mm 17 g (flR (mm.1 17 g) v 4))
        refine h (fun _ => false) 3000 5 _ _ _ ?_
        refine br_t (show nI 4 ≤ nI 4 from Int32.le_refl _) ?_
        show ((none : Option MV), mRow mm 17 g (flR (mm.1 17 g) v 4)) = _
        exact rfl
      · have ei : (nI i).toNatClampNeg = i := nI_clamp (by omega)
        show X 5 [some (vR 17 g), some (vI v), some (vI (nI i)), some (vI (nI 4))] [] (mRow mm 17 g (flR (mm.1 17 g) v i))
        refine h (fun i => Nat.beq i 5) 3000 5 _ _ _ ?_
        refine br_f (show ¬ (nI 4 ≤ nI i) from show ¬ nI 4 ≤ nI i from nI_ge hi (by omega)) ?_
        refine And.intro (show inb (nI i) (alen 17) = true from (inb_o 4 rfl rfl rfl (by omega))) ?_
        show X 5 [some (vR 17 g), some (vI v), some (vI ((nI i) + 1)), some (vI (nI 4))] [] (mRow (mRow mm 17 g (flR (mm.1 17 g) v i)) 17 g (upd ((mRow mm 17 g (flR (mm.1 17 g) v i)).1 17 g) (nI i).toNatClampNeg v))
        rw [ei, mRow2, mRow_row, flR_s, nI_1]
        exact ih
    have l0 := loop 0 (by omega)
    rw [flR_0, mRow_self] at l0
    show X 0 [some (vR 17 g), some (vI v), none, none] [] mm
    refine h (fun i => Nat.beq i 5) 3000 0 _ _ _ ?_
    show X 5 [some (vR 17 g), some (vI v), some (vI 0), some (vI (Int32.ofNat (alen 17)))] [] mm
    exact l0
  · have e : alen 18 = 4 := rfl
    rw [e] at h
    have loop : ∀ i, i ≤ 4 → X 5 [some (vR 18 g), some (vI (v)), some (vI (nI i)), some (vI (nI 4))] [] (mRow mm 18 g (flR (mm.1 18 g) v i)) := by
      refine up_ind 4 ?_ (fun i hi ih => ?_)
      ·
        show X 5 [some (vR 18 g), some (vI v), some (vI (nI 4)), some (vI (nI 4))] [] (mRow mm 18 g (flR (mm.1 18 g) v 4))
        refine h (fun _ => false) 3000 5 _ _ _ ?_
        refine br_t (show nI 4 ≤ nI 4 from Int32.le_refl _) ?_
        show ((none : Option MV), mRow mm 18 g (flR (mm.1 18 g) v 4)) = _
        exact rfl
      · have ei : (nI i).toNatClampNeg = i := nI_clamp (by omega)
        show X 5 [some (vR 18 g), some (vI v), some (vI (nI i)), some (vI (nI 4))] [] (mRow mm 18 g (flR (mm.1 18 g) v i))
        refine h (fun i => Nat.beq i 5) 3000 5 _ _ _ ?_
        refine br_f (show ¬ (nI 4 ≤ nI i) from show ¬ nI 4 ≤ nI i from nI_ge hi (by omega)) ?_
        refine And.intro (show inb (nI i) (alen 18) = true from (inb_o 4 rfl rfl rfl (by omega))) ?_
        show X 5 [some (vR 18 g), some (vI v), some (vI ((nI i) + 1)), some (vI (nI 4))] [] (mRow (mRow mm 18 g (flR (mm.1 18 g) v i)) 18 g (upd ((mRow mm 18 g (flR (mm.1 18 g) v i)).1 18 g) (nI i).toNatClampNeg v))
        rw [ei, mRow2, mRow_row, flR_s, nI_1]
        exact ih
    have l0 := loop 0 (by omega)
    rw [flR_0, mRow_self] at l0
    show X 0 [some (vR 18 g), some (vI v), none, none] [] mm
    refine h (fun i => Nat.beq i 5) 3000 0 _ _ _ ?_
    show X 5 [some (vR 18 g), some (vI v), some (vI 0), some (vI (Int32.ofNat (alen 18)))] [] mm
    exact l0
  · have e : alen 19 = 4 := rfl
    rw [e] at h
    have loop : ∀ i, i ≤ 4 → X 5 [some (vR 19 g), some (vI (v)), some (vI (nI i)), some (vI (nI 4))] [] (mRow mm 19 g (flR (mm.1 19 g) v i)) := by
      refine up_ind 4 ?_ (fun i hi ih => ?_)
      ·
        show X 5 [some (vR 19 g), some (vI v), some (vI (nI 4)), some (vI (nI 4))] [] (mRow mm 19 g (flR (mm.1 19 g) v 4))
        refine h (fun _ => false) 3000 5 _ _ _ ?_
        refine br_t (show nI 4 ≤ nI 4 from Int32.le_refl _) ?_
        show ((none : Option MV), mRow mm 19 g (flR (mm.1 19 g) v 4)) = _
        exact rfl
      · have ei : (nI i).toNatClampNeg = i := nI_clamp (by omega)
        show X 5 [some (vR 19 g), some (vI v), some (vI (nI i)), some (vI (nI 4))] [] (mRow mm 19 g (flR (mm.1 19 g) v i))
        refine h (fun i => Nat.beq i 5) 3000 5 _ _ _ ?_
        refine br_f (show ¬ (nI 4 ≤ nI i) from show ¬ nI 4 ≤ nI i from nI_ge hi (by omega)) ?_
        refine And.intro (show inb (nI i) (alen 19) = true from (inb_o 4 rfl rfl rfl (by omega))) ?_
        show X 5 [some (vR 19 g), some (vI v), some (vI ((nI i) + 1)), some (vI (nI 4))] [] (mRow (mRow mm 19 g (flR (mm.1 19 g) v i)) 19 g (upd ((mRow mm 19 g (flR (mm.1 19 g) v i)).1 19 g) (nI i).toNatClampNeg v))
        rw [ei, mRow2, mRow_row, flR_s, nI_1]
        exact ih
    have l0 := loop 0 (by omega)
    rw [flR_0, mRow_self] at l0
    show X 0 [some (vR 19 g), some (vI v), none, none] [] mm
    refine h (fun i => Nat.beq i 5) 3000 0 _ _ _ ?_
    show X 5 [some (vR 19 g), some (vI v), some (vI 0), some (vI (Int32.ofNat (alen 19)))] [] mm
    exact l0
  · have e : alen 21 = 5 := rfl
    rw [e] at h
    have loop : ∀ i, i ≤ 5 → X 5 [some (vR 21 g), some (vI (v)), some (vI (nI i)), some (vI (nI 5))] [] (mRow mm 21 g (flR (mm.1 21 g) v i)) := by
      refine up_ind 5 ?_ (fun i hi ih => ?_)
      ·
        show X 5 [some (vR 21 g), some (vI v), some (vI (nI 5)), some (vI (nI 5))] [] (mRow mm 21 g (flR (mm.1 21 g) v 5))
        refine h (fun _ => false) 3000 5 _ _ _ ?_
        refine br_t (show nI 5 ≤ nI 5 from Int32.le_refl _) ?_
        show ((none : Option MV), mRow mm 21 g (flR (mm.1 21 g) v 5)) = _
        exact rfl
      · have ei : (nI i).toNatClampNeg = i := nI_clamp (by omega)
        show X 5 [some (vR 21 g), some (vI v), some (vI (nI i)), some (vI (nI 5))] [] (mRow mm 21 g (flR (mm.1 21 g) v i))
        refine h (fun i => Nat.beq i 5) 3000 5 _ _ _ ?_
        refine br_f (show ¬ (nI 5 ≤ nI i) from show ¬ nI 5 ≤ nI i from nI_ge hi (by omega)) ?_
        refine And.intro (show inb (nI i) (alen 21) = true from (inb_o 5 rfl rfl rfl (by omega))) ?_
        show X 5 [some (vR 21 g), some (vI v), some (vI ((nI i) + 1)), some (vI (nI 5))] [] (mRow (mRow mm 21 g (flR (mm.1 21 g) v i)) 21 g (upd ((mRow mm 21 g (flR (mm.1 21 g) v i)).1 21 g) (nI i).toNatClampNeg v))
        rw [ei, mRow2, mRow_row, flR_s, nI_1]
        exact ih
    have l0 := loop 0 (by omega)
    rw [flR_0, mRow_self] at l0
    show X 0 [some (vR 21 g), some (vI v), none, none] [] mm
    refine h (fun i => Nat.beq i 5) 3000 0 _ _ _ ?_
    show X 5 [some (vR 21 g), some (vI v), some (vI 0), some (vI (Int32.ofNat (alen 21)))] [] mm
    exact l0
  · have e : alen 31 = 16 := rfl
    rw [e] at h
    have loop : ∀ i, i ≤ 16 → X 5 [some (vR 31 g), some (vI (v)), some (vI (nI i)), some (vI (nI 16))] [] (mRow mm 31 g (flR (mm.1 31 g) v i)) := by
      refine up_ind 16 ?_ (fun i hi ih => ?_)
      ·
        show X 5 [some (vR 31 g), some (vI v), some (vI (nI 16)), some (vI (nI 16))] [] (mRow mm 31 g (flR (mm.1 31 g) v 16))
        refine h (fun _ => false) 3000 5 _ _ _ ?_
        refine br_t (show nI 16 ≤ nI 16 from Int32.le_refl _) ?_
        show ((none : Option MV), mRow mm 31 g (flR (mm.1 31 g) v 16)) = _
        exact rfl
      · have ei : (nI i).toNatClampNeg = i := nI_clamp (by omega)
        show X 5 [some (vR 31 g), some (vI v), some (vI (nI i)), some (vI (nI 16))] [] (mRow mm 31 g (flR (mm.1 31 g) v i))
        refine h (fun i => Nat.beq i 5) 3000 5 _ _ _ ?_
        refine br_f (show ¬ (nI 16 ≤ nI i) from show ¬ nI 16 ≤ nI i from nI_ge hi (by omega)) ?_
        refine And.intro (show inb (nI i) (alen 31) = true from (inb_o 16 rfl rfl rfl (by omega))) ?_
        show X 5 [some (vR 31 g), some (vI v), some (vI ((nI i) + 1)), some (vI (nI 16))] [] (mRow (mRow mm 31 g (flR (mm.1 31 g) v i)) 31 g (upd ((mRow mm 31 g (flR (mm.1 31 g) v i)).1 31 g) (nI i).toNatClampNeg v))
        rw [ei, mRow2, mRow_row, flR_s, nI_1]
        exact ih
    have l0 := loop 0 (by omega)
    rw [flR_0, mRow_self] at l0
    show X 0 [some (vR 31 g), some (vI v), none, none] [] mm
    refine h (fun i => Nat.beq i 5) 3000 0 _ _ _ ?_
    show X 5 [some (vR 31 g), some (vI v), some (vI 0), some (vI (Int32.ofNat (alen 31)))] [] mm
    exact l0
  · have e : alen 37 = 12 := rfl
    rw [e] at h
    have loop : ∀ i, i ≤ 12 → X 5 [some (vR 37 g), some (vI (v)), some (vI (nI i)), some (vI (nI 12))] [] (mRow mm 37 g (flR (mm.1 37 g) v i)) := by
      refine up_ind 12 ?_ (fun i hi ih => ?_)
      ·
        show X 5 [some (vR 37 g), some (vI v), some (vI (nI 12)), some (vI (nI 12))] [] (mRow mm 37 g (flR (mm.1 37 g) v 12))
        refine h (fun _ => false) 3000 5 _ _ _ ?_
        refine br_t (show nI 12 ≤ nI 12 from Int32.le_refl _) ?_
        show ((none : Option MV), mRow mm 37 g (flR (mm.1 37 g) v 12)) = _
        exact rfl
      · have ei : (nI i).toNatClampNeg = i := nI_clamp (by omega)
        show X 5 [some (vR 37 g), some (vI v), some (vI (nI i)), some (vI (nI 12))] [] (mRow mm 37 g (flR (mm.1 37 g) v i))
        refine h (fun i => Nat.beq i 5) 3000 5 _ _ _ ?_
        refine br_f (show ¬ (nI 12 ≤ nI i) from show ¬ nI 12 ≤ nI i from nI_ge hi (by omega)) ?_
        refine And.intro (show inb (nI i) (alen 37) = true from (inb_o 12 rfl rfl rfl (by omega))) ?_
        show X 5 [some (vR 37 g), some (vI v), some (vI ((nI i) + 1)), some (vI (nI 12))] [] (mRow (mRow mm 37 g (flR (mm.1 37 g) v i)) 37 g (upd ((mRow mm 37 g (flR (mm.1 37 g) v i)).1 37 g) (nI i).toNatClampNeg v))
        rw [ei, mRow2, mRow_row, flR_s, nI_1]
        exact ih
    have l0 := loop 0 (by omega)
    rw [flR_0, mRow_self] at l0
    show X 0 [some (vR 37 g), some (vI v), none, none] [] mm
    refine h (fun i => Nat.beq i 5) 3000 0 _ _ _ ?_
    show X 5 [some (vR 37 g), some (vI v), some (vI 0), some (vI (Int32.ofNat (alen 37)))] [] mm
    exact l0
  · have e : alen 38 = 12 := rfl
    rw [e] at h
    have loop : ∀ i, i ≤ 12 → X 5 [some (vR 38 g), some (vI (v)), some (vI (nI i)), some (vI (nI 12))] [] (mRow mm 38 g (flR (mm.1 38 g) v i)) := by
      refine up_ind 12 ?_ (fun i hi ih => ?_)
      ·
        show X 5 [some (vR 38 g), some (vI v), some (vI (nI 12)), some (vI (nI 12))] [] (mRow mm 38 g (flR (mm.1 38 g) v 12))
        refine h (fun _ => false) 3000 5 _ _ _ ?_
        refine br_t (show nI 12 ≤ nI 12 from Int32.le_refl _) ?_
        show ((none : Option MV), mRow mm 38 g (flR (mm.1 38 g) v 12)) = _
        exact rfl
      · have ei : (nI i).toNatClampNeg = i := nI_clamp (by omega)
        show X 5 [some (vR 38 g), some (vI v), some (vI (nI i)), some (vI (nI 12))] [] (mRow mm 38 g (flR (mm.1 38 g) v i))
        refine h (fun i => Nat.beq i 5) 3000 5 _ _ _ ?_
        refine br_f (show ¬ (nI 12 ≤ nI i) from show ¬ nI 12 ≤ nI i from nI_ge hi (by omega)) ?_
        refine And.intro (show inb (nI i) (alen 38) = true from (inb_o 12 rfl rfl rfl (by omega))) ?_
        show X 5 [some (vR 38 g), some (vI v), some (vI ((nI i) + 1)), some (vI (nI 12))] [] (mRow (mRow mm 38 g (flR (mm.1 38 g) v i)) 38 g (upd ((mRow mm 38 g (flR (mm.1 38 g) v i)).1 38 g) (nI i).toNatClampNeg v))
        rw [ei, mRow2, mRow_row, flR_s, nI_1]
        exact ih
    have l0 := loop 0 (by omega)
    rw [flR_0, mRow_self] at l0
    show X 0 [some (vR 38 g), some (vI v), none, none] [] mm
    refine h (fun i => Nat.beq i 5) 3000 0 _ _ _ ?_
    show X 5 [some (vR 38 g), some (vI v), some (vI 0), some (vI (Int32.ofNat (alen 38)))] [] mm
    exact l0
  · have e : alen 39 = 48 := rfl
    rw [e] at h
    have loop : ∀ i, i ≤ 48 → X 5 [some (vR 39 g), some (vI (v)), some (vI (nI i)), some (vI (nI 48))] [] (mRow mm 39 g (flR (mm.1 39 g) v i)) := by
      refine up_ind 48 ?_ (fun i hi ih => ?_)
      ·
        show X 5 [some (vR 39 g), some (vI v), some (vI (nI 48)), some (vI (nI 48))] [] (mRow mm 39 g (flR (mm.1 39 g) v 48))
        refine h (fun _ => false) 3000 5 _ _ _ ?_
        refine br_t (show nI 48 ≤ nI 48 from Int32.le_refl _) ?_
        show ((none : Option MV), mRow mm 39 g (flR (mm.1 39 g) v 48)) = _
        exact rfl
      · have ei : (nI i).toNatClampNeg = i := nI_clamp (by omega)
        show X 5 [some (vR 39 g), some (vI v), some (vI (nI i)), some (vI (nI 48))] [] (mRow mm 39 g (flR (mm.1 39 g) v i))
        refine h (fun i => Nat.beq i 5) 3000 5 _ _ _ ?_
        refine br_f (show ¬ (nI 48 ≤ nI i) from show ¬ nI 48 ≤ nI i from nI_ge hi (by omega)) ?_
        refine And.intro (show inb (nI i) (alen 39) = true from (inb_o 48 rfl rfl rfl (by omega))) ?_
        show X 5 [some (vR 39 g), some (vI v), some (vI ((nI i) + 1)), some (vI (nI 48))] [] (mRow (mRow mm 39 g (flR (mm.1 39 g) v i)) 39 g (upd ((mRow mm 39 g (flR (mm.1 39 g) v i)).1 39 g) (nI i).toNatClampNeg v))
        rw [ei, mRow2, mRow_row, flR_s, nI_1]
        exact ih
    have l0 := loop 0 (by omega)
    rw [flR_0, mRow_self] at l0
    show X 0 [some (vR 39 g), some (vI v), none, none] [] mm
    refine h (fun i => Nat.beq i 5) 3000 0 _ _ _ ?_
    show X 5 [some (vR 39 g), some (vI v), some (vI 0), some (vI (Int32.ofNat (alen 39)))] [] mm
    exact l0
theorem con_J7_fill_53178 (l : Launch) : CON l y_J7_fill_53178 prog_21_method_103_code 4 none rm_J7_fill_53178 Pre_J7_fill_53178 Fn_J7_fill_53178 := CON_ofF (by decide +kernel) rfl rfl (sa_J7_fill_53178 l) vc_J7_fill_53178
def Pre_J7_fill_d0a16 : PreT := fun _ as => ∃ (k g : Nat), (k = 29 ∨ k = 28) ∧ ∃ v : Int64, as = [vR k g, vL v]
def Fn_J7_fill_d0a16 : FnT := fun m as => match as with
  | [Sum.inr (Sum.inr q), Sum.inr (Sum.inl v)] => (none, mRowL m q.1 q.2 (flQ (m.2.1 q.1 q.2) v (alen q.1)))
  | _ => (none, m)
abbrev y_J7_fill_d0a16 : MethodName := ⟨"java/util/Arrays", "fill", "([JJ)V"⟩
def P_J7_fill_d0a16 : List StpT := [s_ic (0), s_istore 3, s_aload 0, s_alen, s_istore 4, s_iload 3, s_iload 4, s_icge 14, s_aload 0, s_iload 3, s_lload 1, s_last, s_iinc 3 (1), s_goto 5, s_vret]
def pc_J7_fill_d0a16 : Nat → Nat := fun i => [0, 1, 2, 3, 4, 6, 7, 9, 12, 13, 14, 15, 16, 19, 22].getD i 0
def dl_J7_fill_d0a16 : List (Nat × Instr × Nat) := [(0, .iconst 0, 1), (1, .istore_n 3, 1), (2, .aload_n 0, 1), (3, .arraylength, 1), (4, .istore 4, 2), (6, .iload_n 3, 1), (7, .iload 4, 2), (9, .if_icmp .ge 13, 3), (12, .aload_n 0, 1), (13, .iload_n 3, 1), (14, .lload_n 1, 1), (15, .lastore, 1), (16, .iinc 3 1, 3), (19, .goto (-13), 3), (22, .return_, 1)]
theorem dc_J7_fill_d0a16 : DEC prog_21_method_101_code pc_J7_fill_d0a16 dl_J7_fill_d0a16 := DEC_of (by decide +kernel)
abbrev rm_J7_fill_d0a16 : Room := { frames := 0, cells := 0, slots := 0, locals := 0 }
set_option maxRecDepth 20000 in
theorem sa_J7_fill_d0a16 (l : Launch) : SNDALL l prog_21_method_101_code "java/util/Arrays" 5 none rm_J7_fill_d0a16 P_J7_fill_d0a16 pc_J7_fill_d0a16 := fun p e s m args below meth c cells slots Q D dA ad A RR hC hR => by
  have hM := RTX_room (R := rm_J7_fill_d0a16) hR
  exact ⟨st_iconst hC (n := 0) (x := 0) (dc_J7_fill_d0a16 0 (0, .iconst 0, 1) rfl rfl) rfl (by decide),
    st_istore_n hC (n := 1) (k := 3) (dc_J7_fill_d0a16 1 (1, .istore_n 3, 1) rfl rfl) rfl rfl (by decide),
    st_aload_n hC (n := 2) (k := 0) (dc_J7_fill_d0a16 2 (2, .aload_n 0, 1) rfl rfl) rfl rfl,
    st_alen hC (n := 3) (dc_J7_fill_d0a16 3 (3, .arraylength, 1) rfl rfl) rfl,
    st_istore hC (n := 4) (dc_J7_fill_d0a16 4 (4, .istore 4, 2) rfl rfl) rfl (by decide),
    st_iload_n hC (n := 5) (k := 3) (dc_J7_fill_d0a16 5 (6, .iload_n 3, 1) rfl rfl) rfl rfl,
    st_iload hC (n := 6) (dc_J7_fill_d0a16 6 (7, .iload 4, 2) rfl rfl) rfl,
    st_icge hC (n := 7) (dc_J7_fill_d0a16 7 (9, .if_icmp .ge 13, 3) rfl rfl) rfl (by decide),
    st_aload_n hC (n := 8) (k := 0) (dc_J7_fill_d0a16 8 (12, .aload_n 0, 1) rfl rfl) rfl rfl,
    st_iload_n hC (n := 9) (k := 3) (dc_J7_fill_d0a16 9 (13, .iload_n 3, 1) rfl rfl) rfl rfl,
    st_lload_n hC (n := 10) (k := 1) (dc_J7_fill_d0a16 10 (14, .lload_n 1, 1) rfl rfl) rfl rfl,
    st_last hC (n := 11) (dc_J7_fill_d0a16 11 (15, .lastore, 1) rfl rfl) rfl,
    st_iinc hC (n := 12) (x := 1) (dc_J7_fill_d0a16 12 (16, .iinc 3 1, 3) rfl rfl) rfl (by decide) (by decide),
    st_goto hC (n := 13) (dc_J7_fill_d0a16 13 (19, .goto (-13), 3) rfl rfl) (by decide),
    st_vret hC (n := 14) hR (dc_J7_fill_d0a16 14 (22, .return_, 1) rfl rfl), trivial⟩
set_option maxRecDepth 8000 in
theorem vc_J7_fill_d0a16 : VC P_J7_fill_d0a16 5 Pre_J7_fill_d0a16 Fn_J7_fill_d0a16 := by
  rintro mm as hom hoa ⟨k, g, hk, v, rfl⟩
  refine ⟨Nat.le_of_ble_eq_true rfl, fun X h => ?_⟩
  replace h : RUN P_J7_fill_d0a16 (fun r m' => (r, m') = (none, mRowL mm k g (flQ (mm.2.1 k g) v (alen k)))) X := h
  rcases hk with rfl | rfl
  · have e : alen 29 = 20 := rfl
    rw [e] at h
    have loop : ∀ i, i ≤ 20 → X 5 [some (vR 29 g), some (vL (v)), none, some (vI (nI i)), some (vI (nI 20))] [] (mRowL mm 29 g (flQ (mm.2.1 29 g) v i)) := by
      refine up_ind 20 ?_ (fun i hi ih => ?_)
      ·
        show X 5 [some (vR 29 g), some (vL v), none, some (vI (nI 20)), some (vI (nI 20))] [] (mRowL mm 29 g (flQ (mm.2.1 29 g) v 20))
        refine h (fun _ => false) 3000 5 _ _ _ ?_
        refine br_t (show nI 20 ≤ nI 20 from Int32.le_refl _) ?_
        show ((none : Option MV), mRowL mm 29 g (flQ (mm.2.1 29 g) v 20)) = _
        exact rfl
      · have ei : (nI i).toNatClampNeg = i := nI_clamp (by omega)
        show X 5 [some (vR 29 g), some (vL v), none, some (vI (nI i)), some (vI (nI 20))] [] (mRowL mm 29 g (flQ (mm.2.1 29 g) v i))
        refine h (fun i => Nat.beq i 5) 3000 5 _ _ _ ?_
        refine br_f (show ¬ (nI 20 ≤ nI i) from show ¬ nI 20 ≤ nI i from nI_ge hi (by omega)) ?_
        refine And.intro (show inb (nI i) (alen 29) = true from (inb_o 20 rfl rfl rfl (by omega))) ?_
        show X 5 [some (vR 29 g), some (vL v), none, some (vI ((nI i) + 1)), some (vI (nI 20))] [] (mRowL (mRowL mm 29 g (flQ (mm.2.1 29 g) v i)) 29 g (vp_updL ((mRowL mm 29 g (flQ (mm.2.1 29 g) v i)).2.1 29 g) (nI i).toNatClampNeg v))
        rw [ei, mRowL2, mRowL_row, flQ_s, nI_1]
        exact ih
    have l0 := loop 0 (by omega)
    rw [flQ_0, mRowL_self] at l0
    show X 0 [some (vR 29 g), some (vL v), none, none, none] [] mm
    refine h (fun i => Nat.beq i 5) 3000 0 _ _ _ ?_
    show X 5 [some (vR 29 g), some (vL v), none, some (vI 0), some (vI (Int32.ofNat (alen 29)))] [] mm
    exact l0
  · have e : alen 28 = 60 := rfl
    rw [e] at h
    have loop : ∀ i, i ≤ 60 → X 5 [some (vR 28 g), some (vL (v)), none, some (vI (nI i)), some (vI (nI 60))] [] (mRowL mm 28 g (flQ (mm.2.1 28 g) v i)) := by
      refine up_ind 60 ?_ (fun i hi ih => ?_)
      ·
        show X 5 [some (vR 28 g), some (vL v), none, some (vI (nI 60)), some (vI (nI 60))] [] (mRowL mm 28 g (flQ (mm.2.1 28 g) v 60))
        refine h (fun _ => false) 3000 5 _ _ _ ?_
        refine br_t (show nI 60 ≤ nI 60 from Int32.le_refl _) ?_
        show ((none : Option MV), mRowL mm 28 g (flQ (mm.2.1 28 g) v 60)) = _
        exact rfl
      · have ei : (nI i).toNatClampNeg = i := nI_clamp (by omega)
        show X 5 [some (vR 28 g), some (vL v), none, some (vI (nI i)), some (vI (nI 60))] [] (mRowL mm 28 g (flQ (mm.2.1 28 g) v i))
        refine h (fun i => Nat.beq i 5) 3000 5 _ _ _ ?_
        refine br_f (show ¬ (nI 60 ≤ nI i) from show ¬ nI 60 ≤ nI i from nI_ge hi (by omega)) ?_
        refine And.intro (show inb (nI i) (alen 28) = true from (inb_o 60 rfl rfl rfl (by omega))) ?_
        show X 5 [some (vR 28 g), some (vL v), none, some (vI ((nI i) + 1)), some (vI (nI 60))] [] (mRowL (mRowL mm 28 g (flQ (mm.2.1 28 g) v i)) 28 g (vp_updL ((mRowL mm 28 g (flQ (mm.2.1 28 g) v i)).2.1 28 g) (nI i).toNatClampNeg v))
        rw [ei, mRowL2, mRowL_row, flQ_s, nI_1]
        exact ih
    have l0 := loop 0 (by omega)
    rw [flQ_0, mRowL_self] at l0
    show X 0 [some (vR 28 g), some (vL v), none, none, none] [] mm
    refine h (fun i => Nat.beq i 5) 3000 0 _ _ _ ?_
    show X 5 [some (vR 28 g), some (vL v), none, some (vI 0), some (vI (Int32.ofNat (alen 28)))] [] mm
    exact l0
theorem con_J7_fill_d0a16 (l : Launch) : CON l y_J7_fill_d0a16 prog_21_method_101_code 5 none rm_J7_fill_d0a16 Pre_J7_fill_d0a16 Fn_J7_fill_d0a16 := CON_ofF (by decide +kernel) rfl rfl (sa_J7_fill_d0a16 l) vc_J7_fill_d0a16
