/-! PART 21: the model: rows, sets -/

/-- what is told of a valley, as the model lays it: how many of each, and what is safe -/
def VA (a : Nat → Int32) (ns nm nt : Nat) : Prop :=
  (a 0 = nI ns ∧ ns ≤ 4) ∧ (a 1 = nI nm ∧ nm ≤ 4) ∧ (a 2 = nI nt ∧ nt ≤ 12) ∧ (∀ j, j < nt → ∃ o, o < ns ∧ a (44 + 3 * j) = nI o) ∧ (∃ w, 1 ≤ w ∧ w ≤ 9 ∧ a 4 = nI w) ∧ (∃ f, 1 ≤ f ∧ f ≤ 20 ∧ a 5 = nI f)
def VM (m : MM) : Prop := ∃ ns nm nt, VA (m.1 54 0) ns nm nt
/-- the set of the THINGS of a SUITOR, of the first j -/
def gds (a : Nat → Int32) (s : Int32) : Nat → Int32
  | 0 => 0
  | j + 1 => gds a s j ||| (if a (44 + 3 * j) = s then 1 <<< (nI j &&& 31) else 0)
/-- is the bit k in the set -/
abbrev inS (set : Int32) (k : Int32) : Prop := (set >>> (k &&& 31)) &&& 1 = 1
def wth (a : Nat → Int32) (set : Int32) : Nat → Int32
  | 0 => 0
  | j + 1 => wth a set j + (if inS set (nI j) then a (45 + 3 * j) else 0)
def sayS (a : Nat → Int32) (set : Int32) (d : Nat) : Nat → Int32
  | 0 => 0
  | j + 1 => sayS a set d j + (if inS set (nI j) then a (80 + 4 * j + d) else 0)
/-- of the whole valley -/
def thA (a : Nat → Int32) (s : Int32) : Int32 := gds a s (a 2).toNatClampNeg
def wtA (a : Nat → Int32) (set : Int32) : Int32 := wth a set (a 2).toNatClampNeg
def syA (a : Nat → Int32) (set : Int32) (d : Nat) : Int32 := sayS a set d (a 2).toNatClampNeg
def hdA (a : Nat → Int32) (s : Int32) (d : Nat) : Int32 := syA a (thA a s &&& (a 8 ||| a 9)) d
def lsA' (a : Nat → Int32) (s : Int32) : Int32 := wtA a (thA a s &&& a 8)
def brA (a : Nat → Int32) (d : Nat) (w : Int32) : Int32 := a (28 + 4 * d) + a (29 + 4 * d) * w

def Pre_X12_thingRow : PreT := fun _ as => ∃ t : Int32, as = [vI t]
def Fn_X12_thingRow : FnT := fun m as => match as with
  | [Sum.inl t] => (some (vI (44 + 3 * t)), m)
  | _ => (none, m)
abbrev y_X12_thingRow : MethodName := ⟨"GivenUpModel", "thingRow", "(I)I"⟩
def P_X12_thingRow : List StpT := [s_ic (44), s_ic (3), s_iload 0, s_imul, s_iadd, s_iret]
def pc_X12_thingRow : Nat → Nat := fun i => [0, 2, 3, 4, 5, 6].getD i 0
def dl_X12_thingRow : List (Nat × Instr × Nat) := [(0, .bipush 44, 2), (2, .iconst 3, 1), (3, .iload_n 0, 1), (4, .imul, 1), (5, .iadd, 1), (6, .ireturn, 1)]
theorem dc_X12_thingRow : DEC prog_14_method_58_code pc_X12_thingRow dl_X12_thingRow := DEC_of (by decide +kernel)
abbrev rm_X12_thingRow : Room := { frames := 0, cells := 0, slots := 0, locals := 0 }
set_option maxRecDepth 20000 in
theorem sa_X12_thingRow (l : Launch) : SNDALL l prog_14_method_58_code "GivenUpModel" 1 (some .int) rm_X12_thingRow P_X12_thingRow pc_X12_thingRow := fun p e s m args below meth c cells slots Q D dA ad A RR hC hR => by
  have hM := RTX_room (R := rm_X12_thingRow) hR
  exact ⟨st_bipush hC (n := 0) (x := 44) (dc_X12_thingRow 0 (0, .bipush 44, 2) rfl rfl) rfl (by decide),
    st_iconst hC (n := 1) (x := 3) (dc_X12_thingRow 1 (2, .iconst 3, 1) rfl rfl) rfl (by decide),
    st_iload_n hC (n := 2) (k := 0) (dc_X12_thingRow 2 (3, .iload_n 0, 1) rfl rfl) rfl rfl,
    st_imul hC (n := 3) (dc_X12_thingRow 3 (4, .imul, 1) rfl rfl) rfl,
    st_iadd hC (n := 4) (dc_X12_thingRow 4 (5, .iadd, 1) rfl rfl) rfl,
    st_iret hC (n := 5) hR (dc_X12_thingRow 5 (6, .ireturn, 1) rfl rfl), trivial⟩
theorem vc_X12_thingRow : VC P_X12_thingRow 1 Pre_X12_thingRow Fn_X12_thingRow := by
  rintro mm as hom hoa ⟨t, rfl⟩
  refine ⟨Nat.le_of_ble_eq_true rfl, fun X h => ?_⟩
  refine h (fun _ => false) 3000 0 _ _ _ ?_
  exact rfl
theorem con_X12_thingRow (l : Launch) : CON l y_X12_thingRow prog_14_method_58_code 1 (some .int) rm_X12_thingRow Pre_X12_thingRow Fn_X12_thingRow := CON_of (by decide) rfl rfl (sa_X12_thingRow l) vc_X12_thingRow
def Pre_X12_suitorRow : PreT := fun _ as => ∃ t : Int32, as = [vI t]
def Fn_X12_suitorRow : FnT := fun m as => match as with
  | [Sum.inl t] => (some (vI (12 + 4 * t)), m)
  | _ => (none, m)
abbrev y_X12_suitorRow : MethodName := ⟨"GivenUpModel", "suitorRow", "(I)I"⟩
def P_X12_suitorRow : List StpT := [s_ic (12), s_ic (4), s_iload 0, s_imul, s_iadd, s_iret]
def pc_X12_suitorRow : Nat → Nat := fun i => [0, 2, 3, 4, 5, 6].getD i 0
def dl_X12_suitorRow : List (Nat × Instr × Nat) := [(0, .bipush 12, 2), (2, .iconst 4, 1), (3, .iload_n 0, 1), (4, .imul, 1), (5, .iadd, 1), (6, .ireturn, 1)]
theorem dc_X12_suitorRow : DEC prog_14_method_56_code pc_X12_suitorRow dl_X12_suitorRow := DEC_of (by decide +kernel)
abbrev rm_X12_suitorRow : Room := { frames := 0, cells := 0, slots := 0, locals := 0 }
set_option maxRecDepth 20000 in
theorem sa_X12_suitorRow (l : Launch) : SNDALL l prog_14_method_56_code "GivenUpModel" 1 (some .int) rm_X12_suitorRow P_X12_suitorRow pc_X12_suitorRow := fun p e s m args below meth c cells slots Q D dA ad A RR hC hR => by
  have hM := RTX_room (R := rm_X12_suitorRow) hR
  exact ⟨st_bipush hC (n := 0) (x := 12) (dc_X12_suitorRow 0 (0, .bipush 12, 2) rfl rfl) rfl (by decide),
    st_iconst hC (n := 1) (x := 4) (dc_X12_suitorRow 1 (2, .iconst 4, 1) rfl rfl) rfl (by decide),
    st_iload_n hC (n := 2) (k := 0) (dc_X12_suitorRow 2 (3, .iload_n 0, 1) rfl rfl) rfl rfl,
    st_imul hC (n := 3) (dc_X12_suitorRow 3 (4, .imul, 1) rfl rfl) rfl,
    st_iadd hC (n := 4) (dc_X12_suitorRow 4 (5, .iadd, 1) rfl rfl) rfl,
    st_iret hC (n := 5) hR (dc_X12_suitorRow 5 (6, .ireturn, 1) rfl rfl), trivial⟩
theorem vc_X12_suitorRow : VC P_X12_suitorRow 1 Pre_X12_suitorRow Fn_X12_suitorRow := by
  rintro mm as hom hoa ⟨t, rfl⟩
  refine ⟨Nat.le_of_ble_eq_true rfl, fun X h => ?_⟩
  refine h (fun _ => false) 3000 0 _ _ _ ?_
  exact rfl
theorem con_X12_suitorRow (l : Launch) : CON l y_X12_suitorRow prog_14_method_56_code 1 (some .int) rm_X12_suitorRow Pre_X12_suitorRow Fn_X12_suitorRow := CON_of (by decide) rfl rfl (sa_X12_suitorRow l) vc_X12_suitorRow
def Pre_X12_maidRow : PreT := fun _ as => ∃ t : Int32, as = [vI t]
def Fn_X12_maidRow : FnT := fun m as => match as with
  | [Sum.inl t] => (some (vI (28 + 4 * t)), m)
  | _ => (none, m)
abbrev y_X12_maidRow : MethodName := ⟨"GivenUpModel", "maidRow", "(I)I"⟩
def P_X12_maidRow : List StpT := [s_ic (28), s_ic (4), s_iload 0, s_imul, s_iadd, s_iret]
def pc_X12_maidRow : Nat → Nat := fun i => [0, 2, 3, 4, 5, 6].getD i 0
def dl_X12_maidRow : List (Nat × Instr × Nat) := [(0, .bipush 28, 2), (2, .iconst 4, 1), (3, .iload_n 0, 1), (4, .imul, 1), (5, .iadd, 1), (6, .ireturn, 1)]
theorem dc_X12_maidRow : DEC prog_14_method_57_code pc_X12_maidRow dl_X12_maidRow := DEC_of (by decide +kernel)
abbrev rm_X12_maidRow : Room := { frames := 0, cells := 0, slots := 0, locals := 0 }
set_option maxRecDepth 20000 in
theorem sa_X12_maidRow (l : Launch) : SNDALL l prog_14_method_57_code "GivenUpModel" 1 (some .int) rm_X12_maidRow P_X12_maidRow pc_X12_maidRow := fun p e s m args below meth c cells slots Q D dA ad A RR hC hR => by
  have hM := RTX_room (R := rm_X12_maidRow) hR
  exact ⟨st_bipush hC (n := 0) (x := 28) (dc_X12_maidRow 0 (0, .bipush 28, 2) rfl rfl) rfl (by decide),
    st_iconst hC (n := 1) (x := 4) (dc_X12_maidRow 1 (2, .iconst 4, 1) rfl rfl) rfl (by decide),
    st_iload_n hC (n := 2) (k := 0) (dc_X12_maidRow 2 (3, .iload_n 0, 1) rfl rfl) rfl rfl,
    st_imul hC (n := 3) (dc_X12_maidRow 3 (4, .imul, 1) rfl rfl) rfl,
    st_iadd hC (n := 4) (dc_X12_maidRow 4 (5, .iadd, 1) rfl rfl) rfl,
    st_iret hC (n := 5) hR (dc_X12_maidRow 5 (6, .ireturn, 1) rfl rfl), trivial⟩
theorem vc_X12_maidRow : VC P_X12_maidRow 1 Pre_X12_maidRow Fn_X12_maidRow := by
  rintro mm as hom hoa ⟨t, rfl⟩
  refine ⟨Nat.le_of_ble_eq_true rfl, fun X h => ?_⟩
  refine h (fun _ => false) 3000 0 _ _ _ ?_
  exact rfl
theorem con_X12_maidRow (l : Launch) : CON l y_X12_maidRow prog_14_method_57_code 1 (some .int) rm_X12_maidRow Pre_X12_maidRow Fn_X12_maidRow := CON_of (by decide) rfl rfl (sa_X12_maidRow l) vc_X12_maidRow
def Pre_X12_ownerOf : PreT := fun _ as => ∃ j : Nat, j < 12 ∧ as = [vR 12 0, vI (nI j)]
def Fn_X12_ownerOf : FnT := fun m as => match as with
  | [_, Sum.inl t] => (some (vI (m.1 54 0 (44 + 3 * t.toNatClampNeg))), m)
  | _ => (none, m)
abbrev y_X12_ownerOf : MethodName := ⟨"GivenUpModel", "ownerOf", "(I)I"⟩
def P_X12_ownerOf : List StpT := [s_aload 0, s_getR 12 0 54, s_iload 1, s_callS 1 Pre_X12_thingRow Fn_X12_thingRow, s_iald, s_iret]
def pc_X12_ownerOf : Nat → Nat := fun i => [0, 1, 4, 5, 8, 9].getD i 0
def dl_X12_ownerOf : List (Nat × Instr × Nat) := [(0, .aload_n 0, 1), (1, .getfield 7, 3), (4, .iload_n 1, 1), (5, .invokestatic 271, 3), (8, .iaload, 1), (9, .ireturn, 1)]
theorem dc_X12_ownerOf : DEC prog_14_method_65_code pc_X12_ownerOf dl_X12_ownerOf := DEC_of (by decide +kernel)
abbrev rm_X12_ownerOf : Room := { frames := 1, cells := 0, slots := 0, locals := 20 }
set_option maxRecDepth 20000 in
theorem sa_X12_ownerOf (l : Launch) : SNDALL l prog_14_method_65_code "GivenUpModel" 2 (some .int) rm_X12_ownerOf P_X12_ownerOf pc_X12_ownerOf := fun p e s m args below meth c cells slots Q D dA ad A RR hC hR => by
  have hM := RTX_room (R := rm_X12_ownerOf) hR
  exact ⟨st_aload_n hC (n := 0) (k := 0) (dc_X12_ownerOf 0 (0, .aload_n 0, 1) rfl rfl) rfl rfl,
    st_getR hC (n := 1) (k := 12) (j := 0) (dc_X12_ownerOf 1 (1, .getfield 7, 3) rfl rfl) rfl clf_12 (by decide) rfl (by decide) wd_1552,
    st_iload_n hC (n := 2) (k := 1) (dc_X12_ownerOf 2 (4, .iload_n 1, 1) rfl rfl) rfl rfl,
    st_callS hC (n := 3) (na := 1) (con_X12_thingRow l) (dc_X12_ownerOf 3 (5, .invokestatic 271, 3) rfl rfl) rfl wd_1899 wd_160 (by decide) ⟨rfl, rfl, by decide, by decide⟩ hM wd_1897 wd_1898,
    st_iald hC (n := 4) (dc_X12_ownerOf 4 (8, .iaload, 1) rfl rfl) rfl,
    st_iret hC (n := 5) hR (dc_X12_ownerOf 5 (9, .ireturn, 1) rfl rfl), trivial⟩
theorem vc_X12_ownerOf : VC P_X12_ownerOf 2 Pre_X12_ownerOf Fn_X12_ownerOf := by
  rintro mm as hom hoa ⟨j, hj, rfl⟩
  refine ⟨Nat.le_of_ble_eq_true rfl, fun X h => ?_⟩
  refine h (fun _ => false) 3000 0 _ _ _ ?_
  refine And.intro ⟨_, rfl⟩ ?_
  repeat' (first | refine And.intro (by (first | exact rfl | exact Or.inl rfl | exact Or.inr rfl | exact bI_in | exact inb_o 3060 rfl rfl (by (try simp (disch := omega) only [li, pk_mul, nI_add, nI_clamp]); rfl) (by omega) | exact inb_o 12 rfl rfl (by (try simp (disch := omega) only [li, pk_mul, nI_add, nI_clamp]); rfl) (by omega) | exact inb_o 4 rfl rfl (by (try simp (disch := omega) only [li, pk_mul, nI_add, nI_clamp]); rfl) (by omega) | exact inb_o 5 rfl rfl (by (try simp (disch := omega) only [li, pk_mul, nI_add, nI_clamp]); rfl) (by omega) | exact inb_o 16 rfl rfl (by (try simp (disch := omega) only [li, pk_mul, nI_add, nI_clamp]); rfl) (by omega) | exact inb_o 20 rfl rfl (by (try simp (disch := omega) only [li, pk_mul, nI_add, nI_clamp]); rfl) (by omega) | exact inb_o 30 rfl rfl (by (try simp (disch := omega) only [li, pk_mul, nI_add, nI_clamp]); rfl) (by omega) | exact inb_o 48 rfl rfl (by (try simp (disch := omega) only [li, pk_mul, nI_add, nI_clamp]); rfl) (by omega) | exact inb_o 60 rfl rfl (by (try simp (disch := omega) only [li, pk_mul, nI_add, nI_clamp]); rfl) (by omega) | exact inb_o 80 rfl rfl (by (try simp (disch := omega) only [li, pk_mul, nI_add, nI_clamp]); rfl) (by omega) | exact inb_o 120 rfl rfl (by (try simp (disch := omega) only [li, pk_mul, nI_add, nI_clamp]); rfl) (by omega) | exact inb_o 240 rfl rfl (by (try simp (disch := omega) only [li, pk_mul, nI_add, nI_clamp]); rfl) (by omega) | exact inb_o 900 rfl rfl (by (try simp (disch := omega) only [li, pk_mul, nI_add, nI_clamp]); rfl) (by omega) | exact inb_o 4096 rfl rfl (by (try simp (disch := omega) only [li, pk_mul, nI_add, nI_clamp]); rfl) (by omega) | exact inb_o 3 rfl rfl (by (try simp (disch := omega) only [li, pk_mul, nI_add, nI_clamp]); rfl) (by omega))) ?_ | refine br_t (by ((try simp (disch := omega) only [li, pk_mul, nI_add, nI_clamp, nI_leI, nI_ltI, nI_eq, bI_0, bI_n0, Decidable.not_not, gu_m1]); first | done | omega | assumption)) ?_ | refine br_f (by ((try simp (disch := omega) only [li, pk_mul, nI_add, nI_clamp, nI_leI, nI_ltI, nI_eq, bI_0, bI_n0, Decidable.not_not, gu_m1]); first | done | omega | assumption)) ?_ | refine brn_t (by ((try simp (disch := omega) only [li, pk_mul, nI_add, nI_clamp, nI_leI, nI_ltI, nI_eq, bI_0, bI_n0, Decidable.not_not, gu_m1]); first | done | omega | assumption)) ?_ | refine brn_f (by ((try simp (disch := omega) only [li, pk_mul, nI_add, nI_clamp, nI_leI, nI_ltI, nI_eq, bI_0, bI_n0, Decidable.not_not, gu_m1]); first | done | omega | assumption)) ?_ | refine br_c (fun _ => ?_) (fun _ => ?_) | refine brn_c (fun _ => ?_) (fun _ => ?_))
  (refine leaf ?_; simp (disch := omega) only [Fn_X12_thingRow, Fn_X12_ownerOf, li, pk_mul, nI_add, nI_clamp])
theorem con_X12_ownerOf (l : Launch) : CON l y_X12_ownerOf prog_14_method_65_code 2 (some .int) rm_X12_ownerOf Pre_X12_ownerOf Fn_X12_ownerOf := CON_of (by decide) rfl rfl (sa_X12_ownerOf l) vc_X12_ownerOf
def Pre_X12_aheadOf : PreT := fun _ as => ∃ j : Nat, j < 12 ∧ as = [vR 12 0, vI (nI j)]
def Fn_X12_aheadOf : FnT := fun m as => match as with
  | [_, Sum.inl t] => (some (vI (m.1 54 0 (46 + 3 * t.toNatClampNeg))), m)
  | _ => (none, m)
abbrev y_X12_aheadOf : MethodName := ⟨"GivenUpModel", "aheadOf", "(I)I"⟩
def P_X12_aheadOf : List StpT := [s_aload 0, s_getR 12 0 54, s_iload 1, s_callS 1 Pre_X12_thingRow Fn_X12_thingRow, s_ic (2), s_iadd, s_iald, s_iret]
def pc_X12_aheadOf : Nat → Nat := fun i => [0, 1, 4, 5, 8, 9, 10, 11].getD i 0
def dl_X12_aheadOf : List (Nat × Instr × Nat) := [(0, .aload_n 0, 1), (1, .getfield 7, 3), (4, .iload_n 1, 1), (5, .invokestatic 271, 3), (8, .iconst 2, 1), (9, .iadd, 1), (10, .iaload, 1), (11, .ireturn, 1)]
theorem dc_X12_aheadOf : DEC prog_14_method_66_code pc_X12_aheadOf dl_X12_aheadOf := DEC_of (by decide +kernel)
abbrev rm_X12_aheadOf : Room := { frames := 1, cells := 0, slots := 0, locals := 20 }
set_option maxRecDepth 20000 in
theorem sa_X12_aheadOf (l : Launch) : SNDALL l prog_14_method_66_code "GivenUpModel" 2 (some .int) rm_X12_aheadOf P_X12_aheadOf pc_X12_aheadOf := fun p e s m args below meth c cells slots Q D dA ad A RR hC hR => by
  have hM := RTX_room (R := rm_X12_aheadOf) hR
  exact ⟨st_aload_n hC (n := 0) (k := 0) (dc_X12_aheadOf 0 (0, .aload_n 0, 1) rfl rfl) rfl rfl,
    st_getR hC (n := 1) (k := 12) (j := 0) (dc_X12_aheadOf 1 (1, .getfield 7, 3) rfl rfl) rfl clf_12 (by decide) rfl (by decide) wd_1552,
    st_iload_n hC (n := 2) (k := 1) (dc_X12_aheadOf 2 (4, .iload_n 1, 1) rfl rfl) rfl rfl,
    st_callS hC (n := 3) (na := 1) (con_X12_thingRow l) (dc_X12_aheadOf 3 (5, .invokestatic 271, 3) rfl rfl) rfl wd_1899 wd_160 (by decide) ⟨rfl, rfl, by decide, by decide⟩ hM wd_1897 wd_1898,
    st_iconst hC (n := 4) (x := 2) (dc_X12_aheadOf 4 (8, .iconst 2, 1) rfl rfl) rfl (by decide),
    st_iadd hC (n := 5) (dc_X12_aheadOf 5 (9, .iadd, 1) rfl rfl) rfl,
    st_iald hC (n := 6) (dc_X12_aheadOf 6 (10, .iaload, 1) rfl rfl) rfl,
    st_iret hC (n := 7) hR (dc_X12_aheadOf 7 (11, .ireturn, 1) rfl rfl), trivial⟩
theorem vc_X12_aheadOf : VC P_X12_aheadOf 2 Pre_X12_aheadOf Fn_X12_aheadOf := by
  rintro mm as hom hoa ⟨j, hj, rfl⟩
  refine ⟨Nat.le_of_ble_eq_true rfl, fun X h => ?_⟩
  refine h (fun _ => false) 3000 0 _ _ _ ?_
  refine And.intro ⟨_, rfl⟩ ?_
  repeat' (first | refine And.intro (by (first | exact rfl | exact Or.inl rfl | exact Or.inr rfl | exact bI_in | exact inb_o 3060 rfl rfl (by (try simp (disch := omega) only [li, pk_mul, nI_add, nI_clamp]); rfl) (by omega) | exact inb_o 12 rfl rfl (by (try simp (disch := omega) only [li, pk_mul, nI_add, nI_clamp]); rfl) (by omega) | exact inb_o 4 rfl rfl (by (try simp (disch := omega) only [li, pk_mul, nI_add, nI_clamp]); rfl) (by omega) | exact inb_o 5 rfl rfl (by (try simp (disch := omega) only [li, pk_mul, nI_add, nI_clamp]); rfl) (by omega) | exact inb_o 16 rfl rfl (by (try simp (disch := omega) only [li, pk_mul, nI_add, nI_clamp]); rfl) (by omega) | exact inb_o 20 rfl rfl (by (try simp (disch := omega) only [li, pk_mul, nI_add, nI_clamp]); rfl) (by omega) | exact inb_o 30 rfl rfl (by (try simp (disch := omega) only [li, pk_mul, nI_add, nI_clamp]); rfl) (by omega) | exact inb_o 48 rfl rfl (by (try simp (disch := omega) only [li, pk_mul, nI_add, nI_clamp]); rfl) (by omega) | exact inb_o 60 rfl rfl (by (try simp (disch := omega) only [li, pk_mul, nI_add, nI_clamp]); rfl) (by omega) | exact inb_o 80 rfl rfl (by (try simp (disch := omega) only [li, pk_mul, nI_add, nI_clamp]); rfl) (by omega) | exact inb_o 120 rfl rfl (by (try simp (disch := omega) only [li, pk_mul, nI_add, nI_clamp]); rfl) (by omega) | exact inb_o 240 rfl rfl (by (try simp (disch := omega) only [li, pk_mul, nI_add, nI_clamp]); rfl) (by omega) | exact inb_o 900 rfl rfl (by (try simp (disch := omega) only [li, pk_mul, nI_add, nI_clamp]); rfl) (by omega) | exact inb_o 4096 rfl rfl (by (try simp (disch := omega) only [li, pk_mul, nI_add, nI_clamp]); rfl) (by omega) | exact inb_o 3 rfl rfl (by (try simp (disch := omega) only [li, pk_mul, nI_add, nI_clamp]); rfl) (by omega))) ?_ | refine br_t (by ((try simp (disch := omega) only [li, pk_mul, nI_add, nI_clamp, nI_leI, nI_ltI, nI_eq, bI_0, bI_n0, Decidable.not_not, gu_m1]); first | done | omega | assumption)) ?_ | refine br_f (by ((try simp (disch := omega) only [li, pk_mul, nI_add, nI_clamp, nI_leI, nI_ltI, nI_eq, bI_0, bI_n0, Decidable.not_not, gu_m1]); first | done | omega | assumption)) ?_ | refine brn_t (by ((try simp (disch := omega) only [li, pk_mul, nI_add, nI_clamp, nI_leI, nI_ltI, nI_eq, bI_0, bI_n0, Decidable.not_not, gu_m1]); first | done | omega | assumption)) ?_ | refine brn_f (by ((try simp (disch := omega) only [li, pk_mul, nI_add, nI_clamp, nI_leI, nI_ltI, nI_eq, bI_0, bI_n0, Decidable.not_not, gu_m1]); first | done | omega | assumption)) ?_ | refine br_c (fun _ => ?_) (fun _ => ?_) | refine brn_c (fun _ => ?_) (fun _ => ?_))
  (refine leaf ?_; simp (disch := omega) only [Fn_X12_thingRow, Fn_X12_aheadOf, show 44 + 3 * j + 2 = 46 + 3 * j by omega, li, pk_mul, nI_add, nI_clamp])
theorem con_X12_aheadOf (l : Launch) : CON l y_X12_aheadOf prog_14_method_66_code 2 (some .int) rm_X12_aheadOf Pre_X12_aheadOf Fn_X12_aheadOf := CON_of (by decide) rfl rfl (sa_X12_aheadOf l) vc_X12_aheadOf
def Pre_X12_isIn : PreT := fun _ as => ∃ x y : Int32, as = [vR 12 0, vI x, vI y]
def Fn_X12_isIn : FnT := fun m as => match as with
  | [_, Sum.inl x, Sum.inl y] => (some (vI (bI (inS x y))), m)
  | _ => (none, m)
abbrev y_X12_isIn : MethodName := ⟨"GivenUpModel", "isIn", "(II)Z"⟩
def P_X12_isIn : List StpT := [s_iload 1, s_iload 2, s_ishr, s_ic (1), s_iand, s_ic (1), s_icne 9, s_ic (1), s_goto 10, s_ic (0), s_zret]
def pc_X12_isIn : Nat → Nat := fun i => [0, 1, 2, 3, 4, 5, 6, 9, 10, 13, 14].getD i 0
def dl_X12_isIn : List (Nat × Instr × Nat) := [(0, .iload_n 1, 1), (1, .iload_n 2, 1), (2, .ishr, 1), (3, .iconst 1, 1), (4, .iand, 1), (5, .iconst 1, 1), (6, .if_icmp .ne 7, 3), (9, .iconst 1, 1), (10, .goto 4, 3), (13, .iconst 0, 1), (14, .ireturn, 1)]
theorem dc_X12_isIn : DEC prog_14_method_63_code pc_X12_isIn dl_X12_isIn := DEC_of (by decide +kernel)
abbrev rm_X12_isIn : Room := { frames := 0, cells := 0, slots := 0, locals := 0 }
set_option maxRecDepth 20000 in
theorem sa_X12_isIn (l : Launch) : SNDALL l prog_14_method_63_code "GivenUpModel" 3 (some .boolean) rm_X12_isIn P_X12_isIn pc_X12_isIn := fun p e s m args below meth c cells slots Q D dA ad A RR hC hR => by
  have hM := RTX_room (R := rm_X12_isIn) hR
  exact ⟨st_iload_n hC (n := 0) (k := 1) (dc_X12_isIn 0 (0, .iload_n 1, 1) rfl rfl) rfl rfl,
    st_iload_n hC (n := 1) (k := 2) (dc_X12_isIn 1 (1, .iload_n 2, 1) rfl rfl) rfl rfl,
    st_ishr hC (n := 2) (dc_X12_isIn 2 (2, .ishr, 1) rfl rfl) rfl,
    st_iconst hC (n := 3) (x := 1) (dc_X12_isIn 3 (3, .iconst 1, 1) rfl rfl) rfl (by decide),
    st_iand hC (n := 4) (dc_X12_isIn 4 (4, .iand, 1) rfl rfl) rfl,
    st_iconst hC (n := 5) (x := 1) (dc_X12_isIn 5 (5, .iconst 1, 1) rfl rfl) rfl (by decide),
    st_icne hC (n := 6) (dc_X12_isIn 6 (6, .if_icmp .ne 7, 3) rfl rfl) rfl (by decide),
    st_iconst hC (n := 7) (x := 1) (dc_X12_isIn 7 (9, .iconst 1, 1) rfl rfl) rfl (by decide),
    st_goto hC (n := 8) (dc_X12_isIn 8 (10, .goto 4, 3) rfl rfl) (by decide),
    st_iconst hC (n := 9) (x := 0) (dc_X12_isIn 9 (13, .iconst 0, 1) rfl rfl) rfl (by decide),
    st_zret hC (n := 10) hR (dc_X12_isIn 10 (14, .ireturn, 1) rfl rfl), trivial⟩
theorem vc_X12_isIn : VC P_X12_isIn 3 Pre_X12_isIn Fn_X12_isIn := by
  rintro mm as hom hoa ⟨x, y, rfl⟩
  refine ⟨Nat.le_of_ble_eq_true rfl, fun X h => ?_⟩
  refine h (fun _ => false) 3000 0 _ _ _ ?_
  refine brn_c (fun h1 => ?_) (fun h1 => ?_)
  · exact And.intro (Or.inl rfl) (ret_f h1)
  · exact And.intro (Or.inr rfl) (ret_t h1)
theorem con_X12_isIn (l : Launch) : CON l y_X12_isIn prog_14_method_63_code 3 (some .boolean) rm_X12_isIn Pre_X12_isIn Fn_X12_isIn := CON_of (by decide) rfl rfl (sa_X12_isIn l) vc_X12_isIn
def Pre_X12_thingsOf : PreT := fun m as => VM m ∧ ∃ (s : Int32), as = [vR 12 0, vI s]
def Fn_X12_thingsOf : FnT := fun m as => match as with
  | [_, Sum.inl s] => (some (vI (thA (m.1 54 0) s)), m)
  | _ => (none, m)
abbrev y_X12_thingsOf : MethodName := ⟨"GivenUpModel", "thingsOf", "(I)I"⟩
def P_X12_thingsOf : List StpT := [s_ic (0), s_istore 2, s_ic (0), s_istore 3, s_iload 3, s_aload 0, s_getR 12 0 54, s_ic (2), s_iald, s_icge 25, s_iload 2, s_aload 0, s_iload 3, s_callV 12 1 Pre_X12_ownerOf Fn_X12_ownerOf, s_iload 1, s_icne 20, s_ic (1), s_iload 3, s_ishl, s_goto 21, s_ic (0), s_ior, s_istore 2, s_iinc 3 (1), s_goto 4, s_iload 2, s_iret]
def pc_X12_thingsOf : Nat → Nat := fun i => [0, 1, 2, 3, 4, 5, 6, 9, 10, 11, 14, 15, 16, 17, 20, 21, 24, 25, 26, 27, 30, 31, 32, 33, 36, 39, 40].getD i 0
def dl_X12_thingsOf : List (Nat × Instr × Nat) := [(0, .iconst 0, 1), (1, .istore_n 2, 1), (2, .iconst 0, 1), (3, .istore_n 3, 1), (4, .iload_n 3, 1), (5, .aload_n 0, 1), (6, .getfield 7, 3), (9, .iconst 2, 1), (10, .iaload, 1), (11, .if_icmp .ge 28, 3), (14, .iload_n 2, 1), (15, .aload_n 0, 1), (16, .iload_n 3, 1), (17, .invokevirtual 274, 3), (20, .iload_n 1, 1), (21, .if_icmp .ne 9, 3), (24, .iconst 1, 1), (25, .iload_n 3, 1), (26, .ishl, 1), (27, .goto 4, 3), (30, .iconst 0, 1), (31, .ior, 1), (32, .istore_n 2, 1), (33, .iinc 3 1, 3), (36, .goto (-32), 3), (39, .iload_n 2, 1), (40, .ireturn, 1)]
theorem dc_X12_thingsOf : DEC prog_14_method_67_code pc_X12_thingsOf dl_X12_thingsOf := DEC_of (by decide +kernel)
abbrev rm_X12_thingsOf : Room := { frames := 2, cells := 0, slots := 0, locals := 41 }
set_option maxRecDepth 20000 in
theorem sa_X12_thingsOf (l : Launch) : SNDALL l prog_14_method_67_code "GivenUpModel" 4 (some .int) rm_X12_thingsOf P_X12_thingsOf pc_X12_thingsOf := fun p e s m args below meth c cells slots Q D dA ad A RR hC hR => by
  have hM := RTX_room (R := rm_X12_thingsOf) hR
  exact ⟨st_iconst hC (n := 0) (x := 0) (dc_X12_thingsOf 0 (0, .iconst 0, 1) rfl rfl) rfl (by decide),
    st_istore_n hC (n := 1) (k := 2) (dc_X12_thingsOf 1 (1, .istore_n 2, 1) rfl rfl) rfl rfl (by decide),
    st_iconst hC (n := 2) (x := 0) (dc_X12_thingsOf 2 (2, .iconst 0, 1) rfl rfl) rfl (by decide),
    st_istore_n hC (n := 3) (k := 3) (dc_X12_thingsOf 3 (3, .istore_n 3, 1) rfl rfl) rfl rfl (by decide),
    st_iload_n hC (n := 4) (k := 3) (dc_X12_thingsOf 4 (4, .iload_n 3, 1) rfl rfl) rfl rfl,
    st_aload_n hC (n := 5) (k := 0) (dc_X12_thingsOf 5 (5, .aload_n 0, 1) rfl rfl) rfl rfl,
    st_getR hC (n := 6) (k := 12) (j := 0) (dc_X12_thingsOf 6 (6, .getfield 7, 3) rfl rfl) rfl clf_12 (by decide) rfl (by decide) wd_1552,
    st_iconst hC (n := 7) (x := 2) (dc_X12_thingsOf 7 (9, .iconst 2, 1) rfl rfl) rfl (by decide),
    st_iald hC (n := 8) (dc_X12_thingsOf 8 (10, .iaload, 1) rfl rfl) rfl,
    st_icge hC (n := 9) (dc_X12_thingsOf 9 (11, .if_icmp .ge 28, 3) rfl rfl) rfl (by decide),
    st_iload_n hC (n := 10) (k := 2) (dc_X12_thingsOf 10 (14, .iload_n 2, 1) rfl rfl) rfl rfl,
    st_aload_n hC (n := 11) (k := 0) (dc_X12_thingsOf 11 (15, .aload_n 0, 1) rfl rfl) rfl rfl,
    st_iload_n hC (n := 12) (k := 3) (dc_X12_thingsOf 12 (16, .iload_n 3, 1) rfl rfl) rfl rfl,
    st_callV hC (n := 13) (k := 12) (na := 1) (con_X12_ownerOf l) (dc_X12_thingsOf 13 (17, .invokevirtual 274, 3) rfl rfl) rfl wd_1896 wd_160 (by decide) ⟨rfl, rfl, by decide, by decide⟩ hM wd_1893 wd_1895 wd_87 clf_12,
    st_iload_n hC (n := 14) (k := 1) (dc_X12_thingsOf 14 (20, .iload_n 1, 1) rfl rfl) rfl rfl,
    st_icne hC (n := 15) (dc_X12_thingsOf 15 (21, .if_icmp .ne 9, 3) rfl rfl) rfl (by decide),
    st_iconst hC (n := 16) (x := 1) (dc_X12_thingsOf 16 (24, .iconst 1, 1) rfl rfl) rfl (by decide),
    st_iload_n hC (n := 17) (k := 3) (dc_X12_thingsOf 17 (25, .iload_n 3, 1) rfl rfl) rfl rfl,
    st_ishl hC (n := 18) (dc_X12_thingsOf 18 (26, .ishl, 1) rfl rfl) rfl,
    st_goto hC (n := 19) (dc_X12_thingsOf 19 (27, .goto 4, 3) rfl rfl) (by decide),
    st_iconst hC (n := 20) (x := 0) (dc_X12_thingsOf 20 (30, .iconst 0, 1) rfl rfl) rfl (by decide),
    st_ior hC (n := 21) (dc_X12_thingsOf 21 (31, .ior, 1) rfl rfl) rfl,
    st_istore_n hC (n := 22) (k := 2) (dc_X12_thingsOf 22 (32, .istore_n 2, 1) rfl rfl) rfl rfl (by decide),
    st_iinc hC (n := 23) (x := 1) (dc_X12_thingsOf 23 (33, .iinc 3 1, 3) rfl rfl) rfl (by decide) (by decide),
    st_goto hC (n := 24) (dc_X12_thingsOf 24 (36, .goto (-32), 3) rfl rfl) (by decide),
    st_iload_n hC (n := 25) (k := 2) (dc_X12_thingsOf 25 (39, .iload_n 2, 1) rfl rfl) rfl rfl,
    st_iret hC (n := 26) hR (dc_X12_thingsOf 26 (40, .ireturn, 1) rfl rfl), trivial⟩
theorem vc_X12_thingsOf : VC P_X12_thingsOf 4 Pre_X12_thingsOf Fn_X12_thingsOf := by
  rintro mm as hom hoa ⟨⟨ns, nm, n, ⟨-, -, ⟨hn, hn12⟩, -⟩⟩, s, rfl⟩
  refine ⟨Nat.le_of_ble_eq_true rfl, fun X h => ?_⟩
  have loop : ∀ t, t ≤ n → X 4 [some (vR 12 0), some (vI s), some (vI (gds (mm.1 54 0) s t)), some (vI (nI t))] [] mm := by
    refine up_ind n ?_ (fun t ht hk => ?_)
    · refine h (fun i => Nat.beq i 4) 3000 4 _ _ _ ?_
      repeat' (first | refine And.intro (by (first | exact rfl | exact Or.inl rfl | exact Or.inr rfl | exact bI_in | exact inb_o 3060 rfl rfl (by (try simp (disch := omega) only [hn, li, pk_mul, nI_add, nI_clamp]); rfl) (by omega) | exact inb_o 12 rfl rfl (by (try simp (disch := omega) only [hn, li, pk_mul, nI_add, nI_clamp]); rfl) (by omega) | exact inb_o 4 rfl rfl (by (try simp (disch := omega) only [hn, li, pk_mul, nI_add, nI_clamp]); rfl) (by omega) | exact inb_o 5 rfl rfl (by (try simp (disch := omega) only [hn, li, pk_mul, nI_add, nI_clamp]); rfl) (by omega) | exact inb_o 16 rfl rfl (by (try simp (disch := omega) only [hn, li, pk_mul, nI_add, nI_clamp]); rfl) (by omega) | exact inb_o 20 rfl rfl (by (try simp (disch := omega) only [hn, li, pk_mul, nI_add, nI_clamp]); rfl) (by omega) | exact inb_o 30 rfl rfl (by (try simp (disch := omega) only [hn, li, pk_mul, nI_add, nI_clamp]); rfl) (by omega) | exact inb_o 48 rfl rfl (by (try simp (disch := omega) only [hn, li, pk_mul, nI_add, nI_clamp]); rfl) (by omega) | exact inb_o 60 rfl rfl (by (try simp (disch := omega) only [hn, li, pk_mul, nI_add, nI_clamp]); rfl) (by omega) | exact inb_o 80 rfl rfl (by (try simp (disch := omega) only [hn, li, pk_mul, nI_add, nI_clamp]); rfl) (by omega) | exact inb_o 120 rfl rfl (by (try simp (disch := omega) only [hn, li, pk_mul, nI_add, nI_clamp]); rfl) (by omega) | exact inb_o 240 rfl rfl (by (try simp (disch := omega) only [hn, li, pk_mul, nI_add, nI_clamp]); rfl) (by omega) | exact inb_o 900 rfl rfl (by (try simp (disch := omega) only [hn, li, pk_mul, nI_add, nI_clamp]); rfl) (by omega) | exact inb_o 4096 rfl rfl (by (try simp (disch := omega) only [hn, li, pk_mul, nI_add, nI_clamp]); rfl) (by omega) | exact inb_o 3 rfl rfl (by (try simp (disch := omega) only [hn, li, pk_mul, nI_add, nI_clamp]); rfl) (by omega))) ?_ | refine br_t (by ((try simp (disch := omega) only [hn, li, pk_mul, nI_add, nI_clamp, nI_leI, nI_ltI, nI_eq, bI_0, bI_n0, Decidable.not_not, gu_m1]); first | done | omega | assumption)) ?_ | refine br_f (by ((try simp (disch := omega) only [hn, li, pk_mul, nI_add, nI_clamp, nI_leI, nI_ltI, nI_eq, bI_0, bI_n0, Decidable.not_not, gu_m1]); first | done | omega | assumption)) ?_ | refine brn_t (by ((try simp (disch := omega) only [hn, li, pk_mul, nI_add, nI_clamp, nI_leI, nI_ltI, nI_eq, bI_0, bI_n0, Decidable.not_not, gu_m1]); first | done | omega | assumption)) ?_ | refine brn_f (by ((try simp (disch := omega) only [hn, li, pk_mul, nI_add, nI_clamp, nI_leI, nI_ltI, nI_eq, bI_0, bI_n0, Decidable.not_not, gu_m1]); first | done | omega | assumption)) ?_ | refine br_c (fun _ => ?_) (fun _ => ?_) | refine brn_c (fun _ => ?_) (fun _ => ?_))
      (refine leaf ?_; simp (disch := omega) only [Fn_X12_thingsOf, thA, hn, li, pk_mul, nI_add, nI_clamp])
    · refine h (fun i => Nat.beq i 4) 3000 4 _ _ _ ?_
      repeat' (first | refine And.intro (by (first | exact rfl | exact Or.inl rfl | exact Or.inr rfl | exact bI_in | exact inb_o 3060 rfl rfl (by (try simp (disch := omega) only [hn, li, pk_mul, nI_add, nI_clamp]); rfl) (by omega) | exact inb_o 12 rfl rfl (by (try simp (disch := omega) only [hn, li, pk_mul, nI_add, nI_clamp]); rfl) (by omega) | exact inb_o 4 rfl rfl (by (try simp (disch := omega) only [hn, li, pk_mul, nI_add, nI_clamp]); rfl) (by omega) | exact inb_o 5 rfl rfl (by (try simp (disch := omega) only [hn, li, pk_mul, nI_add, nI_clamp]); rfl) (by omega) | exact inb_o 16 rfl rfl (by (try simp (disch := omega) only [hn, li, pk_mul, nI_add, nI_clamp]); rfl) (by omega) | exact inb_o 20 rfl rfl (by (try simp (disch := omega) only [hn, li, pk_mul, nI_add, nI_clamp]); rfl) (by omega) | exact inb_o 30 rfl rfl (by (try simp (disch := omega) only [hn, li, pk_mul, nI_add, nI_clamp]); rfl) (by omega) | exact inb_o 48 rfl rfl (by (try simp (disch := omega) only [hn, li, pk_mul, nI_add, nI_clamp]); rfl) (by omega) | exact inb_o 60 rfl rfl (by (try simp (disch := omega) only [hn, li, pk_mul, nI_add, nI_clamp]); rfl) (by omega) | exact inb_o 80 rfl rfl (by (try simp (disch := omega) only [hn, li, pk_mul, nI_add, nI_clamp]); rfl) (by omega) | exact inb_o 120 rfl rfl (by (try simp (disch := omega) only [hn, li, pk_mul, nI_add, nI_clamp]); rfl) (by omega) | exact inb_o 240 rfl rfl (by (try simp (disch := omega) only [hn, li, pk_mul, nI_add, nI_clamp]); rfl) (by omega) | exact inb_o 900 rfl rfl (by (try simp (disch := omega) only [hn, li, pk_mul, nI_add, nI_clamp]); rfl) (by omega) | exact inb_o 4096 rfl rfl (by (try simp (disch := omega) only [hn, li, pk_mul, nI_add, nI_clamp]); rfl) (by omega) | exact inb_o 3 rfl rfl (by (try simp (disch := omega) only [hn, li, pk_mul, nI_add, nI_clamp]); rfl) (by omega))) ?_ | refine br_t (by ((try simp (disch := omega) only [hn, li, pk_mul, nI_add, nI_clamp, nI_leI, nI_ltI, nI_eq, bI_0, bI_n0, Decidable.not_not, gu_m1]); first | done | omega | assumption)) ?_ | refine br_f (by ((try simp (disch := omega) only [hn, li, pk_mul, nI_add, nI_clamp, nI_leI, nI_ltI, nI_eq, bI_0, bI_n0, Decidable.not_not, gu_m1]); first | done | omega | assumption)) ?_ | refine brn_t (by ((try simp (disch := omega) only [hn, li, pk_mul, nI_add, nI_clamp, nI_leI, nI_ltI, nI_eq, bI_0, bI_n0, Decidable.not_not, gu_m1]); first | done | omega | assumption)) ?_ | refine brn_f (by ((try simp (disch := omega) only [hn, li, pk_mul, nI_add, nI_clamp, nI_leI, nI_ltI, nI_eq, bI_0, bI_n0, Decidable.not_not, gu_m1]); first | done | omega | assumption)) ?_ | refine br_c (fun _ => ?_) (fun _ => ?_) | refine brn_c (fun _ => ?_) (fun _ => ?_))
      refine And.intro ⟨t, by omega, rfl⟩ ?_
      repeat' (first | refine And.intro (by (first | exact rfl | exact Or.inl rfl | exact Or.inr rfl | exact bI_in | exact inb_o 3060 rfl rfl (by (try simp (disch := omega) only [hn, li, pk_mul, nI_add, nI_clamp]); rfl) (by omega) | exact inb_o 12 rfl rfl (by (try simp (disch := omega) only [hn, li, pk_mul, nI_add, nI_clamp]); rfl) (by omega) | exact inb_o 4 rfl rfl (by (try simp (disch := omega) only [hn, li, pk_mul, nI_add, nI_clamp]); rfl) (by omega) | exact inb_o 5 rfl rfl (by (try simp (disch := omega) only [hn, li, pk_mul, nI_add, nI_clamp]); rfl) (by omega) | exact inb_o 16 rfl rfl (by (try simp (disch := omega) only [hn, li, pk_mul, nI_add, nI_clamp]); rfl) (by omega) | exact inb_o 20 rfl rfl (by (try simp (disch := omega) only [hn, li, pk_mul, nI_add, nI_clamp]); rfl) (by omega) | exact inb_o 30 rfl rfl (by (try simp (disch := omega) only [hn, li, pk_mul, nI_add, nI_clamp]); rfl) (by omega) | exact inb_o 48 rfl rfl (by (try simp (disch := omega) only [hn, li, pk_mul, nI_add, nI_clamp]); rfl) (by omega) | exact inb_o 60 rfl rfl (by (try simp (disch := omega) only [hn, li, pk_mul, nI_add, nI_clamp]); rfl) (by omega) | exact inb_o 80 rfl rfl (by (try simp (disch := omega) only [hn, li, pk_mul, nI_add, nI_clamp]); rfl) (by omega) | exact inb_o 120 rfl rfl (by (try simp (disch := omega) only [hn, li, pk_mul, nI_add, nI_clamp]); rfl) (by omega) | exact inb_o 240 rfl rfl (by (try simp (disch := omega) only [hn, li, pk_mul, nI_add, nI_clamp]); rfl) (by omega) | exact inb_o 900 rfl rfl (by (try simp (disch := omega) only [hn, li, pk_mul, nI_add, nI_clamp]); rfl) (by omega) | exact inb_o 4096 rfl rfl (by (try simp (disch := omega) only [hn, li, pk_mul, nI_add, nI_clamp]); rfl) (by omega) | exact inb_o 3 rfl rfl (by (try simp (disch := omega) only [hn, li, pk_mul, nI_add, nI_clamp]); rfl) (by omega))) ?_ | refine br_t (by ((try simp (disch := omega) only [hn, li, pk_mul, nI_add, nI_clamp, nI_leI, nI_ltI, nI_eq, bI_0, bI_n0, Decidable.not_not, gu_m1]); first | done | omega | assumption)) ?_ | refine br_f (by ((try simp (disch := omega) only [hn, li, pk_mul, nI_add, nI_clamp, nI_leI, nI_ltI, nI_eq, bI_0, bI_n0, Decidable.not_not, gu_m1]); first | done | omega | assumption)) ?_ | refine brn_t (by ((try simp (disch := omega) only [hn, li, pk_mul, nI_add, nI_clamp, nI_leI, nI_ltI, nI_eq, bI_0, bI_n0, Decidable.not_not, gu_m1]); first | done | omega | assumption)) ?_ | refine brn_f (by ((try simp (disch := omega) only [hn, li, pk_mul, nI_add, nI_clamp, nI_leI, nI_ltI, nI_eq, bI_0, bI_n0, Decidable.not_not, gu_m1]); first | done | omega | assumption)) ?_ | refine br_c (fun _ => ?_) (fun _ => ?_) | refine brn_c (fun _ => ?_) (fun _ => ?_))
      · rename_i h1
        simp (disch := omega) only [li, pk_mul, nI_add, nI_clamp, nI_leI, nI_ltI, nI_eq, bI_0, bI_n0, Decidable.not_not, gu_m1] at h1
        rw [gds, if_neg h1, ← nI_1] at hk
        exact hk
      · rename_i h1
        simp (disch := omega) only [li, pk_mul, nI_add, nI_clamp, nI_leI, nI_ltI, nI_eq, bI_0, bI_n0, Decidable.not_not, gu_m1] at h1
        rw [gds, if_pos h1, ← nI_1] at hk
        exact hk
  refine h (fun i => Nat.beq i 4) 3000 0 _ _ _ ?_
  exact loop 0 (Nat.zero_le n)
theorem con_X12_thingsOf (l : Launch) : CON l y_X12_thingsOf prog_14_method_67_code 4 (some .int) rm_X12_thingsOf Pre_X12_thingsOf Fn_X12_thingsOf := CON_of (by decide) rfl rfl (sa_X12_thingsOf l) vc_X12_thingsOf
def Pre_X12_worthOf : PreT := fun m as => VM m ∧ ∃ (s : Int32), as = [vR 12 0, vI s]
def Fn_X12_worthOf : FnT := fun m as => match as with
  | [_, Sum.inl s] => (some (vI (wtA (m.1 54 0) s)), m)
  | _ => (none, m)
abbrev y_X12_worthOf : MethodName := ⟨"GivenUpModel", "worthOf", "(I)I"⟩
def P_X12_worthOf : List StpT := [s_ic (0), s_istore 2, s_ic (0), s_istore 3, s_iload 3, s_aload 0, s_getR 12 0 54, s_ic (2), s_iald, s_icge 29, s_iload 2, s_aload 0, s_iload 1, s_iload 3, s_callV 12 2 Pre_X12_isIn Fn_X12_isIn, s_ifeq 24, s_aload 0, s_getR 12 0 54, s_iload 3, s_callS 1 Pre_X12_thingRow Fn_X12_thingRow, s_ic (1), s_iadd, s_iald, s_goto 25, s_ic (0), s_iadd, s_istore 2, s_iinc 3 (1), s_goto 4, s_iload 2, s_iret]
def pc_X12_worthOf : Nat → Nat := fun i => [0, 1, 2, 3, 4, 5, 6, 9, 10, 11, 14, 15, 16, 17, 18, 21, 24, 25, 28, 29, 32, 33, 34, 35, 38, 39, 40, 41, 44, 47, 48].getD i 0
def dl_X12_worthOf : List (Nat × Instr × Nat) := [(0, .iconst 0, 1), (1, .istore_n 2, 1), (2, .iconst 0, 1), (3, .istore_n 3, 1), (4, .iload_n 3, 1), (5, .aload_n 0, 1), (6, .getfield 7, 3), (9, .iconst 2, 1), (10, .iaload, 1), (11, .if_icmp .ge 36, 3), (14, .iload_n 2, 1), (15, .aload_n 0, 1), (16, .iload_n 1, 1), (17, .iload_n 3, 1), (18, .invokevirtual 277, 3), (21, .ifCond .eq 17, 3), (24, .aload_n 0, 1), (25, .getfield 7, 3), (28, .iload_n 3, 1), (29, .invokestatic 271, 3), (32, .iconst 1, 1), (33, .iadd, 1), (34, .iaload, 1), (35, .goto 4, 3), (38, .iconst 0, 1), (39, .iadd, 1), (40, .istore_n 2, 1), (41, .iinc 3 1, 3), (44, .goto (-40), 3), (47, .iload_n 2, 1), (48, .ireturn, 1)]
theorem dc_X12_worthOf : DEC prog_14_method_68_code pc_X12_worthOf dl_X12_worthOf := DEC_of (by decide +kernel)
abbrev rm_X12_worthOf : Room := { frames := 1, cells := 0, slots := 0, locals := 22 }
set_option maxRecDepth 20000 in
theorem sa_X12_worthOf (l : Launch) : SNDALL l prog_14_method_68_code "GivenUpModel" 4 (some .int) rm_X12_worthOf P_X12_worthOf pc_X12_worthOf := fun p e s m args below meth c cells slots Q D dA ad A RR hC hR => by
  have hM := RTX_room (R := rm_X12_worthOf) hR
  exact ⟨st_iconst hC (n := 0) (x := 0) (dc_X12_worthOf 0 (0, .iconst 0, 1) rfl rfl) rfl (by decide),
    st_istore_n hC (n := 1) (k := 2) (dc_X12_worthOf 1 (1, .istore_n 2, 1) rfl rfl) rfl rfl (by decide),
    st_iconst hC (n := 2) (x := 0) (dc_X12_worthOf 2 (2, .iconst 0, 1) rfl rfl) rfl (by decide),
    st_istore_n hC (n := 3) (k := 3) (dc_X12_worthOf 3 (3, .istore_n 3, 1) rfl rfl) rfl rfl (by decide),
    st_iload_n hC (n := 4) (k := 3) (dc_X12_worthOf 4 (4, .iload_n 3, 1) rfl rfl) rfl rfl,
    st_aload_n hC (n := 5) (k := 0) (dc_X12_worthOf 5 (5, .aload_n 0, 1) rfl rfl) rfl rfl,
    st_getR hC (n := 6) (k := 12) (j := 0) (dc_X12_worthOf 6 (6, .getfield 7, 3) rfl rfl) rfl clf_12 (by decide) rfl (by decide) wd_1552,
    st_iconst hC (n := 7) (x := 2) (dc_X12_worthOf 7 (9, .iconst 2, 1) rfl rfl) rfl (by decide),
    st_iald hC (n := 8) (dc_X12_worthOf 8 (10, .iaload, 1) rfl rfl) rfl,
    st_icge hC (n := 9) (dc_X12_worthOf 9 (11, .if_icmp .ge 36, 3) rfl rfl) rfl (by decide),
    st_iload_n hC (n := 10) (k := 2) (dc_X12_worthOf 10 (14, .iload_n 2, 1) rfl rfl) rfl rfl,
    st_aload_n hC (n := 11) (k := 0) (dc_X12_worthOf 11 (15, .aload_n 0, 1) rfl rfl) rfl rfl,
    st_iload_n hC (n := 12) (k := 1) (dc_X12_worthOf 12 (16, .iload_n 1, 1) rfl rfl) rfl rfl,
    st_iload_n hC (n := 13) (k := 3) (dc_X12_worthOf 13 (17, .iload_n 3, 1) rfl rfl) rfl rfl,
    st_callV hC (n := 14) (k := 12) (na := 2) (con_X12_isIn l) (dc_X12_worthOf 14 (18, .invokevirtual 277, 3) rfl rfl) rfl wd_1907 wd_160 (by decide) ⟨rfl, rfl, by decide, by decide⟩ hM wd_1904 wd_1906 wd_89 clf_12,
    st_ifeq hC (n := 15) (dc_X12_worthOf 15 (21, .ifCond .eq 17, 3) rfl rfl) rfl (by decide),
    st_aload_n hC (n := 16) (k := 0) (dc_X12_worthOf 16 (24, .aload_n 0, 1) rfl rfl) rfl rfl,
    st_getR hC (n := 17) (k := 12) (j := 0) (dc_X12_worthOf 17 (25, .getfield 7, 3) rfl rfl) rfl clf_12 (by decide) rfl (by decide) wd_1552,
    st_iload_n hC (n := 18) (k := 3) (dc_X12_worthOf 18 (28, .iload_n 3, 1) rfl rfl) rfl rfl,
    st_callS hC (n := 19) (na := 1) (con_X12_thingRow l) (dc_X12_worthOf 19 (29, .invokestatic 271, 3) rfl rfl) rfl wd_1899 wd_160 (by decide) ⟨rfl, rfl, by decide, by decide⟩ hM wd_1897 wd_1898,
    st_iconst hC (n := 20) (x := 1) (dc_X12_worthOf 20 (32, .iconst 1, 1) rfl rfl) rfl (by decide),
    st_iadd hC (n := 21) (dc_X12_worthOf 21 (33, .iadd, 1) rfl rfl) rfl,
    st_iald hC (n := 22) (dc_X12_worthOf 22 (34, .iaload, 1) rfl rfl) rfl,
    st_goto hC (n := 23) (dc_X12_worthOf 23 (35, .goto 4, 3) rfl rfl) (by decide),
    st_iconst hC (n := 24) (x := 0) (dc_X12_worthOf 24 (38, .iconst 0, 1) rfl rfl) rfl (by decide),
    st_iadd hC (n := 25) (dc_X12_worthOf 25 (39, .iadd, 1) rfl rfl) rfl,
    st_istore_n hC (n := 26) (k := 2) (dc_X12_worthOf 26 (40, .istore_n 2, 1) rfl rfl) rfl rfl (by decide),
    st_iinc hC (n := 27) (x := 1) (dc_X12_worthOf 27 (41, .iinc 3 1, 3) rfl rfl) rfl (by decide) (by decide),
    st_goto hC (n := 28) (dc_X12_worthOf 28 (44, .goto (-40), 3) rfl rfl) (by decide),
    st_iload_n hC (n := 29) (k := 2) (dc_X12_worthOf 29 (47, .iload_n 2, 1) rfl rfl) rfl rfl,
    st_iret hC (n := 30) hR (dc_X12_worthOf 30 (48, .ireturn, 1) rfl rfl), trivial⟩
theorem vc_X12_worthOf : VC P_X12_worthOf 4 Pre_X12_worthOf Fn_X12_worthOf := by
  rintro mm as hom hoa ⟨⟨ns, nm, n, ⟨-, -, ⟨hn, hn12⟩, -⟩⟩, s, rfl⟩
  refine ⟨Nat.le_of_ble_eq_true rfl, fun X h => ?_⟩
  have loop : ∀ t, t ≤ n → X 4 [some (vR 12 0), some (vI s), some (vI (wth (mm.1 54 0) s t)), some (vI (nI t))] [] mm := by
    refine up_ind n ?_ (fun t ht hk => ?_)
    · refine h (fun i => Nat.beq i 4) 3000 4 _ _ _ ?_
      repeat' (first | refine And.intro (by (first | exact rfl | exact Or.inl rfl | exact Or.inr rfl | exact bI_in | exact inb_o 3060 rfl rfl (by (try simp (disch := omega) only [hn, li, pk_mul, nI_add, nI_clamp]); rfl) (by omega) | exact inb_o 12 rfl rfl (by (try simp (disch := omega) only [hn, li, pk_mul, nI_add, nI_clamp]); rfl) (by omega) | exact inb_o 4 rfl rfl (by (try simp (disch := omega) only [hn, li, pk_mul, nI_add, nI_clamp]); rfl) (by omega) | exact inb_o 5 rfl rfl (by (try simp (disch := omega) only [hn, li, pk_mul, nI_add, nI_clamp]); rfl) (by omega) | exact inb_o 16 rfl rfl (by (try simp (disch := omega) only [hn, li, pk_mul, nI_add, nI_clamp]); rfl) (by omega) | exact inb_o 20 rfl rfl (by (try simp (disch := omega) only [hn, li, pk_mul, nI_add, nI_clamp]); rfl) (by omega) | exact inb_o 30 rfl rfl (by (try simp (disch := omega) only [hn, li, pk_mul, nI_add, nI_clamp]); rfl) (by omega) | exact inb_o 48 rfl rfl (by (try simp (disch := omega) only [hn, li, pk_mul, nI_add, nI_clamp]); rfl) (by omega) | exact inb_o 60 rfl rfl (by (try simp (disch := omega) only [hn, li, pk_mul, nI_add, nI_clamp]); rfl) (by omega) | exact inb_o 80 rfl rfl (by (try simp (disch := omega) only [hn, li, pk_mul, nI_add, nI_clamp]); rfl) (by omega) | exact inb_o 120 rfl rfl (by (try simp (disch := omega) only [hn, li, pk_mul, nI_add, nI_clamp]); rfl) (by omega) | exact inb_o 240 rfl rfl (by (try simp (disch := omega) only [hn, li, pk_mul, nI_add, nI_clamp]); rfl) (by omega) | exact inb_o 900 rfl rfl (by (try simp (disch := omega) only [hn, li, pk_mul, nI_add, nI_clamp]); rfl) (by omega) | exact inb_o 4096 rfl rfl (by (try simp (disch := omega) only [hn, li, pk_mul, nI_add, nI_clamp]); rfl) (by omega) | exact inb_o 3 rfl rfl (by (try simp (disch := omega) only [hn, li, pk_mul, nI_add, nI_clamp]); rfl) (by omega))) ?_ | refine br_t (by ((try simp (disch := omega) only [hn, li, pk_mul, nI_add, nI_clamp, nI_leI, nI_ltI, nI_eq, bI_0, bI_n0, Decidable.not_not, gu_m1]); first | done | omega | assumption)) ?_ | refine br_f (by ((try simp (disch := omega) only [hn, li, pk_mul, nI_add, nI_clamp, nI_leI, nI_ltI, nI_eq, bI_0, bI_n0, Decidable.not_not, gu_m1]); first | done | omega | assumption)) ?_ | refine brn_t (by ((try simp (disch := omega) only [hn, li, pk_mul, nI_add, nI_clamp, nI_leI, nI_ltI, nI_eq, bI_0, bI_n0, Decidable.not_not, gu_m1]); first | done | omega | assumption)) ?_ | refine brn_f (by ((try simp (disch := omega) only [hn, li, pk_mul, nI_add, nI_clamp, nI_leI, nI_ltI, nI_eq, bI_0, bI_n0, Decidable.not_not, gu_m1]); first | done | omega | assumption)) ?_ | refine br_c (fun _ => ?_) (fun _ => ?_) | refine brn_c (fun _ => ?_) (fun _ => ?_))
      (refine leaf ?_; simp (disch := omega) only [Fn_X12_worthOf, wtA, hn, li, pk_mul, nI_add, nI_clamp])
    · refine h (fun i => Nat.beq i 4) 3000 4 _ _ _ ?_
      repeat' (first | refine And.intro (by (first | exact rfl | exact Or.inl rfl | exact Or.inr rfl | exact bI_in | exact inb_o 3060 rfl rfl (by (try simp (disch := omega) only [hn, li, pk_mul, nI_add, nI_clamp]); rfl) (by omega) | exact inb_o 12 rfl rfl (by (try simp (disch := omega) only [hn, li, pk_mul, nI_add, nI_clamp]); rfl) (by omega) | exact inb_o 4 rfl rfl (by (try simp (disch := omega) only [hn, li, pk_mul, nI_add, nI_clamp]); rfl) (by omega) | exact inb_o 5 rfl rfl (by (try simp (disch := omega) only [hn, li, pk_mul, nI_add, nI_clamp]); rfl) (by omega) | exact inb_o 16 rfl rfl (by (try simp (disch := omega) only [hn, li, pk_mul, nI_add, nI_clamp]); rfl) (by omega) | exact inb_o 20 rfl rfl (by (try simp (disch := omega) only [hn, li, pk_mul, nI_add, nI_clamp]); rfl) (by omega) | exact inb_o 30 rfl rfl (by (try simp (disch := omega) only [hn, li, pk_mul, nI_add, nI_clamp]); rfl) (by omega) | exact inb_o 48 rfl rfl (by (try simp (disch := omega) only [hn, li, pk_mul, nI_add, nI_clamp]); rfl) (by omega) | exact inb_o 60 rfl rfl (by (try simp (disch := omega) only [hn, li, pk_mul, nI_add, nI_clamp]); rfl) (by omega) | exact inb_o 80 rfl rfl (by (try simp (disch := omega) only [hn, li, pk_mul, nI_add, nI_clamp]); rfl) (by omega) | exact inb_o 120 rfl rfl (by (try simp (disch := omega) only [hn, li, pk_mul, nI_add, nI_clamp]); rfl) (by omega) | exact inb_o 240 rfl rfl (by (try simp (disch := omega) only [hn, li, pk_mul, nI_add, nI_clamp]); rfl) (by omega) | exact inb_o 900 rfl rfl (by (try simp (disch := omega) only [hn, li, pk_mul, nI_add, nI_clamp]); rfl) (by omega) | exact inb_o 4096 rfl rfl (by (try simp (disch := omega) only [hn, li, pk_mul, nI_add, nI_clamp]); rfl) (by omega) | exact inb_o 3 rfl rfl (by (try simp (disch := omega) only [hn, li, pk_mul, nI_add, nI_clamp]); rfl) (by omega))) ?_ | refine br_t (by ((try simp (disch := omega) only [hn, li, pk_mul, nI_add, nI_clamp, nI_leI, nI_ltI, nI_eq, bI_0, bI_n0, Decidable.not_not, gu_m1]); first | done | omega | assumption)) ?_ | refine br_f (by ((try simp (disch := omega) only [hn, li, pk_mul, nI_add, nI_clamp, nI_leI, nI_ltI, nI_eq, bI_0, bI_n0, Decidable.not_not, gu_m1]); first | done | omega | assumption)) ?_ | refine brn_t (by ((try simp (disch := omega) only [hn, li, pk_mul, nI_add, nI_clamp, nI_leI, nI_ltI, nI_eq, bI_0, bI_n0, Decidable.not_not, gu_m1]); first | done | omega | assumption)) ?_ | refine brn_f (by ((try simp (disch := omega) only [hn, li, pk_mul, nI_add, nI_clamp, nI_leI, nI_ltI, nI_eq, bI_0, bI_n0, Decidable.not_not, gu_m1]); first | done | omega | assumption)) ?_ | refine br_c (fun _ => ?_) (fun _ => ?_) | refine brn_c (fun _ => ?_) (fun _ => ?_))
      refine And.intro ⟨_, _, rfl⟩ ?_
      refine br_c (fun h1 => ?_) (fun h1 => ?_)
      · replace h1 := bI_0.mp h1
        rw [wth, if_neg h1, ← nI_1] at hk
        exact hk
      · replace h1 := bI_n0.mp h1
        refine And.intro ⟨_, rfl⟩ ?_
        repeat' (first | refine And.intro (by (first | exact rfl | exact Or.inl rfl | exact Or.inr rfl | exact bI_in | exact inb_o 3060 rfl rfl (by (try simp (disch := omega) only [li, pk_mul, nI_add, nI_clamp]); rfl) (by omega) | exact inb_o 12 rfl rfl (by (try simp (disch := omega) only [li, pk_mul, nI_add, nI_clamp]); rfl) (by omega) | exact inb_o 4 rfl rfl (by (try simp (disch := omega) only [li, pk_mul, nI_add, nI_clamp]); rfl) (by omega) | exact inb_o 5 rfl rfl (by (try simp (disch := omega) only [li, pk_mul, nI_add, nI_clamp]); rfl) (by omega) | exact inb_o 16 rfl rfl (by (try simp (disch := omega) only [li, pk_mul, nI_add, nI_clamp]); rfl) (by omega) | exact inb_o 20 rfl rfl (by (try simp (disch := omega) only [li, pk_mul, nI_add, nI_clamp]); rfl) (by omega) | exact inb_o 30 rfl rfl (by (try simp (disch := omega) only [li, pk_mul, nI_add, nI_clamp]); rfl) (by omega) | exact inb_o 48 rfl rfl (by (try simp (disch := omega) only [li, pk_mul, nI_add, nI_clamp]); rfl) (by omega) | exact inb_o 60 rfl rfl (by (try simp (disch := omega) only [li, pk_mul, nI_add, nI_clamp]); rfl) (by omega) | exact inb_o 80 rfl rfl (by (try simp (disch := omega) only [li, pk_mul, nI_add, nI_clamp]); rfl) (by omega) | exact inb_o 120 rfl rfl (by (try simp (disch := omega) only [li, pk_mul, nI_add, nI_clamp]); rfl) (by omega) | exact inb_o 240 rfl rfl (by (try simp (disch := omega) only [li, pk_mul, nI_add, nI_clamp]); rfl) (by omega) | exact inb_o 900 rfl rfl (by (try simp (disch := omega) only [li, pk_mul, nI_add, nI_clamp]); rfl) (by omega) | exact inb_o 4096 rfl rfl (by (try simp (disch := omega) only [li, pk_mul, nI_add, nI_clamp]); rfl) (by omega) | exact inb_o 3 rfl rfl (by (try simp (disch := omega) only [li, pk_mul, nI_add, nI_clamp]); rfl) (by omega))) ?_ | refine br_t (by ((try simp (disch := omega) only [li, pk_mul, nI_add, nI_clamp, nI_leI, nI_ltI, nI_eq, bI_0, bI_n0, Decidable.not_not, gu_m1]); first | done | omega | assumption)) ?_ | refine br_f (by ((try simp (disch := omega) only [li, pk_mul, nI_add, nI_clamp, nI_leI, nI_ltI, nI_eq, bI_0, bI_n0, Decidable.not_not, gu_m1]); first | done | omega | assumption)) ?_ | refine brn_t (by ((try simp (disch := omega) only [li, pk_mul, nI_add, nI_clamp, nI_leI, nI_ltI, nI_eq, bI_0, bI_n0, Decidable.not_not, gu_m1]); first | done | omega | assumption)) ?_ | refine brn_f (by ((try simp (disch := omega) only [li, pk_mul, nI_add, nI_clamp, nI_leI, nI_ltI, nI_eq, bI_0, bI_n0, Decidable.not_not, gu_m1]); first | done | omega | assumption)) ?_ | refine br_c (fun _ => ?_) (fun _ => ?_) | refine brn_c (fun _ => ?_) (fun _ => ?_))
        rw [wth, if_pos h1, ← nI_1] at hk
        have e : (Int32.toNatClampNeg (44 + 3 * nI t + 1)) = 45 + 3 * t := by simp (disch := omega) only [li, pk_mul, nI_add, nI_clamp]; omega
        rw [← e] at hk
        exact hk
  refine h (fun i => Nat.beq i 4) 3000 0 _ _ _ ?_
  exact loop 0 (Nat.zero_le n)
theorem con_X12_worthOf (l : Launch) : CON l y_X12_worthOf prog_14_method_68_code 4 (some .int) rm_X12_worthOf Pre_X12_worthOf Fn_X12_worthOf := CON_of (by decide) rfl rfl (sa_X12_worthOf l) vc_X12_worthOf
def Pre_X12_saidBy : PreT := fun m as => VM m ∧ ∃ (s : Int32) (d : Nat), d < 4 ∧ as = [vR 12 0, vI s, vI (nI d)]
def Fn_X12_saidBy : FnT := fun m as => match as with
  | [_, Sum.inl s, Sum.inl d] => (some (vI (syA (m.1 54 0) s d.toNatClampNeg)), m)
  | _ => (none, m)
abbrev y_X12_saidBy : MethodName := ⟨"GivenUpModel", "saidBy", "(II)I"⟩
def P_X12_saidBy : List StpT := [s_ic (0), s_istore 3, s_ic (0), s_istore 4, s_iload 4, s_aload 0, s_getR 12 0 54, s_ic (2), s_iald, s_icge 32, s_iload 3, s_aload 0, s_iload 1, s_iload 4, s_callV 12 2 Pre_X12_isIn Fn_X12_isIn, s_ifeq 27, s_aload 0, s_getR 12 0 54, s_ic (80), s_ic (4), s_iload 4, s_imul, s_iadd, s_iload 2, s_iadd, s_iald, s_goto 28, s_ic (0), s_iadd, s_istore 3, s_iinc 4 (1), s_goto 4, s_iload 3, s_iret]
def pc_X12_saidBy : Nat → Nat := fun i => [0, 1, 2, 3, 5, 7, 8, 11, 12, 13, 16, 17, 18, 19, 21, 24, 27, 28, 31, 33, 34, 36, 37, 38, 39, 40, 41, 44, 45, 46, 47, 50, 53, 54].getD i 0
def dl_X12_saidBy : List (Nat × Instr × Nat) := [(0, .iconst 0, 1), (1, .istore_n 3, 1), (2, .iconst 0, 1), (3, .istore 4, 2), (5, .iload 4, 2), (7, .aload_n 0, 1), (8, .getfield 7, 3), (11, .iconst 2, 1), (12, .iaload, 1), (13, .if_icmp .ge 40, 3), (16, .iload_n 3, 1), (17, .aload_n 0, 1), (18, .iload_n 1, 1), (19, .iload 4, 2), (21, .invokevirtual 277, 3), (24, .ifCond .eq 20, 3), (27, .aload_n 0, 1), (28, .getfield 7, 3), (31, .bipush 80, 2), (33, .iconst 4, 1), (34, .iload 4, 2), (36, .imul, 1), (37, .iadd, 1), (38, .iload_n 2, 1), (39, .iadd, 1), (40, .iaload, 1), (41, .goto 4, 3), (44, .iconst 0, 1), (45, .iadd, 1), (46, .istore_n 3, 1), (47, .iinc 4 1, 3), (50, .goto (-45), 3), (53, .iload_n 3, 1), (54, .ireturn, 1)]
theorem dc_X12_saidBy : DEC prog_14_method_69_code pc_X12_saidBy dl_X12_saidBy := DEC_of (by decide +kernel)
abbrev rm_X12_saidBy : Room := { frames := 1, cells := 0, slots := 0, locals := 22 }
set_option maxRecDepth 20000 in
theorem sa_X12_saidBy (l : Launch) : SNDALL l prog_14_method_69_code "GivenUpModel" 5 (some .int) rm_X12_saidBy P_X12_saidBy pc_X12_saidBy := fun p e s m args below meth c cells slots Q D dA ad A RR hC hR => by
  have hM := RTX_room (R := rm_X12_saidBy) hR
  exact ⟨st_iconst hC (n := 0) (x := 0) (dc_X12_saidBy 0 (0, .iconst 0, 1) rfl rfl) rfl (by decide),
    st_istore_n hC (n := 1) (k := 3) (dc_X12_saidBy 1 (1, .istore_n 3, 1) rfl rfl) rfl rfl (by decide),
    st_iconst hC (n := 2) (x := 0) (dc_X12_saidBy 2 (2, .iconst 0, 1) rfl rfl) rfl (by decide),
    st_istore hC (n := 3) (dc_X12_saidBy 3 (3, .istore 4, 2) rfl rfl) rfl (by decide),
    st_iload hC (n := 4) (dc_X12_saidBy 4 (5, .iload 4, 2) rfl rfl) rfl,
    st_aload_n hC (n := 5) (k := 0) (dc_X12_saidBy 5 (7, .aload_n 0, 1) rfl rfl) rfl rfl,
    st_getR hC (n := 6) (k := 12) (j := 0) (dc_X12_saidBy 6 (8, .getfield 7, 3) rfl rfl) rfl clf_12 (by decide) rfl (by decide) wd_1552,
    st_iconst hC (n := 7) (x := 2) (dc_X12_saidBy 7 (11, .iconst 2, 1) rfl rfl) rfl (by decide),
    st_iald hC (n := 8) (dc_X12_saidBy 8 (12, .iaload, 1) rfl rfl) rfl,
    st_icge hC (n := 9) (dc_X12_saidBy 9 (13, .if_icmp .ge 40, 3) rfl rfl) rfl (by decide),
    st_iload_n hC (n := 10) (k := 3) (dc_X12_saidBy 10 (16, .iload_n 3, 1) rfl rfl) rfl rfl,
    st_aload_n hC (n := 11) (k := 0) (dc_X12_saidBy 11 (17, .aload_n 0, 1) rfl rfl) rfl rfl,
    st_iload_n hC (n := 12) (k := 1) (dc_X12_saidBy 12 (18, .iload_n 1, 1) rfl rfl) rfl rfl,
    st_iload hC (n := 13) (dc_X12_saidBy 13 (19, .iload 4, 2) rfl rfl) rfl,
    st_callV hC (n := 14) (k := 12) (na := 2) (con_X12_isIn l) (dc_X12_saidBy 14 (21, .invokevirtual 277, 3) rfl rfl) rfl wd_1907 wd_160 (by decide) ⟨rfl, rfl, by decide, by decide⟩ hM wd_1904 wd_1906 wd_89 clf_12,
    st_ifeq hC (n := 15) (dc_X12_saidBy 15 (24, .ifCond .eq 20, 3) rfl rfl) rfl (by decide),
    st_aload_n hC (n := 16) (k := 0) (dc_X12_saidBy 16 (27, .aload_n 0, 1) rfl rfl) rfl rfl,
    st_getR hC (n := 17) (k := 12) (j := 0) (dc_X12_saidBy 17 (28, .getfield 7, 3) rfl rfl) rfl clf_12 (by decide) rfl (by decide) wd_1552,
    st_bipush hC (n := 18) (x := 80) (dc_X12_saidBy 18 (31, .bipush 80, 2) rfl rfl) rfl (by decide),
    st_iconst hC (n := 19) (x := 4) (dc_X12_saidBy 19 (33, .iconst 4, 1) rfl rfl) rfl (by decide),
    st_iload hC (n := 20) (dc_X12_saidBy 20 (34, .iload 4, 2) rfl rfl) rfl,
    st_imul hC (n := 21) (dc_X12_saidBy 21 (36, .imul, 1) rfl rfl) rfl,
    st_iadd hC (n := 22) (dc_X12_saidBy 22 (37, .iadd, 1) rfl rfl) rfl,
    st_iload_n hC (n := 23) (k := 2) (dc_X12_saidBy 23 (38, .iload_n 2, 1) rfl rfl) rfl rfl,
    st_iadd hC (n := 24) (dc_X12_saidBy 24 (39, .iadd, 1) rfl rfl) rfl,
    st_iald hC (n := 25) (dc_X12_saidBy 25 (40, .iaload, 1) rfl rfl) rfl,
    st_goto hC (n := 26) (dc_X12_saidBy 26 (41, .goto 4, 3) rfl rfl) (by decide),
    st_iconst hC (n := 27) (x := 0) (dc_X12_saidBy 27 (44, .iconst 0, 1) rfl rfl) rfl (by decide),
    st_iadd hC (n := 28) (dc_X12_saidBy 28 (45, .iadd, 1) rfl rfl) rfl,
    st_istore_n hC (n := 29) (k := 3) (dc_X12_saidBy 29 (46, .istore_n 3, 1) rfl rfl) rfl rfl (by decide),
    st_iinc hC (n := 30) (x := 1) (dc_X12_saidBy 30 (47, .iinc 4 1, 3) rfl rfl) rfl (by decide) (by decide),
    st_goto hC (n := 31) (dc_X12_saidBy 31 (50, .goto (-45), 3) rfl rfl) (by decide),
    st_iload_n hC (n := 32) (k := 3) (dc_X12_saidBy 32 (53, .iload_n 3, 1) rfl rfl) rfl rfl,
    st_iret hC (n := 33) hR (dc_X12_saidBy 33 (54, .ireturn, 1) rfl rfl), trivial⟩
theorem vc_X12_saidBy : VC P_X12_saidBy 5 Pre_X12_saidBy Fn_X12_saidBy := by
  rintro mm as hom hoa ⟨⟨ns, nm, n, ⟨-, -, ⟨hn, hn12⟩, -⟩⟩, s, d, hd, rfl⟩
  refine ⟨Nat.le_of_ble_eq_true rfl, fun X h => ?_⟩
  have loop : ∀ t, t ≤ n → X 4 [some (vR 12 0), some (vI s), some (vI (nI d)), some (vI (sayS (mm.1 54 0) s d t)), some (vI (nI t))] [] mm := by
    refine up_ind n ?_ (fun t ht hk => ?_)
    · refine h (fun i => Nat.beq i 4) 3000 4 _ _ _ ?_
      repeat' (first | refine And.intro (by (first | exact rfl | exact Or.inl rfl | exact Or.inr rfl | exact bI_in | exact inb_o 3060 rfl rfl (by (try simp (disch := omega) only [hn, li, pk_mul, nI_add, nI_clamp]); rfl) (by omega) | exact inb_o 12 rfl rfl (by (try simp (disch := omega) only [hn, li, pk_mul, nI_add, nI_clamp]); rfl) (by omega) | exact inb_o 4 rfl rfl (by (try simp (disch := omega) only [hn, li, pk_mul, nI_add, nI_clamp]); rfl) (by omega) | exact inb_o 5 rfl rfl (by (try simp (disch := omega) only [hn, li, pk_mul, nI_add, nI_clamp]); rfl) (by omega) | exact inb_o 16 rfl rfl (by (try simp (disch := omega) only [hn, li, pk_mul, nI_add, nI_clamp]); rfl) (by omega) | exact inb_o 20 rfl rfl (by (try simp (disch := omega) only [hn, li, pk_mul, nI_add, nI_clamp]); rfl) (by omega) | exact inb_o 30 rfl rfl (by (try simp (disch := omega) only [hn, li, pk_mul, nI_add, nI_clamp]); rfl) (by omega) | exact inb_o 48 rfl rfl (by (try simp (disch := omega) only [hn, li, pk_mul, nI_add, nI_clamp]); rfl) (by omega) | exact inb_o 60 rfl rfl (by (try simp (disch := omega) only [hn, li, pk_mul, nI_add, nI_clamp]); rfl) (by omega) | exact inb_o 80 rfl rfl (by (try simp (disch := omega) only [hn, li, pk_mul, nI_add, nI_clamp]); rfl) (by omega) | exact inb_o 120 rfl rfl (by (try simp (disch := omega) only [hn, li, pk_mul, nI_add, nI_clamp]); rfl) (by omega) | exact inb_o 240 rfl rfl (by (try simp (disch := omega) only [hn, li, pk_mul, nI_add, nI_clamp]); rfl) (by omega) | exact inb_o 900 rfl rfl (by (try simp (disch := omega) only [hn, li, pk_mul, nI_add, nI_clamp]); rfl) (by omega) | exact inb_o 4096 rfl rfl (by (try simp (disch := omega) only [hn, li, pk_mul, nI_add, nI_clamp]); rfl) (by omega) | exact inb_o 3 rfl rfl (by (try simp (disch := omega) only [hn, li, pk_mul, nI_add, nI_clamp]); rfl) (by omega))) ?_ | refine br_t (by ((try simp (disch := omega) only [hn, li, pk_mul, nI_add, nI_clamp, nI_leI, nI_ltI, nI_eq, bI_0, bI_n0, Decidable.not_not, gu_m1]); first | done | omega | assumption)) ?_ | refine br_f (by ((try simp (disch := omega) only [hn, li, pk_mul, nI_add, nI_clamp, nI_leI, nI_ltI, nI_eq, bI_0, bI_n0, Decidable.not_not, gu_m1]); first | done | omega | assumption)) ?_ | refine brn_t (by ((try simp (disch := omega) only [hn, li, pk_mul, nI_add, nI_clamp, nI_leI, nI_ltI, nI_eq, bI_0, bI_n0, Decidable.not_not, gu_m1]); first | done | omega | assumption)) ?_ | refine brn_f (by ((try simp (disch := omega) only [hn, li, pk_mul, nI_add, nI_clamp, nI_leI, nI_ltI, nI_eq, bI_0, bI_n0, Decidable.not_not, gu_m1]); first | done | omega | assumption)) ?_ | refine br_c (fun _ => ?_) (fun _ => ?_) | refine brn_c (fun _ => ?_) (fun _ => ?_))
      (refine leaf ?_; simp (disch := omega) only [Fn_X12_saidBy, syA, hn, li, pk_mul, nI_add, nI_clamp])
    · refine h (fun i => Nat.beq i 4) 3000 4 _ _ _ ?_
      repeat' (first | refine And.intro (by (first | exact rfl | exact Or.inl rfl | exact Or.inr rfl | exact bI_in | exact inb_o 3060 rfl rfl (by (try simp (disch := omega) only [hn, li, pk_mul, nI_add, nI_clamp]); rfl) (by omega) | exact inb_o 12 rfl rfl (by (try simp (disch := omega) only [hn, li, pk_mul, nI_add, nI_clamp]); rfl) (by omega) | exact inb_o 4 rfl rfl (by (try simp (disch := omega) only [hn, li, pk_mul, nI_add, nI_clamp]); rfl) (by omega) | exact inb_o 5 rfl rfl (by (try simp (disch := omega) only [hn, li, pk_mul, nI_add, nI_clamp]); rfl) (by omega) | exact inb_o 16 rfl rfl (by (try simp (disch := omega) only [hn, li, pk_mul, nI_add, nI_clamp]); rfl) (by omega) | exact inb_o 20 rfl rfl (by (try simp (disch := omega) only [hn, li, pk_mul, nI_add, nI_clamp]); rfl) (by omega) | exact inb_o 30 rfl rfl (by (try simp (disch := omega) only [hn, li, pk_mul, nI_add, nI_clamp]); rfl) (by omega) | exact inb_o 48 rfl rfl (by (try simp (disch := omega) only [hn, li, pk_mul, nI_add, nI_clamp]); rfl) (by omega) | exact inb_o 60 rfl rfl (by (try simp (disch := omega) only [hn, li, pk_mul, nI_add, nI_clamp]); rfl) (by omega) | exact inb_o 80 rfl rfl (by (try simp (disch := omega) only [hn, li, pk_mul, nI_add, nI_clamp]); rfl) (by omega) | exact inb_o 120 rfl rfl (by (try simp (disch := omega) only [hn, li, pk_mul, nI_add, nI_clamp]); rfl) (by omega) | exact inb_o 240 rfl rfl (by (try simp (disch := omega) only [hn, li, pk_mul, nI_add, nI_clamp]); rfl) (by omega) | exact inb_o 900 rfl rfl (by (try simp (disch := omega) only [hn, li, pk_mul, nI_add, nI_clamp]); rfl) (by omega) | exact inb_o 4096 rfl rfl (by (try simp (disch := omega) only [hn, li, pk_mul, nI_add, nI_clamp]); rfl) (by omega) | exact inb_o 3 rfl rfl (by (try simp (disch := omega) only [hn, li, pk_mul, nI_add, nI_clamp]); rfl) (by omega))) ?_ | refine br_t (by ((try simp (disch := omega) only [hn, li, pk_mul, nI_add, nI_clamp, nI_leI, nI_ltI, nI_eq, bI_0, bI_n0, Decidable.not_not, gu_m1]); first | done | omega | assumption)) ?_ | refine br_f (by ((try simp (disch := omega) only [hn, li, pk_mul, nI_add, nI_clamp, nI_leI, nI_ltI, nI_eq, bI_0, bI_n0, Decidable.not_not, gu_m1]); first | done | omega | assumption)) ?_ | refine brn_t (by ((try simp (disch := omega) only [hn, li, pk_mul, nI_add, nI_clamp, nI_leI, nI_ltI, nI_eq, bI_0, bI_n0, Decidable.not_not, gu_m1]); first | done | omega | assumption)) ?_ | refine brn_f (by ((try simp (disch := omega) only [hn, li, pk_mul, nI_add, nI_clamp, nI_leI, nI_ltI, nI_eq, bI_0, bI_n0, Decidable.not_not, gu_m1]); first | done | omega | assumption)) ?_ | refine br_c (fun _ => ?_) (fun _ => ?_) | refine brn_c (fun _ => ?_) (fun _ => ?_))
      refine And.intro ⟨_, _, rfl⟩ ?_
      refine br_c (fun h1 => ?_) (fun h1 => ?_)
      · replace h1 := bI_0.mp h1
        rw [sayS, if_neg h1, ← nI_1] at hk
        exact hk
      · replace h1 := bI_n0.mp h1
        repeat' (first | refine And.intro (by (first | exact rfl | exact Or.inl rfl | exact Or.inr rfl | exact bI_in | exact inb_o 3060 rfl rfl (by (try simp (disch := omega) only [li, pk_mul, nI_add, nI_clamp]); rfl) (by omega) | exact inb_o 12 rfl rfl (by (try simp (disch := omega) only [li, pk_mul, nI_add, nI_clamp]); rfl) (by omega) | exact inb_o 4 rfl rfl (by (try simp (disch := omega) only [li, pk_mul, nI_add, nI_clamp]); rfl) (by omega) | exact inb_o 5 rfl rfl (by (try simp (disch := omega) only [li, pk_mul, nI_add, nI_clamp]); rfl) (by omega) | exact inb_o 16 rfl rfl (by (try simp (disch := omega) only [li, pk_mul, nI_add, nI_clamp]); rfl) (by omega) | exact inb_o 20 rfl rfl (by (try simp (disch := omega) only [li, pk_mul, nI_add, nI_clamp]); rfl) (by omega) | exact inb_o 30 rfl rfl (by (try simp (disch := omega) only [li, pk_mul, nI_add, nI_clamp]); rfl) (by omega) | exact inb_o 48 rfl rfl (by (try simp (disch := omega) only [li, pk_mul, nI_add, nI_clamp]); rfl) (by omega) | exact inb_o 60 rfl rfl (by (try simp (disch := omega) only [li, pk_mul, nI_add, nI_clamp]); rfl) (by omega) | exact inb_o 80 rfl rfl (by (try simp (disch := omega) only [li, pk_mul, nI_add, nI_clamp]); rfl) (by omega) | exact inb_o 120 rfl rfl (by (try simp (disch := omega) only [li, pk_mul, nI_add, nI_clamp]); rfl) (by omega) | exact inb_o 240 rfl rfl (by (try simp (disch := omega) only [li, pk_mul, nI_add, nI_clamp]); rfl) (by omega) | exact inb_o 900 rfl rfl (by (try simp (disch := omega) only [li, pk_mul, nI_add, nI_clamp]); rfl) (by omega) | exact inb_o 4096 rfl rfl (by (try simp (disch := omega) only [li, pk_mul, nI_add, nI_clamp]); rfl) (by omega) | exact inb_o 3 rfl rfl (by (try simp (disch := omega) only [li, pk_mul, nI_add, nI_clamp]); rfl) (by omega))) ?_ | refine br_t (by ((try simp (disch := omega) only [li, pk_mul, nI_add, nI_clamp, nI_leI, nI_ltI, nI_eq, bI_0, bI_n0, Decidable.not_not, gu_m1]); first | done | omega | assumption)) ?_ | refine br_f (by ((try simp (disch := omega) only [li, pk_mul, nI_add, nI_clamp, nI_leI, nI_ltI, nI_eq, bI_0, bI_n0, Decidable.not_not, gu_m1]); first | done | omega | assumption)) ?_ | refine brn_t (by ((try simp (disch := omega) only [li, pk_mul, nI_add, nI_clamp, nI_leI, nI_ltI, nI_eq, bI_0, bI_n0, Decidable.not_not, gu_m1]); first | done | omega | assumption)) ?_ | refine brn_f (by ((try simp (disch := omega) only [li, pk_mul, nI_add, nI_clamp, nI_leI, nI_ltI, nI_eq, bI_0, bI_n0, Decidable.not_not, gu_m1]); first | done | omega | assumption)) ?_ | refine br_c (fun _ => ?_) (fun _ => ?_) | refine brn_c (fun _ => ?_) (fun _ => ?_))
        rw [sayS, if_pos h1, ← nI_1] at hk
        have e : (Int32.toNatClampNeg (80 + 4 * nI t + nI d)) = 80 + 4 * t + d := by simp (disch := omega) only [li, pk_mul, nI_add, nI_clamp]
        rw [← e] at hk
        exact hk
  refine h (fun i => Nat.beq i 4) 3000 0 _ _ _ ?_
  exact loop 0 (Nat.zero_le n)
theorem con_X12_saidBy (l : Launch) : CON l y_X12_saidBy prog_14_method_69_code 5 (some .int) rm_X12_saidBy Pre_X12_saidBy Fn_X12_saidBy := CON_of (by decide) rfl rfl (sa_X12_saidBy l) vc_X12_saidBy
def Pre_X12_heardOf : PreT := fun m as => VM m ∧ ∃ (s : Int32) (d : Nat), d < 4 ∧ as = [vR 12 0, vI s, vI (nI d)]
def Fn_X12_heardOf : FnT := fun m as => match as with
  | [_, Sum.inl s, Sum.inl d] => (some (vI (hdA (m.1 54 0) s d.toNatClampNeg)), m)
  | _ => (none, m)
abbrev y_X12_heardOf : MethodName := ⟨"GivenUpModel", "heardOf", "(II)I"⟩
def P_X12_heardOf : List StpT := [s_aload 0, s_aload 0, s_iload 1, s_callV 12 1 Pre_X12_thingsOf Fn_X12_thingsOf, s_aload 0, s_getR 12 0 54, s_ic (8), s_iald, s_aload 0, s_getR 12 0 54, s_ic (9), s_iald, s_ior, s_iand, s_iload 2, s_callV 12 2 Pre_X12_saidBy Fn_X12_saidBy, s_iret]
def pc_X12_heardOf : Nat → Nat := fun i => [0, 1, 2, 3, 6, 7, 10, 12, 13, 14, 17, 19, 20, 21, 22, 23, 26].getD i 0
def dl_X12_heardOf : List (Nat × Instr × Nat) := [(0, .aload_n 0, 1), (1, .aload_n 0, 1), (2, .iload_n 1, 1), (3, .invokevirtual 280, 3), (6, .aload_n 0, 1), (7, .getfield 7, 3), (10, .bipush 8, 2), (12, .iaload, 1), (13, .aload_n 0, 1), (14, .getfield 7, 3), (17, .bipush 9, 2), (19, .iaload, 1), (20, .ior, 1), (21, .iand, 1), (22, .iload_n 2, 1), (23, .invokevirtual 283, 3), (26, .ireturn, 1)]
theorem dc_X12_heardOf : DEC prog_14_method_70_code pc_X12_heardOf dl_X12_heardOf := DEC_of (by decide +kernel)
abbrev rm_X12_heardOf : Room := { frames := 3, cells := 0, slots := 0, locals := 64 }
set_option maxRecDepth 20000 in
theorem sa_X12_heardOf (l : Launch) : SNDALL l prog_14_method_70_code "GivenUpModel" 3 (some .int) rm_X12_heardOf P_X12_heardOf pc_X12_heardOf := fun p e s m args below meth c cells slots Q D dA ad A RR hC hR => by
  have hM := RTX_room (R := rm_X12_heardOf) hR
  exact ⟨st_aload_n hC (n := 0) (k := 0) (dc_X12_heardOf 0 (0, .aload_n 0, 1) rfl rfl) rfl rfl,
    st_aload_n hC (n := 1) (k := 0) (dc_X12_heardOf 1 (1, .aload_n 0, 1) rfl rfl) rfl rfl,
    st_iload_n hC (n := 2) (k := 1) (dc_X12_heardOf 2 (2, .iload_n 1, 1) rfl rfl) rfl rfl,
    st_callV hC (n := 3) (k := 12) (na := 1) (con_X12_thingsOf l) (dc_X12_heardOf 3 (3, .invokevirtual 280, 3) rfl rfl) rfl wd_1892 wd_160 (by decide) ⟨rfl, rfl, by decide, by decide⟩ hM wd_1889 wd_1891 wd_86 clf_12,
    st_aload_n hC (n := 4) (k := 0) (dc_X12_heardOf 4 (6, .aload_n 0, 1) rfl rfl) rfl rfl,
    st_getR hC (n := 5) (k := 12) (j := 0) (dc_X12_heardOf 5 (7, .getfield 7, 3) rfl rfl) rfl clf_12 (by decide) rfl (by decide) wd_1552,
    st_bipush hC (n := 6) (x := 8) (dc_X12_heardOf 6 (10, .bipush 8, 2) rfl rfl) rfl (by decide),
    st_iald hC (n := 7) (dc_X12_heardOf 7 (12, .iaload, 1) rfl rfl) rfl,
    st_aload_n hC (n := 8) (k := 0) (dc_X12_heardOf 8 (13, .aload_n 0, 1) rfl rfl) rfl rfl,
    st_getR hC (n := 9) (k := 12) (j := 0) (dc_X12_heardOf 9 (14, .getfield 7, 3) rfl rfl) rfl clf_12 (by decide) rfl (by decide) wd_1552,
    st_bipush hC (n := 10) (x := 9) (dc_X12_heardOf 10 (17, .bipush 9, 2) rfl rfl) rfl (by decide),
    st_iald hC (n := 11) (dc_X12_heardOf 11 (19, .iaload, 1) rfl rfl) rfl,
    st_ior hC (n := 12) (dc_X12_heardOf 12 (20, .ior, 1) rfl rfl) rfl,
    st_iand hC (n := 13) (dc_X12_heardOf 13 (21, .iand, 1) rfl rfl) rfl,
    st_iload_n hC (n := 14) (k := 2) (dc_X12_heardOf 14 (22, .iload_n 2, 1) rfl rfl) rfl rfl,
    st_callV hC (n := 15) (k := 12) (na := 2) (con_X12_saidBy l) (dc_X12_heardOf 15 (23, .invokevirtual 283, 3) rfl rfl) rfl wd_2025 wd_160 (by decide) ⟨rfl, rfl, by decide, by decide⟩ hM wd_2022 wd_2024 wd_107 clf_12,
    st_iret hC (n := 16) hR (dc_X12_heardOf 16 (26, .ireturn, 1) rfl rfl), trivial⟩
theorem vc_X12_heardOf : VC P_X12_heardOf 3 Pre_X12_heardOf Fn_X12_heardOf := by
  rintro mm as hom hoa ⟨hV, s, d, hd, rfl⟩
  refine ⟨Nat.le_of_ble_eq_true rfl, fun X h => ?_⟩
  refine h (fun _ => false) 3000 0 _ _ _ ?_
  refine And.intro ⟨hV, _, rfl⟩ ?_
  repeat' (first | refine And.intro (by (first | exact rfl | exact Or.inl rfl | exact Or.inr rfl | exact bI_in | exact inb_o 3060 rfl rfl (by (try simp (disch := omega) only [li, pk_mul, nI_add, nI_clamp]); rfl) (by omega) | exact inb_o 12 rfl rfl (by (try simp (disch := omega) only [li, pk_mul, nI_add, nI_clamp]); rfl) (by omega) | exact inb_o 4 rfl rfl (by (try simp (disch := omega) only [li, pk_mul, nI_add, nI_clamp]); rfl) (by omega) | exact inb_o 5 rfl rfl (by (try simp (disch := omega) only [li, pk_mul, nI_add, nI_clamp]); rfl) (by omega) | exact inb_o 16 rfl rfl (by (try simp (disch := omega) only [li, pk_mul, nI_add, nI_clamp]); rfl) (by omega) | exact inb_o 20 rfl rfl (by (try simp (disch := omega) only [li, pk_mul, nI_add, nI_clamp]); rfl) (by omega) | exact inb_o 30 rfl rfl (by (try simp (disch := omega) only [li, pk_mul, nI_add, nI_clamp]); rfl) (by omega) | exact inb_o 48 rfl rfl (by (try simp (disch := omega) only [li, pk_mul, nI_add, nI_clamp]); rfl) (by omega) | exact inb_o 60 rfl rfl (by (try simp (disch := omega) only [li, pk_mul, nI_add, nI_clamp]); rfl) (by omega) | exact inb_o 80 rfl rfl (by (try simp (disch := omega) only [li, pk_mul, nI_add, nI_clamp]); rfl) (by omega) | exact inb_o 120 rfl rfl (by (try simp (disch := omega) only [li, pk_mul, nI_add, nI_clamp]); rfl) (by omega) | exact inb_o 240 rfl rfl (by (try simp (disch := omega) only [li, pk_mul, nI_add, nI_clamp]); rfl) (by omega) | exact inb_o 900 rfl rfl (by (try simp (disch := omega) only [li, pk_mul, nI_add, nI_clamp]); rfl) (by omega) | exact inb_o 4096 rfl rfl (by (try simp (disch := omega) only [li, pk_mul, nI_add, nI_clamp]); rfl) (by omega) | exact inb_o 3 rfl rfl (by (try simp (disch := omega) only [li, pk_mul, nI_add, nI_clamp]); rfl) (by omega))) ?_ | refine br_t (by ((try simp (disch := omega) only [li, pk_mul, nI_add, nI_clamp, nI_leI, nI_ltI, nI_eq, bI_0, bI_n0, Decidable.not_not, gu_m1]); first | done | omega | assumption)) ?_ | refine br_f (by ((try simp (disch := omega) only [li, pk_mul, nI_add, nI_clamp, nI_leI, nI_ltI, nI_eq, bI_0, bI_n0, Decidable.not_not, gu_m1]); first | done | omega | assumption)) ?_ | refine brn_t (by ((try simp (disch := omega) only [li, pk_mul, nI_add, nI_clamp, nI_leI, nI_ltI, nI_eq, bI_0, bI_n0, Decidable.not_not, gu_m1]); first | done | omega | assumption)) ?_ | refine brn_f (by ((try simp (disch := omega) only [li, pk_mul, nI_add, nI_clamp, nI_leI, nI_ltI, nI_eq, bI_0, bI_n0, Decidable.not_not, gu_m1]); first | done | omega | assumption)) ?_ | refine br_c (fun _ => ?_) (fun _ => ?_) | refine brn_c (fun _ => ?_) (fun _ => ?_))
  exact And.intro ⟨hV, _, d, hd, rfl⟩ rfl
theorem con_X12_heardOf (l : Launch) : CON l y_X12_heardOf prog_14_method_70_code 3 (some .int) rm_X12_heardOf Pre_X12_heardOf Fn_X12_heardOf := CON_of (by decide) rfl rfl (sa_X12_heardOf l) vc_X12_heardOf
def Pre_X12_lossOf : PreT := fun m as => VM m ∧ ∃ (s : Int32), as = [vR 12 0, vI s]
def Fn_X12_lossOf : FnT := fun m as => match as with
  | [_, Sum.inl s] => (some (vI (lsA' (m.1 54 0) s)), m)
  | _ => (none, m)
abbrev y_X12_lossOf : MethodName := ⟨"GivenUpModel", "lossOf", "(I)I"⟩
def P_X12_lossOf : List StpT := [s_aload 0, s_aload 0, s_iload 1, s_callV 12 1 Pre_X12_thingsOf Fn_X12_thingsOf, s_aload 0, s_getR 12 0 54, s_ic (8), s_iald, s_iand, s_callV 12 1 Pre_X12_worthOf Fn_X12_worthOf, s_iret]
def pc_X12_lossOf : Nat → Nat := fun i => [0, 1, 2, 3, 6, 7, 10, 12, 13, 14, 17].getD i 0
def dl_X12_lossOf : List (Nat × Instr × Nat) := [(0, .aload_n 0, 1), (1, .aload_n 0, 1), (2, .iload_n 1, 1), (3, .invokevirtual 280, 3), (6, .aload_n 0, 1), (7, .getfield 7, 3), (10, .bipush 8, 2), (12, .iaload, 1), (13, .iand, 1), (14, .invokevirtual 304, 3), (17, .ireturn, 1)]
theorem dc_X12_lossOf : DEC prog_14_method_77_code pc_X12_lossOf dl_X12_lossOf := DEC_of (by decide +kernel)
abbrev rm_X12_lossOf : Room := { frames := 3, cells := 0, slots := 0, locals := 64 }
set_option maxRecDepth 20000 in
theorem sa_X12_lossOf (l : Launch) : SNDALL l prog_14_method_77_code "GivenUpModel" 2 (some .int) rm_X12_lossOf P_X12_lossOf pc_X12_lossOf := fun p e s m args below meth c cells slots Q D dA ad A RR hC hR => by
  have hM := RTX_room (R := rm_X12_lossOf) hR
  exact ⟨st_aload_n hC (n := 0) (k := 0) (dc_X12_lossOf 0 (0, .aload_n 0, 1) rfl rfl) rfl rfl,
    st_aload_n hC (n := 1) (k := 0) (dc_X12_lossOf 1 (1, .aload_n 0, 1) rfl rfl) rfl rfl,
    st_iload_n hC (n := 2) (k := 1) (dc_X12_lossOf 2 (2, .iload_n 1, 1) rfl rfl) rfl rfl,
    st_callV hC (n := 3) (k := 12) (na := 1) (con_X12_thingsOf l) (dc_X12_lossOf 3 (3, .invokevirtual 280, 3) rfl rfl) rfl wd_1892 wd_160 (by decide) ⟨rfl, rfl, by decide, by decide⟩ hM wd_1889 wd_1891 wd_86 clf_12,
    st_aload_n hC (n := 4) (k := 0) (dc_X12_lossOf 4 (6, .aload_n 0, 1) rfl rfl) rfl rfl,
    st_getR hC (n := 5) (k := 12) (j := 0) (dc_X12_lossOf 5 (7, .getfield 7, 3) rfl rfl) rfl clf_12 (by decide) rfl (by decide) wd_1552,
    st_bipush hC (n := 6) (x := 8) (dc_X12_lossOf 6 (10, .bipush 8, 2) rfl rfl) rfl (by decide),
    st_iald hC (n := 7) (dc_X12_lossOf 7 (12, .iaload, 1) rfl rfl) rfl,
    st_iand hC (n := 8) (dc_X12_lossOf 8 (13, .iand, 1) rfl rfl) rfl,
    st_callV hC (n := 9) (k := 12) (na := 1) (con_X12_worthOf l) (dc_X12_lossOf 9 (14, .invokevirtual 304, 3) rfl rfl) rfl wd_1903 wd_160 (by decide) ⟨rfl, rfl, by decide, by decide⟩ hM wd_1900 wd_1902 wd_88 clf_12,
    st_iret hC (n := 10) hR (dc_X12_lossOf 10 (17, .ireturn, 1) rfl rfl), trivial⟩
theorem vc_X12_lossOf : VC P_X12_lossOf 2 Pre_X12_lossOf Fn_X12_lossOf := by
  rintro mm as hom hoa ⟨hV, s, rfl⟩
  refine ⟨Nat.le_of_ble_eq_true rfl, fun X h => ?_⟩
  refine h (fun _ => false) 3000 0 _ _ _ ?_
  refine And.intro ⟨hV, _, rfl⟩ ?_
  repeat' (first | refine And.intro (by (first | exact rfl | exact Or.inl rfl | exact Or.inr rfl | exact bI_in | exact inb_o 3060 rfl rfl (by (try simp (disch := omega) only [li, pk_mul, nI_add, nI_clamp]); rfl) (by omega) | exact inb_o 12 rfl rfl (by (try simp (disch := omega) only [li, pk_mul, nI_add, nI_clamp]); rfl) (by omega) | exact inb_o 4 rfl rfl (by (try simp (disch := omega) only [li, pk_mul, nI_add, nI_clamp]); rfl) (by omega) | exact inb_o 5 rfl rfl (by (try simp (disch := omega) only [li, pk_mul, nI_add, nI_clamp]); rfl) (by omega) | exact inb_o 16 rfl rfl (by (try simp (disch := omega) only [li, pk_mul, nI_add, nI_clamp]); rfl) (by omega) | exact inb_o 20 rfl rfl (by (try simp (disch := omega) only [li, pk_mul, nI_add, nI_clamp]); rfl) (by omega) | exact inb_o 30 rfl rfl (by (try simp (disch := omega) only [li, pk_mul, nI_add, nI_clamp]); rfl) (by omega) | exact inb_o 48 rfl rfl (by (try simp (disch := omega) only [li, pk_mul, nI_add, nI_clamp]); rfl) (by omega) | exact inb_o 60 rfl rfl (by (try simp (disch := omega) only [li, pk_mul, nI_add, nI_clamp]); rfl) (by omega) | exact inb_o 80 rfl rfl (by (try simp (disch := omega) only [li, pk_mul, nI_add, nI_clamp]); rfl) (by omega) | exact inb_o 120 rfl rfl (by (try simp (disch := omega) only [li, pk_mul, nI_add, nI_clamp]); rfl) (by omega) | exact inb_o 240 rfl rfl (by (try simp (disch := omega) only [li, pk_mul, nI_add, nI_clamp]); rfl) (by omega) | exact inb_o 900 rfl rfl (by (try simp (disch := omega) only [li, pk_mul, nI_add, nI_clamp]); rfl) (by omega) | exact inb_o 4096 rfl rfl (by (try simp (disch := omega) only [li, pk_mul, nI_add, nI_clamp]); rfl) (by omega) | exact inb_o 3 rfl rfl (by (try simp (disch := omega) only [li, pk_mul, nI_add, nI_clamp]); rfl) (by omega))) ?_ | refine br_t (by ((try simp (disch := omega) only [li, pk_mul, nI_add, nI_clamp, nI_leI, nI_ltI, nI_eq, bI_0, bI_n0, Decidable.not_not, gu_m1]); first | done | omega | assumption)) ?_ | refine br_f (by ((try simp (disch := omega) only [li, pk_mul, nI_add, nI_clamp, nI_leI, nI_ltI, nI_eq, bI_0, bI_n0, Decidable.not_not, gu_m1]); first | done | omega | assumption)) ?_ | refine brn_t (by ((try simp (disch := omega) only [li, pk_mul, nI_add, nI_clamp, nI_leI, nI_ltI, nI_eq, bI_0, bI_n0, Decidable.not_not, gu_m1]); first | done | omega | assumption)) ?_ | refine brn_f (by ((try simp (disch := omega) only [li, pk_mul, nI_add, nI_clamp, nI_leI, nI_ltI, nI_eq, bI_0, bI_n0, Decidable.not_not, gu_m1]); first | done | omega | assumption)) ?_ | refine br_c (fun _ => ?_) (fun _ => ?_) | refine brn_c (fun _ => ?_) (fun _ => ?_))
  exact And.intro ⟨hV, _, rfl⟩ rfl
theorem con_X12_lossOf (l : Launch) : CON l y_X12_lossOf prog_14_method_77_code 2 (some .int) rm_X12_lossOf Pre_X12_lossOf Fn_X12_lossOf := CON_of (by decide) rfl rfl (sa_X12_lossOf l) vc_X12_lossOf
def Pre_X12_barIn : PreT := fun m as => ∃ (d : Nat) (w : Int32), d < 4 ∧ as = [vR 12 0, vI (nI d), vI w]
def Fn_X12_barIn : FnT := fun m as => match as with
  | [_, Sum.inl d, Sum.inl w] => (some (vI (brA (m.1 54 0) d.toNatClampNeg w)), m)
  | _ => (none, m)
abbrev y_X12_barIn : MethodName := ⟨"GivenUpModel", "barIn", "(II)I"⟩
def P_X12_barIn : List StpT := [s_aload 0, s_getR 12 0 54, s_iload 1, s_callS 1 Pre_X12_maidRow Fn_X12_maidRow, s_iald, s_aload 0, s_getR 12 0 54, s_iload 1, s_callS 1 Pre_X12_maidRow Fn_X12_maidRow, s_ic (1), s_iadd, s_iald, s_iload 2, s_imul, s_iadd, s_iret]
def pc_X12_barIn : Nat → Nat := fun i => [0, 1, 4, 5, 8, 9, 10, 13, 14, 17, 18, 19, 20, 21, 22, 23].getD i 0
def dl_X12_barIn : List (Nat × Instr × Nat) := [(0, .aload_n 0, 1), (1, .getfield 7, 3), (4, .iload_n 1, 1), (5, .invokestatic 286, 3), (8, .iaload, 1), (9, .aload_n 0, 1), (10, .getfield 7, 3), (13, .iload_n 1, 1), (14, .invokestatic 286, 3), (17, .iconst 1, 1), (18, .iadd, 1), (19, .iaload, 1), (20, .iload_n 2, 1), (21, .imul, 1), (22, .iadd, 1), (23, .ireturn, 1)]
theorem dc_X12_barIn : DEC prog_14_method_71_code pc_X12_barIn dl_X12_barIn := DEC_of (by decide +kernel)
abbrev rm_X12_barIn : Room := { frames := 1, cells := 0, slots := 0, locals := 20 }
set_option maxRecDepth 20000 in
theorem sa_X12_barIn (l : Launch) : SNDALL l prog_14_method_71_code "GivenUpModel" 3 (some .int) rm_X12_barIn P_X12_barIn pc_X12_barIn := fun p e s m args below meth c cells slots Q D dA ad A RR hC hR => by
  have hM := RTX_room (R := rm_X12_barIn) hR
  exact ⟨st_aload_n hC (n := 0) (k := 0) (dc_X12_barIn 0 (0, .aload_n 0, 1) rfl rfl) rfl rfl,
    st_getR hC (n := 1) (k := 12) (j := 0) (dc_X12_barIn 1 (1, .getfield 7, 3) rfl rfl) rfl clf_12 (by decide) rfl (by decide) wd_1552,
    st_iload_n hC (n := 2) (k := 1) (dc_X12_barIn 2 (4, .iload_n 1, 1) rfl rfl) rfl rfl,
    st_callS hC (n := 3) (na := 1) (con_X12_maidRow l) (dc_X12_barIn 3 (5, .invokestatic 286, 3) rfl rfl) rfl wd_1926 wd_160 (by decide) ⟨rfl, rfl, by decide, by decide⟩ hM wd_1924 wd_1925,
    st_iald hC (n := 4) (dc_X12_barIn 4 (8, .iaload, 1) rfl rfl) rfl,
    st_aload_n hC (n := 5) (k := 0) (dc_X12_barIn 5 (9, .aload_n 0, 1) rfl rfl) rfl rfl,
    st_getR hC (n := 6) (k := 12) (j := 0) (dc_X12_barIn 6 (10, .getfield 7, 3) rfl rfl) rfl clf_12 (by decide) rfl (by decide) wd_1552,
    st_iload_n hC (n := 7) (k := 1) (dc_X12_barIn 7 (13, .iload_n 1, 1) rfl rfl) rfl rfl,
    st_callS hC (n := 8) (na := 1) (con_X12_maidRow l) (dc_X12_barIn 8 (14, .invokestatic 286, 3) rfl rfl) rfl wd_1926 wd_160 (by decide) ⟨rfl, rfl, by decide, by decide⟩ hM wd_1924 wd_1925,
    st_iconst hC (n := 9) (x := 1) (dc_X12_barIn 9 (17, .iconst 1, 1) rfl rfl) rfl (by decide),
    st_iadd hC (n := 10) (dc_X12_barIn 10 (18, .iadd, 1) rfl rfl) rfl,
    st_iald hC (n := 11) (dc_X12_barIn 11 (19, .iaload, 1) rfl rfl) rfl,
    st_iload_n hC (n := 12) (k := 2) (dc_X12_barIn 12 (20, .iload_n 2, 1) rfl rfl) rfl rfl,
    st_imul hC (n := 13) (dc_X12_barIn 13 (21, .imul, 1) rfl rfl) rfl,
    st_iadd hC (n := 14) (dc_X12_barIn 14 (22, .iadd, 1) rfl rfl) rfl,
    st_iret hC (n := 15) hR (dc_X12_barIn 15 (23, .ireturn, 1) rfl rfl), trivial⟩
theorem vc_X12_barIn : VC P_X12_barIn 3 Pre_X12_barIn Fn_X12_barIn := by
  rintro mm as hom hoa ⟨d, w, hd, rfl⟩
  refine ⟨Nat.le_of_ble_eq_true rfl, fun X h => ?_⟩
  refine h (fun _ => false) 3000 0 _ _ _ ?_
  refine And.intro ⟨_, rfl⟩ ?_
  repeat' (first | refine And.intro (by (first | exact rfl | exact Or.inl rfl | exact Or.inr rfl | exact bI_in | exact inb_o 3060 rfl rfl (by (try simp (disch := omega) only [li, pk_mul, nI_add, nI_clamp]); rfl) (by omega) | exact inb_o 12 rfl rfl (by (try simp (disch := omega) only [li, pk_mul, nI_add, nI_clamp]); rfl) (by omega) | exact inb_o 4 rfl rfl (by (try simp (disch := omega) only [li, pk_mul, nI_add, nI_clamp]); rfl) (by omega) | exact inb_o 5 rfl rfl (by (try simp (disch := omega) only [li, pk_mul, nI_add, nI_clamp]); rfl) (by omega) | exact inb_o 16 rfl rfl (by (try simp (disch := omega) only [li, pk_mul, nI_add, nI_clamp]); rfl) (by omega) | exact inb_o 20 rfl rfl (by (try simp (disch := omega) only [li, pk_mul, nI_add, nI_clamp]); rfl) (by omega) | exact inb_o 30 rfl rfl (by (try simp (disch := omega) only [li, pk_mul, nI_add, nI_clamp]); rfl) (by omega) | exact inb_o 48 rfl rfl (by (try simp (disch := omega) only [li, pk_mul, nI_add, nI_clamp]); rfl) (by omega) | exact inb_o 60 rfl rfl (by (try simp (disch := omega) only [li, pk_mul, nI_add, nI_clamp]); rfl) (by omega) | exact inb_o 80 rfl rfl (by (try simp (disch := omega) only [li, pk_mul, nI_add, nI_clamp]); rfl) (by omega) | exact inb_o 120 rfl rfl (by (try simp (disch := omega) only [li, pk_mul, nI_add, nI_clamp]); rfl) (by omega) | exact inb_o 240 rfl rfl (by (try simp (disch := omega) only [li, pk_mul, nI_add, nI_clamp]); rfl) (by omega) | exact inb_o 900 rfl rfl (by (try simp (disch := omega) only [li, pk_mul, nI_add, nI_clamp]); rfl) (by omega) | exact inb_o 4096 rfl rfl (by (try simp (disch := omega) only [li, pk_mul, nI_add, nI_clamp]); rfl) (by omega) | exact inb_o 3 rfl rfl (by (try simp (disch := omega) only [li, pk_mul, nI_add, nI_clamp]); rfl) (by omega))) ?_ | refine br_t (by ((try simp (disch := omega) only [li, pk_mul, nI_add, nI_clamp, nI_leI, nI_ltI, nI_eq, bI_0, bI_n0, Decidable.not_not, gu_m1]); first | done | omega | assumption)) ?_ | refine br_f (by ((try simp (disch := omega) only [li, pk_mul, nI_add, nI_clamp, nI_leI, nI_ltI, nI_eq, bI_0, bI_n0, Decidable.not_not, gu_m1]); first | done | omega | assumption)) ?_ | refine brn_t (by ((try simp (disch := omega) only [li, pk_mul, nI_add, nI_clamp, nI_leI, nI_ltI, nI_eq, bI_0, bI_n0, Decidable.not_not, gu_m1]); first | done | omega | assumption)) ?_ | refine brn_f (by ((try simp (disch := omega) only [li, pk_mul, nI_add, nI_clamp, nI_leI, nI_ltI, nI_eq, bI_0, bI_n0, Decidable.not_not, gu_m1]); first | done | omega | assumption)) ?_ | refine br_c (fun _ => ?_) (fun _ => ?_) | refine brn_c (fun _ => ?_) (fun _ => ?_))
  refine And.intro ⟨_, rfl⟩ ?_
  repeat' (first | refine And.intro (by (first | exact rfl | exact Or.inl rfl | exact Or.inr rfl | exact bI_in | exact inb_o 3060 rfl rfl (by (try simp (disch := omega) only [li, pk_mul, nI_add, nI_clamp]); rfl) (by omega) | exact inb_o 12 rfl rfl (by (try simp (disch := omega) only [li, pk_mul, nI_add, nI_clamp]); rfl) (by omega) | exact inb_o 4 rfl rfl (by (try simp (disch := omega) only [li, pk_mul, nI_add, nI_clamp]); rfl) (by omega) | exact inb_o 5 rfl rfl (by (try simp (disch := omega) only [li, pk_mul, nI_add, nI_clamp]); rfl) (by omega) | exact inb_o 16 rfl rfl (by (try simp (disch := omega) only [li, pk_mul, nI_add, nI_clamp]); rfl) (by omega) | exact inb_o 20 rfl rfl (by (try simp (disch := omega) only [li, pk_mul, nI_add, nI_clamp]); rfl) (by omega) | exact inb_o 30 rfl rfl (by (try simp (disch := omega) only [li, pk_mul, nI_add, nI_clamp]); rfl) (by omega) | exact inb_o 48 rfl rfl (by (try simp (disch := omega) only [li, pk_mul, nI_add, nI_clamp]); rfl) (by omega) | exact inb_o 60 rfl rfl (by (try simp (disch := omega) only [li, pk_mul, nI_add, nI_clamp]); rfl) (by omega) | exact inb_o 80 rfl rfl (by (try simp (disch := omega) only [li, pk_mul, nI_add, nI_clamp]); rfl) (by omega) | exact inb_o 120 rfl rfl (by (try simp (disch := omega) only [li, pk_mul, nI_add, nI_clamp]); rfl) (by omega) | exact inb_o 240 rfl rfl (by (try simp (disch := omega) only [li, pk_mul, nI_add, nI_clamp]); rfl) (by omega) | exact inb_o 900 rfl rfl (by (try simp (disch := omega) only [li, pk_mul, nI_add, nI_clamp]); rfl) (by omega) | exact inb_o 4096 rfl rfl (by (try simp (disch := omega) only [li, pk_mul, nI_add, nI_clamp]); rfl) (by omega) | exact inb_o 3 rfl rfl (by (try simp (disch := omega) only [li, pk_mul, nI_add, nI_clamp]); rfl) (by omega))) ?_ | refine br_t (by ((try simp (disch := omega) only [li, pk_mul, nI_add, nI_clamp, nI_leI, nI_ltI, nI_eq, bI_0, bI_n0, Decidable.not_not, gu_m1]); first | done | omega | assumption)) ?_ | refine br_f (by ((try simp (disch := omega) only [li, pk_mul, nI_add, nI_clamp, nI_leI, nI_ltI, nI_eq, bI_0, bI_n0, Decidable.not_not, gu_m1]); first | done | omega | assumption)) ?_ | refine brn_t (by ((try simp (disch := omega) only [li, pk_mul, nI_add, nI_clamp, nI_leI, nI_ltI, nI_eq, bI_0, bI_n0, Decidable.not_not, gu_m1]); first | done | omega | assumption)) ?_ | refine brn_f (by ((try simp (disch := omega) only [li, pk_mul, nI_add, nI_clamp, nI_leI, nI_ltI, nI_eq, bI_0, bI_n0, Decidable.not_not, gu_m1]); first | done | omega | assumption)) ?_ | refine br_c (fun _ => ?_) (fun _ => ?_) | refine brn_c (fun _ => ?_) (fun _ => ?_))
  (refine leaf ?_; simp (disch := omega) only [Fn_X12_maidRow, Fn_X12_barIn, brA, show 28 + 4 * d + 1 = 29 + 4 * d by omega, li, pk_mul, nI_add, nI_clamp])
theorem con_X12_barIn (l : Launch) : CON l y_X12_barIn prog_14_method_71_code 3 (some .int) rm_X12_barIn Pre_X12_barIn Fn_X12_barIn := CON_of (by decide) rfl rfl (sa_X12_barIn l) vc_X12_barIn
def Pre_X12_hasWed : PreT := fun m as => ∃ (i : Nat), i < 4 ∧ as = [vR 12 0, vI (nI i)]
def Fn_X12_hasWed : FnT := fun m as => match as with
  | [_, Sum.inl i] => (some (vI (bI (¬ m.1 54 0 (15 + 4 * i.toNatClampNeg) = -1))), m)
  | _ => (none, m)
abbrev y_X12_hasWed : MethodName := ⟨"GivenUpModel", "hasWed", "(I)Z"⟩
def P_X12_hasWed : List StpT := [s_aload 0, s_getR 12 0 54, s_iload 1, s_callS 1 Pre_X12_suitorRow Fn_X12_suitorRow, s_ic (3), s_iadd, s_iald, s_ic (-1), s_iceq 11, s_ic (1), s_goto 12, s_ic (0), s_zret]
def pc_X12_hasWed : Nat → Nat := fun i => [0, 1, 4, 5, 8, 9, 10, 11, 12, 15, 16, 19, 20].getD i 0
def dl_X12_hasWed : List (Nat × Instr × Nat) := [(0, .aload_n 0, 1), (1, .getfield 7, 3), (4, .iload_n 1, 1), (5, .invokestatic 289, 3), (8, .iconst 3, 1), (9, .iadd, 1), (10, .iaload, 1), (11, .iconst (-1), 1), (12, .if_icmp .eq 7, 3), (15, .iconst 1, 1), (16, .goto 4, 3), (19, .iconst 0, 1), (20, .ireturn, 1)]
theorem dc_X12_hasWed : DEC prog_14_method_72_code pc_X12_hasWed dl_X12_hasWed := DEC_of (by decide +kernel)
abbrev rm_X12_hasWed : Room := { frames := 1, cells := 0, slots := 0, locals := 20 }
set_option maxRecDepth 20000 in
theorem sa_X12_hasWed (l : Launch) : SNDALL l prog_14_method_72_code "GivenUpModel" 2 (some .boolean) rm_X12_hasWed P_X12_hasWed pc_X12_hasWed := fun p e s m args below meth c cells slots Q D dA ad A RR hC hR => by
  have hM := RTX_room (R := rm_X12_hasWed) hR
  exact ⟨st_aload_n hC (n := 0) (k := 0) (dc_X12_hasWed 0 (0, .aload_n 0, 1) rfl rfl) rfl rfl,
    st_getR hC (n := 1) (k := 12) (j := 0) (dc_X12_hasWed 1 (1, .getfield 7, 3) rfl rfl) rfl clf_12 (by decide) rfl (by decide) wd_1552,
    st_iload_n hC (n := 2) (k := 1) (dc_X12_hasWed 2 (4, .iload_n 1, 1) rfl rfl) rfl rfl,
    st_callS hC (n := 3) (na := 1) (con_X12_suitorRow l) (dc_X12_hasWed 3 (5, .invokestatic 289, 3) rfl rfl) rfl wd_1888 wd_160 (by decide) ⟨rfl, rfl, by decide, by decide⟩ hM wd_1886 wd_1887,
    st_iconst hC (n := 4) (x := 3) (dc_X12_hasWed 4 (8, .iconst 3, 1) rfl rfl) rfl (by decide),
    st_iadd hC (n := 5) (dc_X12_hasWed 5 (9, .iadd, 1) rfl rfl) rfl,
    st_iald hC (n := 6) (dc_X12_hasWed 6 (10, .iaload, 1) rfl rfl) rfl,
    st_iconst hC (n := 7) (x := (-1)) (dc_X12_hasWed 7 (11, .iconst (-1), 1) rfl rfl) rfl (by decide),
    st_iceq hC (n := 8) (dc_X12_hasWed 8 (12, .if_icmp .eq 7, 3) rfl rfl) rfl (by decide),
    st_iconst hC (n := 9) (x := 1) (dc_X12_hasWed 9 (15, .iconst 1, 1) rfl rfl) rfl (by decide),
    st_goto hC (n := 10) (dc_X12_hasWed 10 (16, .goto 4, 3) rfl rfl) (by decide),
    st_iconst hC (n := 11) (x := 0) (dc_X12_hasWed 11 (19, .iconst 0, 1) rfl rfl) rfl (by decide),
    st_zret hC (n := 12) hR (dc_X12_hasWed 12 (20, .ireturn, 1) rfl rfl), trivial⟩
theorem vc_X12_hasWed : VC P_X12_hasWed 2 Pre_X12_hasWed Fn_X12_hasWed := by
  rintro mm as hom hoa ⟨i, hi, rfl⟩
  refine ⟨Nat.le_of_ble_eq_true rfl, fun X h => ?_⟩
  refine h (fun _ => false) 3000 0 _ _ _ ?_
  refine And.intro ⟨_, rfl⟩ ?_
  have e : (Int32.toNatClampNeg (12 + 4 * nI i + 3)) = 15 + 4 * i := by simp (disch := omega) only [li, pk_mul, nI_add, nI_clamp]; omega
  have e2 : (nI i).toNatClampNeg = i := nI_clamp (by omega)
  repeat' (first | refine And.intro (by (first | exact rfl | exact Or.inl rfl | exact Or.inr rfl | exact bI_in | exact inb_o 3060 rfl rfl (by (try simp (disch := omega) only [li, pk_mul, nI_add, nI_clamp]); rfl) (by omega) | exact inb_o 12 rfl rfl (by (try simp (disch := omega) only [li, pk_mul, nI_add, nI_clamp]); rfl) (by omega) | exact inb_o 4 rfl rfl (by (try simp (disch := omega) only [li, pk_mul, nI_add, nI_clamp]); rfl) (by omega) | exact inb_o 5 rfl rfl (by (try simp (disch := omega) only [li, pk_mul, nI_add, nI_clamp]); rfl) (by omega) | exact inb_o 16 rfl rfl (by (try simp (disch := omega) only [li, pk_mul, nI_add, nI_clamp]); rfl) (by omega) | exact inb_o 20 rfl rfl (by (try simp (disch := omega) only [li, pk_mul, nI_add, nI_clamp]); rfl) (by omega) | exact inb_o 30 rfl rfl (by (try simp (disch := omega) only [li, pk_mul, nI_add, nI_clamp]); rfl) (by omega) | exact inb_o 48 rfl rfl (by (try simp (disch := omega) only [li, pk_mul, nI_add, nI_clamp]); rfl) (by omega) | exact inb_o 60 rfl rfl (by (try simp (disch := omega) only [li, pk_mul, nI_add, nI_clamp]); rfl) (by omega) | exact inb_o 80 rfl rfl (by (try simp (disch := omega) only [li, pk_mul, nI_add, nI_clamp]); rfl) (by omega) | exact inb_o 120 rfl rfl (by (try simp (disch := omega) only [li, pk_mul, nI_add, nI_clamp]); rfl) (by omega) | exact inb_o 240 rfl rfl (by (try simp (disch := omega) only [li, pk_mul, nI_add, nI_clamp]); rfl) (by omega) | exact inb_o 900 rfl rfl (by (try simp (disch := omega) only [li, pk_mul, nI_add, nI_clamp]); rfl) (by omega) | exact inb_o 4096 rfl rfl (by (try simp (disch := omega) only [li, pk_mul, nI_add, nI_clamp]); rfl) (by omega) | exact inb_o 3 rfl rfl (by (try simp (disch := omega) only [li, pk_mul, nI_add, nI_clamp]); rfl) (by omega))) ?_ | refine br_t (by ((try simp (disch := omega) only [li, pk_mul, nI_add, nI_clamp, nI_leI, nI_ltI, nI_eq, bI_0, bI_n0, Decidable.not_not, gu_m1]); first | done | omega | assumption)) ?_ | refine br_f (by ((try simp (disch := omega) only [li, pk_mul, nI_add, nI_clamp, nI_leI, nI_ltI, nI_eq, bI_0, bI_n0, Decidable.not_not, gu_m1]); first | done | omega | assumption)) ?_ | refine brn_t (by ((try simp (disch := omega) only [li, pk_mul, nI_add, nI_clamp, nI_leI, nI_ltI, nI_eq, bI_0, bI_n0, Decidable.not_not, gu_m1]); first | done | omega | assumption)) ?_ | refine brn_f (by ((try simp (disch := omega) only [li, pk_mul, nI_add, nI_clamp, nI_leI, nI_ltI, nI_eq, bI_0, bI_n0, Decidable.not_not, gu_m1]); first | done | omega | assumption)) ?_ | refine br_c (fun _ => ?_) (fun _ => ?_) | refine brn_c (fun _ => ?_) (fun _ => ?_))
  · rename_i h1
    refine ret_f (fun z => z ?_)
    rw [e2, ← e]; exact h1
  · rename_i h1
    refine ret_t ?_
    rw [e2, ← e]; exact h1
theorem con_X12_hasWed (l : Launch) : CON l y_X12_hasWed prog_14_method_72_code 2 (some .boolean) rm_X12_hasWed Pre_X12_hasWed Fn_X12_hasWed := CON_of (by decide) rfl rfl (sa_X12_hasWed l) vc_X12_hasWed
def Pre_X12_isWed : PreT := fun m as => ∃ (i : Nat), i < 4 ∧ as = [vR 12 0, vI (nI i)]
def Fn_X12_isWed : FnT := fun m as => match as with
  | [_, Sum.inl i] => (some (vI (bI (¬ m.1 54 0 (31 + 4 * i.toNatClampNeg) = -1))), m)
  | _ => (none, m)
abbrev y_X12_isWed : MethodName := ⟨"GivenUpModel", "isWed", "(I)Z"⟩
def P_X12_isWed : List StpT := [s_aload 0, s_getR 12 0 54, s_iload 1, s_callS 1 Pre_X12_maidRow Fn_X12_maidRow, s_ic (3), s_iadd, s_iald, s_ic (-1), s_iceq 11, s_ic (1), s_goto 12, s_ic (0), s_zret]
def pc_X12_isWed : Nat → Nat := fun i => [0, 1, 4, 5, 8, 9, 10, 11, 12, 15, 16, 19, 20].getD i 0
def dl_X12_isWed : List (Nat × Instr × Nat) := [(0, .aload_n 0, 1), (1, .getfield 7, 3), (4, .iload_n 1, 1), (5, .invokestatic 286, 3), (8, .iconst 3, 1), (9, .iadd, 1), (10, .iaload, 1), (11, .iconst (-1), 1), (12, .if_icmp .eq 7, 3), (15, .iconst 1, 1), (16, .goto 4, 3), (19, .iconst 0, 1), (20, .ireturn, 1)]
theorem dc_X12_isWed : DEC prog_14_method_73_code pc_X12_isWed dl_X12_isWed := DEC_of (by decide +kernel)
abbrev rm_X12_isWed : Room := { frames := 1, cells := 0, slots := 0, locals := 20 }
set_option maxRecDepth 20000 in
theorem sa_X12_isWed (l : Launch) : SNDALL l prog_14_method_73_code "GivenUpModel" 2 (some .boolean) rm_X12_isWed P_X12_isWed pc_X12_isWed := fun p e s m args below meth c cells slots Q D dA ad A RR hC hR => by
  have hM := RTX_room (R := rm_X12_isWed) hR
  exact ⟨st_aload_n hC (n := 0) (k := 0) (dc_X12_isWed 0 (0, .aload_n 0, 1) rfl rfl) rfl rfl,
    st_getR hC (n := 1) (k := 12) (j := 0) (dc_X12_isWed 1 (1, .getfield 7, 3) rfl rfl) rfl clf_12 (by decide) rfl (by decide) wd_1552,
    st_iload_n hC (n := 2) (k := 1) (dc_X12_isWed 2 (4, .iload_n 1, 1) rfl rfl) rfl rfl,
    st_callS hC (n := 3) (na := 1) (con_X12_maidRow l) (dc_X12_isWed 3 (5, .invokestatic 286, 3) rfl rfl) rfl wd_1926 wd_160 (by decide) ⟨rfl, rfl, by decide, by decide⟩ hM wd_1924 wd_1925,
    st_iconst hC (n := 4) (x := 3) (dc_X12_isWed 4 (8, .iconst 3, 1) rfl rfl) rfl (by decide),
    st_iadd hC (n := 5) (dc_X12_isWed 5 (9, .iadd, 1) rfl rfl) rfl,
    st_iald hC (n := 6) (dc_X12_isWed 6 (10, .iaload, 1) rfl rfl) rfl,
    st_iconst hC (n := 7) (x := (-1)) (dc_X12_isWed 7 (11, .iconst (-1), 1) rfl rfl) rfl (by decide),
    st_iceq hC (n := 8) (dc_X12_isWed 8 (12, .if_icmp .eq 7, 3) rfl rfl) rfl (by decide),
    st_iconst hC (n := 9) (x := 1) (dc_X12_isWed 9 (15, .iconst 1, 1) rfl rfl) rfl (by decide),
    st_goto hC (n := 10) (dc_X12_isWed 10 (16, .goto 4, 3) rfl rfl) (by decide),
    st_iconst hC (n := 11) (x := 0) (dc_X12_isWed 11 (19, .iconst 0, 1) rfl rfl) rfl (by decide),
    st_zret hC (n := 12) hR (dc_X12_isWed 12 (20, .ireturn, 1) rfl rfl), trivial⟩
theorem vc_X12_isWed : VC P_X12_isWed 2 Pre_X12_isWed Fn_X12_isWed := by
  rintro mm as hom hoa ⟨i, hi, rfl⟩
  refine ⟨Nat.le_of_ble_eq_true rfl, fun X h => ?_⟩
  refine h (fun _ => false) 3000 0 _ _ _ ?_
  refine And.intro ⟨_, rfl⟩ ?_
  have e : (Int32.toNatClampNeg (28 + 4 * nI i + 3)) = 31 + 4 * i := by simp (disch := omega) only [li, pk_mul, nI_add, nI_clamp]; omega
  have e2 : (nI i).toNatClampNeg = i := nI_clamp (by omega)
  repeat' (first | refine And.intro (by (first | exact rfl | exact Or.inl rfl | exact Or.inr rfl | exact bI_in | exact inb_o 3060 rfl rfl (by (try simp (disch := omega) only [li, pk_mul, nI_add, nI_clamp]); rfl) (by omega) | exact inb_o 12 rfl rfl (by (try simp (disch := omega) only [li, pk_mul, nI_add, nI_clamp]); rfl) (by omega) | exact inb_o 4 rfl rfl (by (try simp (disch := omega) only [li, pk_mul, nI_add, nI_clamp]); rfl) (by omega) | exact inb_o 5 rfl rfl (by (try simp (disch := omega) only [li, pk_mul, nI_add, nI_clamp]); rfl) (by omega) | exact inb_o 16 rfl rfl (by (try simp (disch := omega) only [li, pk_mul, nI_add, nI_clamp]); rfl) (by omega) | exact inb_o 20 rfl rfl (by (try simp (disch := omega) only [li, pk_mul, nI_add, nI_clamp]); rfl) (by omega) | exact inb_o 30 rfl rfl (by (try simp (disch := omega) only [li, pk_mul, nI_add, nI_clamp]); rfl) (by omega) | exact inb_o 48 rfl rfl (by (try simp (disch := omega) only [li, pk_mul, nI_add, nI_clamp]); rfl) (by omega) | exact inb_o 60 rfl rfl (by (try simp (disch := omega) only [li, pk_mul, nI_add, nI_clamp]); rfl) (by omega) | exact inb_o 80 rfl rfl (by (try simp (disch := omega) only [li, pk_mul, nI_add, nI_clamp]); rfl) (by omega) | exact inb_o 120 rfl rfl (by (try simp (disch := omega) only [li, pk_mul, nI_add, nI_clamp]); rfl) (by omega) | exact inb_o 240 rfl rfl (by (try simp (disch := omega) only [li, pk_mul, nI_add, nI_clamp]); rfl) (by omega) | exact inb_o 900 rfl rfl (by (try simp (disch := omega) only [li, pk_mul, nI_add, nI_clamp]); rfl) (by omega) | exact inb_o 4096 rfl rfl (by (try simp (disch := omega) only [li, pk_mul, nI_add, nI_clamp]); rfl) (by omega) | exact inb_o 3 rfl rfl (by (try simp (disch := omega) only [li, pk_mul, nI_add, nI_clamp]); rfl) (by omega))) ?_ | refine br_t (by ((try simp (disch := omega) only [li, pk_mul, nI_add, nI_clamp, nI_leI, nI_ltI, nI_eq, bI_0, bI_n0, Decidable.not_not, gu_m1]); first | done | omega | assumption)) ?_ | refine br_f (by ((try simp (disch := omega) only [li, pk_mul, nI_add, nI_clamp, nI_leI, nI_ltI, nI_eq, bI_0, bI_n0, Decidable.not_not, gu_m1]); first | done | omega | assumption)) ?_ | refine brn_t (by ((try simp (disch := omega) only [li, pk_mul, nI_add, nI_clamp, nI_leI, nI_ltI, nI_eq, bI_0, bI_n0, Decidable.not_not, gu_m1]); first | done | omega | assumption)) ?_ | refine brn_f (by ((try simp (disch := omega) only [li, pk_mul, nI_add, nI_clamp, nI_leI, nI_ltI, nI_eq, bI_0, bI_n0, Decidable.not_not, gu_m1]); first | done | omega | assumption)) ?_ | refine br_c (fun _ => ?_) (fun _ => ?_) | refine brn_c (fun _ => ?_) (fun _ => ?_))
  · rename_i h1
    refine ret_f (fun z => z ?_)
    rw [e2, ← e]; exact h1
  · rename_i h1
    refine ret_t ?_
    rw [e2, ← e]; exact h1
theorem con_X12_isWed (l : Launch) : CON l y_X12_isWed prog_14_method_73_code 2 (some .boolean) rm_X12_isWed Pre_X12_isWed Fn_X12_isWed := CON_of (by decide) rfl rfl (sa_X12_isWed l) vc_X12_isWed
