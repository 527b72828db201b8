/-! PART 38: the model: feed, the lexer -/

theorem upd_self {f : Nat → Int32} {k : Nat} {x : Int32} (h : f k = x) : upd f k x = f := by
  funext j
  by_cases e : j = k
  · rw [e, upd_eq, h]
  · exact upd_ne e
theorem foM_n {m : MM} {n : Nat} {v : Int32} (h : m.1 12 0 10 = nI n) : (foM m v).1 12 0 10 = nI (n + 4) := by
  show (m.1 12 0 10 + 4 : Int32) = _
  rw [h, show (4 : Int32) = nI 4 from rfl, nI_add]
def fdM (m : MM) (a b c d e : Int32) : MM := foM (foM (foM (foM (foM m a) b) c) d) e

def Pre_X12_feed : PreT := fun m as => (∃ n, n ≤ 900 ∧ m.1 12 0 10 = nI n) ∧ ∃ a b c d e : Int32, as = [vR 12 0, vI a, vI b, vI c, vI d, vI e]
def Fn_X12_feed : FnT := fun m as => match as with
  | [_, Sum.inl a, Sum.inl b, Sum.inl c, Sum.inl d, Sum.inl e] => if m.1 12 0 10 + 20 ≤ 900 then (some (vI (m.1 12 0 10 + 20)), fdM m a b c d e) else (some (vI (-1)), m)
  | _ => (none, m)
abbrev y_X12_feed : MethodName := ⟨"GivenUpModel", "feed", "(IIIII)I"⟩
def P_X12_feed : List StpT := [s_aload 0, s_getI 12 10, s_ic (20), s_iadd, s_ic (900), s_icle 8, s_ic (-1), s_iret, s_aload 0, s_iload 1, s_callV 12 1 Pre_X12_four Fn_X12_four, s_aload 0, s_iload 2, s_callV 12 1 Pre_X12_four Fn_X12_four, s_aload 0, s_iload 3, s_callV 12 1 Pre_X12_four Fn_X12_four, s_aload 0, s_iload 4, s_callV 12 1 Pre_X12_four Fn_X12_four, s_aload 0, s_iload 5, s_callV 12 1 Pre_X12_four Fn_X12_four, s_aload 0, s_getI 12 10, s_iret]
def pc_X12_feed : Nat → Nat := fun i => [0, 1, 4, 6, 7, 10, 13, 14, 15, 16, 17, 20, 21, 22, 25, 26, 27, 30, 31, 33, 36, 37, 39, 42, 43, 46].getD i 0
def dl_X12_feed : List (Nat × Instr × Nat) := [(0, .aload_n 0, 1), (1, .getfield 111, 3), (4, .bipush 20, 2), (6, .iadd, 1), (7, .sipush 900, 3), (10, .if_icmp .le 5, 3), (13, .iconst (-1), 1), (14, .ireturn, 1), (15, .aload_n 0, 1), (16, .iload_n 1, 1), (17, .invokevirtual 114, 3), (20, .aload_n 0, 1), (21, .iload_n 2, 1), (22, .invokevirtual 114, 3), (25, .aload_n 0, 1), (26, .iload_n 3, 1), (27, .invokevirtual 114, 3), (30, .aload_n 0, 1), (31, .iload 4, 2), (33, .invokevirtual 114, 3), (36, .aload_n 0, 1), (37, .iload 5, 2), (39, .invokevirtual 114, 3), (42, .aload_n 0, 1), (43, .getfield 111, 3), (46, .ireturn, 1)]
theorem dc_X12_feed : DEC prog_14_method_20_code pc_X12_feed dl_X12_feed := DEC_of (by decide +kernel)
abbrev rm_X12_feed : Room := { frames := 1, cells := 0, slots := 0, locals := 22 }
set_option maxRecDepth 20000 in
theorem sa_X12_feed (l : Launch) : SNDALL l prog_14_method_20_code "GivenUpModel" 6 (some .int) rm_X12_feed P_X12_feed pc_X12_feed := fun p e s m args below meth c cells slots Q D dA ad A RR hC hR => by
  have hM := RTX_room (R := rm_X12_feed) hR
  exact ⟨st_aload_n hC (n := 0) (k := 0) (dc_X12_feed 0 (0, .aload_n 0, 1) rfl rfl) rfl rfl,
    st_getI hC (n := 1) (k := 12) (j := 10) (dc_X12_feed 1 (1, .getfield 111, 3) rfl rfl) rfl clf_12 (by decide) rfl wd_1562,
    st_bipush hC (n := 2) (x := 20) (dc_X12_feed 2 (4, .bipush 20, 2) rfl rfl) rfl (by decide),
    st_iadd hC (n := 3) (dc_X12_feed 3 (6, .iadd, 1) rfl rfl) rfl,
    st_sipush hC (n := 4) (x := 900) (dc_X12_feed 4 (7, .sipush 900, 3) rfl rfl) rfl (by decide),
    st_icle hC (n := 5) (dc_X12_feed 5 (10, .if_icmp .le 5, 3) rfl rfl) rfl (by decide),
    st_iconst hC (n := 6) (x := (-1)) (dc_X12_feed 6 (13, .iconst (-1), 1) rfl rfl) rfl (by decide),
    st_iret hC (n := 7) hR (dc_X12_feed 7 (14, .ireturn, 1) rfl rfl),
    st_aload_n hC (n := 8) (k := 0) (dc_X12_feed 8 (15, .aload_n 0, 1) rfl rfl) rfl rfl,
    st_iload_n hC (n := 9) (k := 1) (dc_X12_feed 9 (16, .iload_n 1, 1) rfl rfl) rfl rfl,
    st_callV hC (n := 10) (k := 12) (na := 1) (con_X12_four l) (dc_X12_feed 10 (17, .invokevirtual 114, 3) rfl rfl) rfl wd_1726 wd_160 (by decide) ⟨rfl, rfl, by decide, by decide⟩ hM wd_1723 wd_1725 wd_53 clf_12,
    st_aload_n hC (n := 11) (k := 0) (dc_X12_feed 11 (20, .aload_n 0, 1) rfl rfl) rfl rfl,
    st_iload_n hC (n := 12) (k := 2) (dc_X12_feed 12 (21, .iload_n 2, 1) rfl rfl) rfl rfl,
    st_callV hC (n := 13) (k := 12) (na := 1) (con_X12_four l) (dc_X12_feed 13 (22, .invokevirtual 114, 3) rfl rfl) rfl wd_1726 wd_160 (by decide) ⟨rfl, rfl, by decide, by decide⟩ hM wd_1723 wd_1725 wd_53 clf_12,
    st_aload_n hC (n := 14) (k := 0) (dc_X12_feed 14 (25, .aload_n 0, 1) rfl rfl) rfl rfl,
    st_iload_n hC (n := 15) (k := 3) (dc_X12_feed 15 (26, .iload_n 3, 1) rfl rfl) rfl rfl,
    st_callV hC (n := 16) (k := 12) (na := 1) (con_X12_four l) (dc_X12_feed 16 (27, .invokevirtual 114, 3) rfl rfl) rfl wd_1726 wd_160 (by decide) ⟨rfl, rfl, by decide, by decide⟩ hM wd_1723 wd_1725 wd_53 clf_12,
    st_aload_n hC (n := 17) (k := 0) (dc_X12_feed 17 (30, .aload_n 0, 1) rfl rfl) rfl rfl,
    st_iload hC (n := 18) (dc_X12_feed 18 (31, .iload 4, 2) rfl rfl) rfl,
    st_callV hC (n := 19) (k := 12) (na := 1) (con_X12_four l) (dc_X12_feed 19 (33, .invokevirtual 114, 3) rfl rfl) rfl wd_1726 wd_160 (by decide) ⟨rfl, rfl, by decide, by decide⟩ hM wd_1723 wd_1725 wd_53 clf_12,
    st_aload_n hC (n := 20) (k := 0) (dc_X12_feed 20 (36, .aload_n 0, 1) rfl rfl) rfl rfl,
    st_iload hC (n := 21) (dc_X12_feed 21 (37, .iload 5, 2) rfl rfl) rfl,
    st_callV hC (n := 22) (k := 12) (na := 1) (con_X12_four l) (dc_X12_feed 22 (39, .invokevirtual 114, 3) rfl rfl) rfl wd_1726 wd_160 (by decide) ⟨rfl, rfl, by decide, by decide⟩ hM wd_1723 wd_1725 wd_53 clf_12,
    st_aload_n hC (n := 23) (k := 0) (dc_X12_feed 23 (42, .aload_n 0, 1) rfl rfl) rfl rfl,
    st_getI hC (n := 24) (k := 12) (j := 10) (dc_X12_feed 24 (43, .getfield 111, 3) rfl rfl) rfl clf_12 (by decide) rfl wd_1562,
    st_iret hC (n := 25) hR (dc_X12_feed 25 (46, .ireturn, 1) rfl rfl), trivial⟩
set_option maxRecDepth 8000 in
theorem vc_X12_feed : VC P_X12_feed 6 Pre_X12_feed Fn_X12_feed := by
  rintro mm as hom hoa ⟨⟨n, hn, en⟩, a, b, c, d, e, rfl⟩
  refine ⟨Nat.le_of_ble_eq_true rfl, fun X h => ?_⟩
  have hF : Fn_X12_feed mm [vR 12 0, vI a, vI b, vI c, vI d, vI e] = (if mm.1 12 0 10 + 20 ≤ 900 then (some (vI (mm.1 12 0 10 + 20)), fdM mm a b c d e) else (some (vI (-1)), mm)) := rfl
  rw [hF, en] at h
  have yes : n + 20 ≤ 900 → X 8 [some (vR 12 0), some (vI (a)), some (vI (b)), some (vI (c)), some (vI (d)), some (vI (e))] [] mm := by
    intro hc
    rw [if_pos (by rw [show (20 : Int32) = nI 20 from rfl, show (900 : Int32) = nI 900 from rfl, nI_add]; exact nI_le (by omega) (by omega))] at h
    have e1 := foM_n (v := a) en
    have e2 := foM_n (v := b) e1
    have e3 := foM_n (v := c) e2
    have e4 := foM_n (v := d) e3
    have e5 := foM_n (v := e) e4
    show X 8 [some (vR 12 0), some (vI a), some (vI b), some (vI c), some (vI d), some (vI e)] [] mm
    refine h (fun _ => false) 3000 8 _ _ _ ?_
    refine And.intro (show Pre_X12_four mm [vR 12 0, vI a] from ⟨n, a, en, by omega, rfl⟩) ?_
    refine And.intro (show Pre_X12_four (foM mm a) [vR 12 0, vI b] from ⟨_, b, e1, by omega, rfl⟩) ?_
    refine And.intro (show Pre_X12_four (foM (foM mm a) b) [vR 12 0, vI c] from ⟨_, c, e2, by omega, rfl⟩) ?_
    refine And.intro (show Pre_X12_four (foM (foM (foM mm a) b) c) [vR 12 0, vI d] from ⟨_, d, e3, by omega, rfl⟩) ?_
    refine And.intro (show Pre_X12_four (foM (foM (foM (foM mm a) b) c) d) [vR 12 0, vI e] from ⟨_, e, e4, by omega, rfl⟩) ?_
    show ((some (vI ((foM (foM (foM (foM (foM mm a) b) c) d) e).1 12 0 10)) : Option MV), foM (foM (foM (foM (foM mm a) b) c) d) e) = _
    rw [e5]
    refine leaf ?_ 
    rw [show (20 : Int32) = nI 20 from rfl, nI_add] 
    exact rfl
  show X 0 [some (vR 12 0), some (vI a), some (vI b), some (vI c), some (vI d), some (vI e)] [] mm
  refine h (fun i => Nat.beq i 8) 3000 0 _ _ _ ?_
  refine br_c (fun b5 => ?_) (fun b5 => ?_)
  · -- 5: (mm.1 12 0 10) + 20 ≤ 900 taken
    replace b5 : (mm.1 12 0 10) + 20 ≤ 900 := b5
    rw [en, show (20 : Int32) = nI 20 from rfl, show (900 : Int32) = nI 900 from rfl, nI_add, nI_leI (by omega) (by omega)] at b5
    show X 8 [some (vR 12 0), some (vI a), some (vI b), some (vI c), some (vI d), some (vI e)] [] mm
    exact yes b5
  · -- 5: (mm.1 12 0 10) + 20 ≤ 900 on
    replace b5 : ¬ ((mm.1 12 0 10) + 20 ≤ 900) := b5
    rw [en, show (20 : Int32) = nI 20 from rfl, show (900 : Int32) = nI 900 from rfl, nI_add, nI_leI (by omega) (by omega)] at b5
    show ((some (vI (-1)) : Option MV), mm) = _
    refine leaf ?_
    rw [if_neg (by rw [show (20 : Int32) = nI 20 from rfl, show (900 : Int32) = nI 900 from rfl, nI_add, nI_leI (by omega) (by omega)]; exact b5)]
theorem con_X12_feed (l : Launch) : CON l y_X12_feed prog_14_method_20_code 6 (some .int) rm_X12_feed Pre_X12_feed Fn_X12_feed := CON_of (by decide) rfl rfl (sa_X12_feed l) vc_X12_feed
/-- a text's byte at a place; none -/
def btF (T : Nat → Int32) (S k : Nat) : Int32 := if k < S then T k &&& 255 else -1
theorem btF_n {T : Nat → Int32} {S k : Nat} (h : S ≤ k) : btF T S k = -1 := if_neg (by omega)
theorem btF_y {T : Nat → Int32} {S k : Nat} (h : ¬ btF T S k = -1) : k < S := by
  rcases Nat.lt_or_ge k S with z | z
  · exact z
  · exact absurd (btF_n z) h

def Pre_X12_byteAt : PreT := fun m as => ∃ S k : Nat, m.1 12 0 11 = nI S ∧ S ≤ 900 ∧ k < 100000 ∧ as = [vR 12 0, vI (nI k)]
def Fn_X12_byteAt : FnT := fun m as => match as with
  | [_, Sum.inl x] => (some (vI (btF (m.1 60 0) (m.1 12 0 11).toNatClampNeg x.toNatClampNeg)), m)
  | _ => (none, m)
--tpl ⟨_, _, hS, hS9, by omega, rfl⟩ || btF ({r 1 60 0}) ({r 1 12 0 11}).toNatClampNeg {1n}
abbrev y_X12_byteAt : MethodName := ⟨"GivenUpModel", "byteAt", "(I)I"⟩
def P_X12_byteAt : List StpT := [s_iload 1, s_aload 0, s_getI 12 11, s_icge 11, s_aload 0, s_getR 12 9 60, s_iload 1, s_bald, s_ic (255), s_iand, s_goto 12, s_ic (-1), s_iret]
def pc_X12_byteAt : Nat → Nat := fun i => [0, 1, 2, 5, 8, 9, 12, 13, 14, 17, 18, 21, 22].getD i 0
def dl_X12_byteAt : List (Nat × Instr × Nat) := [(0, .iload_n 1, 1), (1, .aload_n 0, 1), (2, .getfield 117, 3), (5, .if_icmp .ge 16, 3), (8, .aload_n 0, 1), (9, .getfield 34, 3), (12, .iload_n 1, 1), (13, .baload, 1), (14, .sipush 255, 3), (17, .iand, 1), (18, .goto 4, 3), (21, .iconst (-1), 1), (22, .ireturn, 1)]
theorem dc_X12_byteAt : DEC prog_14_method_22_code pc_X12_byteAt dl_X12_byteAt := DEC_of (by decide +kernel)
abbrev rm_X12_byteAt : Room := { frames := 0, cells := 0, slots := 0, locals := 0 }
set_option maxRecDepth 20000 in
theorem sa_X12_byteAt (l : Launch) : SNDALL l prog_14_method_22_code "GivenUpModel" 2 (some .int) rm_X12_byteAt P_X12_byteAt pc_X12_byteAt := fun p e s m args below meth c cells slots Q D dA ad A RR hC hR => by
  have hM := RTX_room (R := rm_X12_byteAt) hR
  exact ⟨st_iload_n hC (n := 0) (k := 1) (dc_X12_byteAt 0 (0, .iload_n 1, 1) rfl rfl) rfl rfl,
    st_aload_n hC (n := 1) (k := 0) (dc_X12_byteAt 1 (1, .aload_n 0, 1) rfl rfl) rfl rfl,
    st_getI hC (n := 2) (k := 12) (j := 11) (dc_X12_byteAt 2 (2, .getfield 117, 3) rfl rfl) rfl clf_12 (by decide) rfl wd_1563,
    st_icge hC (n := 3) (dc_X12_byteAt 3 (5, .if_icmp .ge 16, 3) rfl rfl) rfl (by decide),
    st_aload_n hC (n := 4) (k := 0) (dc_X12_byteAt 4 (8, .aload_n 0, 1) rfl rfl) rfl rfl,
    st_getR hC (n := 5) (k := 12) (j := 9) (dc_X12_byteAt 5 (9, .getfield 34, 3) rfl rfl) rfl clf_12 (by decide) rfl (by decide) wd_1561,
    st_iload_n hC (n := 6) (k := 1) (dc_X12_byteAt 6 (12, .iload_n 1, 1) rfl rfl) rfl rfl,
    st_bald hC (n := 7) (dc_X12_byteAt 7 (13, .baload, 1) rfl rfl) rfl,
    st_sipush hC (n := 8) (x := 255) (dc_X12_byteAt 8 (14, .sipush 255, 3) rfl rfl) rfl (by decide),
    st_iand hC (n := 9) (dc_X12_byteAt 9 (17, .iand, 1) rfl rfl) rfl,
    st_goto hC (n := 10) (dc_X12_byteAt 10 (18, .goto 4, 3) rfl rfl) (by decide),
    st_iconst hC (n := 11) (x := (-1)) (dc_X12_byteAt 11 (21, .iconst (-1), 1) rfl rfl) rfl (by decide),
    st_iret hC (n := 12) hR (dc_X12_byteAt 12 (22, .ireturn, 1) rfl rfl), trivial⟩
set_option maxRecDepth 8000 in
theorem vc_X12_byteAt : VC P_X12_byteAt 2 Pre_X12_byteAt Fn_X12_byteAt := by
  rintro mm as hom hoa ⟨S, k, hS, hS9, hk, rfl⟩
  refine ⟨Nat.le_of_ble_eq_true rfl, fun X h => ?_⟩
  have ek : (nI k).toNatClampNeg = k := nI_clamp (by omega)
  have hF : Fn_X12_byteAt mm [vR 12 0, vI (nI k)] = (some (vI (btF (mm.1 60 0) S k)), mm) := by
    show (some (vI (btF (mm.1 60 0) (mm.1 12 0 11).toNatClampNeg (nI k).toNatClampNeg)), mm) = _
    rw [hS, nI_clamp (by omega), ek]
  rw [hF] at h
  unfold btF at h
  show X 0 [some (vR 12 0), some (vI (nI k))] [] mm
  refine h (fun _ => false) 3000 0 _ _ _ ?_
  refine br_c (fun b3 => ?_) (fun b3 => ?_)
  · -- 3: mm.1 12 0 11 ≤ nI k taken
    replace b3 : mm.1 12 0 11 ≤ nI k := b3
    rw [hS, nI_leI (by omega) (by omega)] at b3
    show ((some (vI (-1)) : Option MV), mm) = _
    refine leaf ?_
    rw [if_neg (by omega)]
  · -- 3: mm.1 12 0 11 ≤ nI k on
    replace b3 : ¬ (mm.1 12 0 11 ≤ nI k) := b3
    rw [hS, nI_leI (by omega) (by omega)] at b3
    refine And.intro (show inb (nI k) (alen 60) = true from (inb_o 900 rfl rfl rfl (by omega))) ?_
    show ((some (vI ((mm.1 60 0 ((nI k).toNatClampNeg)) &&& 255)) : Option MV), mm) = _
    rw [ek]
    refine leaf ?_
    rw [if_pos (by omega)]
theorem con_X12_byteAt (l : Launch) : CON l y_X12_byteAt prog_14_method_22_code 2 (some .int) rm_X12_byteAt Pre_X12_byteAt Fn_X12_byteAt := CON_of (by decide) rfl rfl (sa_X12_byteAt l) vc_X12_byteAt
/-- as far as it goes -/
def adv (P : Nat → Prop) [DecidablePred P] : Nat → Nat → Nat
  | 0, e => e
  | f + 1, e => if P e then adv P f (e + 1) else e
theorem adv_ge (P : Nat → Prop) [DecidablePred P] : ∀ f e, e ≤ adv P f e
  | 0, _ => Nat.le_refl _
  | f + 1, e => by
    rw [adv]
    split
    · exact Nat.le_trans (Nat.le_succ e) (adv_ge P f (e + 1))
    · exact Nat.le_refl _
theorem adv_le (P : Nat → Prop) [DecidablePred P] : ∀ f e, adv P f e ≤ e + f
  | 0, _ => Nat.le_refl _
  | f + 1, e => by
    rw [adv]
    split
    · have := adv_le P f (e + 1); omega
    · omega
theorem adv_y {P : Nat → Prop} [DecidablePred P] {f e : Nat} (h : P e) : adv P (f + 1) e = adv P f (e + 1) := if_pos h
theorem adv_n {P : Nat → Prop} [DecidablePred P] {f e : Nat} (h : ¬ P e) : adv P f e = e := by
  cases f with
  | zero => rfl
  | succ f => exact if_neg h
/-- where it ends it doesn't hold, if there is room -/
theorem adv_end {P : Nat → Prop} [DecidablePred P] {S : Nat} (hP : ∀ j, P j → j < S) : ∀ f e, S ≤ e + f → ¬ P (adv P f e)
  | 0, e, h => fun z => by have := hP _ z; rw [adv] at this; omega
  | f + 1, e, h => by
    rw [adv]
    split
    · exact adv_end hP f (e + 1) (by omega)
    · assumption
theorem adv_all {P : Nat → Prop} [DecidablePred P] : ∀ f e j, e ≤ j → j < adv P f e → P j
  | 0, e, j, h1, h2 => by rw [adv] at h2; omega
  | f + 1, e, j, h1, h2 => by
    rw [adv] at h2
    split at h2
    · rename_i hp
      rcases Nat.eq_or_lt_of_le h1 with q | q
      · rw [← q]; exact hp
      · exact adv_all f (e + 1) j q h2
    · omega
abbrev isLt (c : Int32) : Prop := ¬ c < 97 ∧ ¬ 122 < c
abbrev isDg (c : Int32) : Prop := ¬ c < 48 ∧ ¬ 57 < c
abbrev isBl (c : Int32) : Prop := c = 32 ∨ c = 10
abbrev isSg (c : Int32) : Prop := c = 59 ∨ c = 60 ∨ c = 62 ∨ c = 61
theorem isLt_S {T : Nat → Int32} {S j : Nat} (h : isLt (btF T S j)) : j < S := btF_y (fun e => by rw [e] at h; revert h; decide)
theorem isDg_S {T : Nat → Int32} {S j : Nat} (h : isDg (btF T S j)) : j < S := btF_y (fun e => by rw [e] at h; revert h; decide)
theorem isBl_S {T : Nat → Int32} {S j : Nat} (h : isBl (btF T S j)) : j < S := btF_y (fun e => by rw [e] at h; revert h; decide)
/-- the TOKEN from a place on: its begin, its end, its kind, its value -/
def tkS (T : Nat → Int32) (S e : Nat) : Nat := adv (fun j => isBl (btF T S j)) (S - e) e
def tkL (T : Nat → Int32) (S s : Nat) : Nat := adv (fun j => isLt (btF T S j)) (S - s) s
def tkD (T : Nat → Int32) (S s : Nat) : Nat := adv (fun j => isDg (btF T S j)) (S - s) s
def tkE (T : Nat → Int32) (S s : Nat) : Nat := if btF T S s = -1 then s else if isLt (btF T S s) then tkL T S s else if isDg (btF T S s) then tkD T S s else s + 1
def tkK (T : Nat → Int32) (S s : Nat) : Int32 := if btF T S s = -1 then 0 else if isLt (btF T S s) then 2 else if isDg (btF T S s) then (if tkD T S s - s ≤ 4 then 3 else 1) else if isSg (btF T S s) then 4 else 1
def dgt1 (T : Nat → Int32) (S j : Nat) : Nat := (btF T S j).toNatClampNeg - 48
/-- the number of so many digits, cut -/
def nvF (T : Nat → Int32) (S s : Nat) : Nat → Nat
  | 0 => 0
  | n + 1 => min 100000 (10 * nvF T S s n + dgt1 T S (s + n))
theorem nvF_le (T : Nat → Int32) (S s : Nat) : ∀ n, nvF T S s n ≤ 100000
  | 0 => Nat.zero_le _
  | n + 1 => by rw [nvF]; omega
def tkV (T : Nat → Int32) (S s : Nat) : Int32 := if isDg (btF T S s) then nI (nvF T S s (tkD T S s - s)) else btF T S s
theorem isLt_Dg {c : Int32} (h : isLt c) : ¬ isDg c := fun z => h.1 (Int32.lt_of_le_of_lt (Int32.not_lt.mp z.2) (by decide))
theorem minD {v w : Nat} (hv : v ≤ 100000) (hw : w ≤ 9) : (if 10 * nI v + nI (48 + w) - 48 < 100000 then 10 * nI v + nI (48 + w) - 48 else 100000) = nI (min 100000 (10 * v + w)) := by
  have e : 10 * nI v + nI (48 + w) - 48 = nI (10 * v + w) := by
    rw [show (10 : Int32) = nI 10 from rfl, pk_mul, nI_add, show (48 : Int32) = nI 48 from rfl, nI_sb (by omega)]
    congr 1
    omega
  rw [e, show (100000 : Int32) = nI 100000 from rfl]
  by_cases h : 10 * v + w < 100000
  · rw [if_pos ((nI_ltI (by omega) (by omega)).mpr h)]
    congr 1
    omega
  · rw [if_neg (fun z => h ((nI_ltI (by omega) (by omega)).mp z))]
    congr 1
    omega
theorem isDg_v {T : Nat → Int32} {S j : Nat} (h : isDg (btF T S j)) : ∃ d, d ≤ 9 ∧ dgt1 T S j = d ∧ btF T S j = nI (48 + d) := by
  obtain ⟨k, hk, e⟩ := nI_of2 (n := 57) (x := btF T S j) (by decide) (by
    have h1 : ¬ btF T S j < 48 := h.1
    intro z
    exact h1 (Int32.lt_trans z (by decide))) (Int32.not_lt.mp h.2)
  have h48 : 48 ≤ k := by
    have h1 : ¬ btF T S j < 48 := h.1
    rw [e, show (48 : Int32) = nI 48 from rfl, nI_ltI (by omega) (by omega)] at h1
    omega
  refine ⟨k - 48, by omega, ?_, ?_⟩
  · unfold dgt1
    rw [e, nI_clamp (by omega)]
  · rw [e]
    congr 1
    omega
theorem tkS_ge (T : Nat → Int32) (S e : Nat) : e ≤ tkS T S e := adv_ge _ _ _
theorem tkS_le (T : Nat → Int32) {S e : Nat} (h : e ≤ S) : tkS T S e ≤ S := by
  have := adv_le (fun j => isBl (btF T S j)) (S - e) e
  unfold tkS
  omega
theorem tkE_ge (T : Nat → Int32) (S s : Nat) : s ≤ tkE T S s := by
  unfold tkE
  repeat' split
  · exact Nat.le_refl _
  · exact adv_ge _ _ _
  · exact adv_ge _ _ _
  · omega
theorem tkE_le (T : Nat → Int32) {S s : Nat} (h : s ≤ S) : tkE T S s ≤ S := by
  unfold tkE
  split
  · exact h
  rename_i h0
  have := btF_y h0
  split
  · have := adv_le (fun j => isLt (btF T S j)) (S - s) s
    unfold tkL
    omega
  split
  · have := adv_le (fun j => isDg (btF T S j)) (S - s) s
    unfold tkD
    omega
  · omega
/-- the row of fields, with a TOKEN -/
def tkR (f : Nat → Int32) (k s e v : Int32) : Nat → Int32 := fun j => if j = 12 then k else if j = 13 then s else if j = 14 then e else if j = 15 then v else f j
def TK (m : MM) (k s e v : Int32) : MM := mRow m 12 0 (tkR (m.1 12 0) k s e v)
theorem tkR_u12 {f : Nat → Int32} {k s e v x : Int32} : upd (tkR f k s e v) 12 x = tkR f x s e v := by
  funext j; unfold upd tkR; repeat' split
  all_goals first | rfl | (exfalso; omega)
theorem tkR_u13 {f : Nat → Int32} {k s e v x : Int32} : upd (tkR f k s e v) 13 x = tkR f k x e v := by
  funext j; unfold upd tkR; repeat' split
  all_goals first | rfl | (exfalso; omega)
theorem tkR_u14 {f : Nat → Int32} {k s e v x : Int32} : upd (tkR f k s e v) 14 x = tkR f k s x v := by
  funext j; unfold upd tkR; repeat' split
  all_goals first | rfl | (exfalso; omega)
theorem tkR_u15 {f : Nat → Int32} {k s e v x : Int32} : upd (tkR f k s e v) 15 x = tkR f k s e x := by
  funext j; unfold upd tkR; repeat' split
  all_goals first | rfl | (exfalso; omega)
theorem TK12 {m : MM} {k s e v x : Int32} : mI (TK m k s e v) 12 0 12 x = TK m x s e v := by
  show mRow (mRow m 12 0 _) 12 0 (upd (tkR _ k s e v) 12 x) = _
  rw [mRow2, tkR_u12]; rfl
theorem TK13 {m : MM} {k s e v x : Int32} : mI (TK m k s e v) 12 0 13 x = TK m k x e v := by
  show mRow (mRow m 12 0 _) 12 0 (upd (tkR _ k s e v) 13 x) = _
  rw [mRow2, tkR_u13]; rfl
theorem TK14 {m : MM} {k s e v x : Int32} : mI (TK m k s e v) 12 0 14 x = TK m k s x v := by
  show mRow (mRow m 12 0 _) 12 0 (upd (tkR _ k s e v) 14 x) = _
  rw [mRow2, tkR_u14]; rfl
theorem TK15 {m : MM} {k s e v x : Int32} : mI (TK m k s e v) 12 0 15 x = TK m k s e x := by
  show mRow (mRow m 12 0 _) 12 0 (upd (tkR _ k s e v) 15 x) = _
  rw [mRow2, tkR_u15]; rfl
theorem TK_self (m : MM) : TK m (m.1 12 0 12) (m.1 12 0 13) (m.1 12 0 14) (m.1 12 0 15) = m := by
  have : tkR (m.1 12 0) (m.1 12 0 12) (m.1 12 0 13) (m.1 12 0 14) (m.1 12 0 15) = m.1 12 0 := by
    funext j; unfold tkR; repeat' split
    all_goals first | rfl | (rename_i z; rw [z]) | simp_all
  unfold TK
  rw [this]
  exact mRow_self _ _ _
/-- the model's TOKEN from a place on -/
def tkM (m : MM) (s : Nat) : MM := TK m (tkK (m.1 60 0) (m.1 12 0 11).toNatClampNeg s) (nI s) (nI (tkE (m.1 60 0) (m.1 12 0 11).toNatClampNeg s)) (tkV (m.1 60 0) (m.1 12 0 11).toNatClampNeg s)
def ahM (m : MM) : MM := tkM m (tkS (m.1 60 0) (m.1 12 0 11).toNatClampNeg (m.1 12 0 14).toNatClampNeg)
theorem sg_dec {c : Int32} : isSg c ↔ c = 59 ∨ c = 60 ∨ c = 62 ∨ c = 61 := Iff.rfl

--tpl ⟨_, _, by assumption, by omega, by assumption, by omega, rfl⟩ ||  || ahM {m}
def Pre_X12_ahead : PreT := fun m as => ∃ S E : Nat, m.1 12 0 11 = nI S ∧ S ≤ 900 ∧ m.1 12 0 14 = nI E ∧ E ≤ S ∧ as = [vR 12 0]
def Fn_X12_ahead : FnT := fun m _ => (none, ahM m)
abbrev y_X12_ahead : MethodName := ⟨"GivenUpModel", "ahead", "()V"⟩
def P_X12_ahead : List StpT := [s_aload 0, s_aload 0, s_getI 12 14, s_callV 12 1 Pre_X12_byteAt Fn_X12_byteAt, s_ic (32), s_iceq 12, s_aload 0, s_aload 0, s_getI 12 14, s_callV 12 1 Pre_X12_byteAt Fn_X12_byteAt, s_ic (10), s_icne 19, s_aload 0, s_dup, s_getI 12 14, s_ic (1), s_iadd, s_putI 12 14, s_goto 0, s_aload 0, s_aload 0, s_getI 12 14, s_putI 12 13, s_aload 0, s_aload 0, s_getI 12 14, s_callV 12 1 Pre_X12_byteAt Fn_X12_byteAt, s_istore 1, s_aload 0, s_iload 1, s_putI 12 15, s_iload 1, s_ic (-1), s_icne 38, s_aload 0, s_ic (0), s_putI 12 12, s_goto 128, s_iload 1, s_callS 1 Pre_X12_isSmall Fn_X12_isSmall, s_ifeq 58, s_aload 0, s_aload 0, s_getI 12 14, s_callV 12 1 Pre_X12_byteAt Fn_X12_byteAt, s_callS 1 Pre_X12_isSmall Fn_X12_isSmall, s_ifeq 54, s_aload 0, s_dup, s_getI 12 14, s_ic (1), s_iadd, s_putI 12 14, s_goto 41, s_aload 0, s_ic (2), s_putI 12 12, s_goto 128, s_iload 1, s_callS 1 Pre_X12_isDigit Fn_X12_isDigit, s_ifeq 105, s_aload 0, s_ic (0), s_putI 12 15, s_aload 0, s_aload 0, s_getI 12 14, s_callV 12 1 Pre_X12_byteAt Fn_X12_byteAt, s_callS 1 Pre_X12_isDigit Fn_X12_isDigit, s_ifeq 92, s_aload 0, s_ic (100000), s_ic (10), s_aload 0, s_getI 12 15, s_imul, s_aload 0, s_aload 0, s_getI 12 14, s_callV 12 1 Pre_X12_byteAt Fn_X12_byteAt, s_iadd, s_ic (48), s_isub, s_callS 2 Pre_J9_min_7cf53 Fn_J9_min_7cf53, s_putI 12 15, s_aload 0, s_dup, s_getI 12 14, s_ic (1), s_iadd, s_putI 12 14, s_goto 64, s_aload 0, s_aload 0, s_getI 12 14, s_aload 0, s_getI 12 13, s_isub, s_ic (4), s_icle 102, s_ic (1), s_goto 103, s_ic (3), s_putI 12 12, s_goto 128, s_aload 0, s_dup, s_getI 12 14, s_ic (1), s_iadd, s_putI 12 14, s_aload 0, s_iload 1, s_ic (59), s_iceq 124, s_iload 1, s_ic (60), s_iceq 124, s_iload 1, s_ic (62), s_iceq 124, s_iload 1, s_ic (61), s_icne 126, s_ic (4), s_goto 127, s_ic (1), s_putI 12 12, s_vret]
def pc_X12_ahead : Nat → Nat := fun i => [0, 1, 2, 5, 8, 10, 13, 14, 15, 18, 21, 23, 26, 27, 28, 31, 32, 33, 36, 39, 40, 41, 44, 47, 48, 49, 52, 55, 56, 57, 58, 61, 62, 63, 66, 67, 68, 71, 74, 75, 78, 81, 82, 83, 86, 89, 92, 95, 96, 97, 100, 101, 102, 105, 108, 109, 110, 113, 116, 117, 120, 123, 124, 125, 128, 129, 130, 133, 136, 139, 142, 143, 145, 147, 148, 151, 152, 153, 154, 157, 160, 161, 163, 164, 167, 170, 171, 172, 175, 176, 177, 180, 183, 184, 185, 188, 189, 192, 193, 194, 197, 198, 201, 202, 205, 208, 209, 210, 213, 214, 215, 218, 219, 220, 222, 225, 226, 228, 231, 232, 234, 237, 238, 240, 243, 244, 247, 248, 251].getD i 0
def dl_X12_ahead : List (Nat × Instr × Nat) := [(0, .aload_n 0, 1), (1, .aload_n 0, 1), (2, .getfield 120, 3), (5, .invokevirtual 123, 3), (8, .bipush 32, 2), (10, .if_icmp .eq 16, 3), (13, .aload_n 0, 1), (14, .aload_n 0, 1), (15, .getfield 120, 3), (18, .invokevirtual 123, 3), (21, .bipush 10, 2), (23, .if_icmp .ne 16, 3), (26, .aload_n 0, 1), (27, .dup, 1), (28, .getfield 120, 3), (31, .iconst 1, 1), (32, .iadd, 1), (33, .putfield 120, 3), (36, .goto (-36), 3), (39, .aload_n 0, 1), (40, .aload_n 0, 1), (41, .getfield 120, 3), (44, .putfield 126, 3), (47, .aload_n 0, 1), (48, .aload_n 0, 1), (49, .getfield 120, 3), (52, .invokevirtual 123, 3), (55, .istore_n 1, 1), (56, .aload_n 0, 1), (57, .iload_n 1, 1), (58, .putfield 129, 3), (61, .iload_n 1, 1), (62, .iconst (-1), 1), (63, .if_icmp .ne 11, 3), (66, .aload_n 0, 1), (67, .iconst 0, 1), (68, .putfield 132, 3), (71, .goto 180, 3), (74, .iload_n 1, 1), (75, .invokestatic 135, 3), (78, .ifCond .eq 38, 3), (81, .aload_n 0, 1), (82, .aload_n 0, 1), (83, .getfield 120, 3), (86, .invokevirtual 123, 3), (89, .invokestatic 135, 3), (92, .ifCond .eq 16, 3), (95, .aload_n 0, 1), (96, .dup, 1), (97, .getfield 120, 3), (100, .iconst 1, 1), (101, .iadd, 1), (102, .putfield 120, 3), (105, .goto (-24), 3), (108, .aload_n 0, 1), (109, .iconst 2, 1), (110, .putfield 132, 3), (113, .goto 138, 3), (116, .iload_n 1, 1), (117, .invokestatic 138, 3), (120, .ifCond .eq 88, 3), (123, .aload_n 0, 1), (124, .iconst 0, 1), (125, .putfield 129, 3), (128, .aload_n 0, 1), (129, .aload_n 0, 1), (130, .getfield 120, 3), (133, .invokevirtual 123, 3), (136, .invokestatic 138, 3), (139, .ifCond .eq 44, 3), (142, .aload_n 0, 1), (143, .ldc 141, 2), (145, .bipush 10, 2), (147, .aload_n 0, 1), (148, .getfield 129, 3), (151, .imul, 1), (152, .aload_n 0, 1), (153, .aload_n 0, 1), (154, .getfield 120, 3), (157, .invokevirtual 123, 3), (160, .iadd, 1), (161, .bipush 48, 2), (163, .isub, 1), (164, .invokestatic 142, 3), (167, .putfield 129, 3), (170, .aload_n 0, 1), (171, .dup, 1), (172, .getfield 120, 3), (175, .iconst 1, 1), (176, .iadd, 1), (177, .putfield 120, 3), (180, .goto (-52), 3), (183, .aload_n 0, 1), (184, .aload_n 0, 1), (185, .getfield 120, 3), (188, .aload_n 0, 1), (189, .getfield 126, 3), (192, .isub, 1), (193, .iconst 4, 1), (194, .if_icmp .le 7, 3), (197, .iconst 1, 1), (198, .goto 4, 3), (201, .iconst 3, 1), (202, .putfield 132, 3), (205, .goto 46, 3), (208, .aload_n 0, 1), (209, .dup, 1), (210, .getfield 120, 3), (213, .iconst 1, 1), (214, .iadd, 1), (215, .putfield 120, 3), (218, .aload_n 0, 1), (219, .iload_n 1, 1), (220, .bipush 59, 2), (222, .if_icmp .eq 21, 3), (225, .iload_n 1, 1), (226, .bipush 60, 2), (228, .if_icmp .eq 15, 3), (231, .iload_n 1, 1), (232, .bipush 62, 2), (234, .if_icmp .eq 9, 3), (237, .iload_n 1, 1), (238, .bipush 61, 2), (240, .if_icmp .ne 7, 3), (243, .iconst 4, 1), (244, .goto 4, 3), (247, .iconst 1, 1), (248, .putfield 132, 3), (251, .return_, 1)]
theorem dc_X12_ahead : DEC prog_14_method_25_code pc_X12_ahead dl_X12_ahead := DEC_of (by decide +kernel)
abbrev rm_X12_ahead : Room := { frames := 1, cells := 0, slots := 0, locals := 21 }
set_option maxRecDepth 20000 in
theorem sa_X12_ahead (l : Launch) : SNDALL l prog_14_method_25_code "GivenUpModel" 2 none rm_X12_ahead P_X12_ahead pc_X12_ahead := fun p e s m args below meth c cells slots Q D dA ad A RR hC hR => by
  have hM := RTX_room (R := rm_X12_ahead) hR
  exact ⟨st_aload_n hC (n := 0) (k := 0) (dc_X12_ahead 0 (0, .aload_n 0, 1) rfl rfl) rfl rfl,
    st_aload_n hC (n := 1) (k := 0) (dc_X12_ahead 1 (1, .aload_n 0, 1) rfl rfl) rfl rfl,
    st_getI hC (n := 2) (k := 12) (j := 14) (dc_X12_ahead 2 (2, .getfield 120, 3) rfl rfl) rfl clf_12 (by decide) rfl wd_1566,
    st_callV hC (n := 3) (k := 12) (na := 1) (con_X12_byteAt l) (dc_X12_ahead 3 (5, .invokevirtual 123, 3) rfl rfl) rfl wd_1746 wd_160 (by decide) ⟨rfl, rfl, by decide, by decide⟩ hM wd_1743 wd_1745 wd_56 clf_12,
    st_bipush hC (n := 4) (x := 32) (dc_X12_ahead 4 (8, .bipush 32, 2) rfl rfl) rfl (by decide),
    st_iceq hC (n := 5) (dc_X12_ahead 5 (10, .if_icmp .eq 16, 3) rfl rfl) rfl (by decide),
    st_aload_n hC (n := 6) (k := 0) (dc_X12_ahead 6 (13, .aload_n 0, 1) rfl rfl) rfl rfl,
    st_aload_n hC (n := 7) (k := 0) (dc_X12_ahead 7 (14, .aload_n 0, 1) rfl rfl) rfl rfl,
    st_getI hC (n := 8) (k := 12) (j := 14) (dc_X12_ahead 8 (15, .getfield 120, 3) rfl rfl) rfl clf_12 (by decide) rfl wd_1566,
    st_callV hC (n := 9) (k := 12) (na := 1) (con_X12_byteAt l) (dc_X12_ahead 9 (18, .invokevirtual 123, 3) rfl rfl) rfl wd_1746 wd_160 (by decide) ⟨rfl, rfl, by decide, by decide⟩ hM wd_1743 wd_1745 wd_56 clf_12,
    st_bipush hC (n := 10) (x := 10) (dc_X12_ahead 10 (21, .bipush 10, 2) rfl rfl) rfl (by decide),
    st_icne hC (n := 11) (dc_X12_ahead 11 (23, .if_icmp .ne 16, 3) rfl rfl) rfl (by decide),
    st_aload_n hC (n := 12) (k := 0) (dc_X12_ahead 12 (26, .aload_n 0, 1) rfl rfl) rfl rfl,
    st_dup hC (n := 13) (dc_X12_ahead 13 (27, .dup, 1) rfl rfl) rfl,
    st_getI hC (n := 14) (k := 12) (j := 14) (dc_X12_ahead 14 (28, .getfield 120, 3) rfl rfl) rfl clf_12 (by decide) rfl wd_1566,
    st_iconst hC (n := 15) (x := 1) (dc_X12_ahead 15 (31, .iconst 1, 1) rfl rfl) rfl (by decide),
    st_iadd hC (n := 16) (dc_X12_ahead 16 (32, .iadd, 1) rfl rfl) rfl,
    st_putI hC (n := 17) (k := 12) (j := 14) (dc_X12_ahead 17 (33, .putfield 120, 3) rfl rfl) rfl clf_12 (by decide) rfl rfl rfl wd_1566,
    st_goto hC (n := 18) (dc_X12_ahead 18 (36, .goto (-36), 3) rfl rfl) (by decide),
    st_aload_n hC (n := 19) (k := 0) (dc_X12_ahead 19 (39, .aload_n 0, 1) rfl rfl) rfl rfl,
    st_aload_n hC (n := 20) (k := 0) (dc_X12_ahead 20 (40, .aload_n 0, 1) rfl rfl) rfl rfl,
    st_getI hC (n := 21) (k := 12) (j := 14) (dc_X12_ahead 21 (41, .getfield 120, 3) rfl rfl) rfl clf_12 (by decide) rfl wd_1566,
    st_putI hC (n := 22) (k := 12) (j := 13) (dc_X12_ahead 22 (44, .putfield 126, 3) rfl rfl) rfl clf_12 (by decide) rfl rfl rfl wd_1565,
    st_aload_n hC (n := 23) (k := 0) (dc_X12_ahead 23 (47, .aload_n 0, 1) rfl rfl) rfl rfl,
    st_aload_n hC (n := 24) (k := 0) (dc_X12_ahead 24 (48, .aload_n 0, 1) rfl rfl) rfl rfl,
    st_getI hC (n := 25) (k := 12) (j := 14) (dc_X12_ahead 25 (49, .getfield 120, 3) rfl rfl) rfl clf_12 (by decide) rfl wd_1566,
    st_callV hC (n := 26) (k := 12) (na := 1) (con_X12_byteAt l) (dc_X12_ahead 26 (52, .invokevirtual 123, 3) rfl rfl) rfl wd_1746 wd_160 (by decide) ⟨rfl, rfl, by decide, by decide⟩ hM wd_1743 wd_1745 wd_56 clf_12,
    st_istore_n hC (n := 27) (k := 1) (dc_X12_ahead 27 (55, .istore_n 1, 1) rfl rfl) rfl rfl (by decide),
    st_aload_n hC (n := 28) (k := 0) (dc_X12_ahead 28 (56, .aload_n 0, 1) rfl rfl) rfl rfl,
    st_iload_n hC (n := 29) (k := 1) (dc_X12_ahead 29 (57, .iload_n 1, 1) rfl rfl) rfl rfl,
    st_putI hC (n := 30) (k := 12) (j := 15) (dc_X12_ahead 30 (58, .putfield 129, 3) rfl rfl) rfl clf_12 (by decide) rfl rfl rfl wd_1567,
    st_iload_n hC (n := 31) (k := 1) (dc_X12_ahead 31 (61, .iload_n 1, 1) rfl rfl) rfl rfl,
    st_iconst hC (n := 32) (x := (-1)) (dc_X12_ahead 32 (62, .iconst (-1), 1) rfl rfl) rfl (by decide),
    st_icne hC (n := 33) (dc_X12_ahead 33 (63, .if_icmp .ne 11, 3) rfl rfl) rfl (by decide),
    st_aload_n hC (n := 34) (k := 0) (dc_X12_ahead 34 (66, .aload_n 0, 1) rfl rfl) rfl rfl,
    st_iconst hC (n := 35) (x := 0) (dc_X12_ahead 35 (67, .iconst 0, 1) rfl rfl) rfl (by decide),
    st_putI hC (n := 36) (k := 12) (j := 12) (dc_X12_ahead 36 (68, .putfield 132, 3) rfl rfl) rfl clf_12 (by decide) rfl rfl rfl wd_1564,
    st_goto hC (n := 37) (dc_X12_ahead 37 (71, .goto 180, 3) rfl rfl) (by decide),
    st_iload_n hC (n := 38) (k := 1) (dc_X12_ahead 38 (74, .iload_n 1, 1) rfl rfl) rfl rfl,
    st_callS hC (n := 39) (na := 1) (con_X12_isSmall l) (dc_X12_ahead 39 (75, .invokestatic 135, 3) rfl rfl) rfl wd_1749 wd_160 (by decide) ⟨rfl, rfl, by decide, by decide⟩ hM wd_1747 wd_1748,
    st_ifeq hC (n := 40) (dc_X12_ahead 40 (78, .ifCond .eq 38, 3) rfl rfl) rfl (by decide),
    st_aload_n hC (n := 41) (k := 0) (dc_X12_ahead 41 (81, .aload_n 0, 1) rfl rfl) rfl rfl,
    st_aload_n hC (n := 42) (k := 0) (dc_X12_ahead 42 (82, .aload_n 0, 1) rfl rfl) rfl rfl,
    st_getI hC (n := 43) (k := 12) (j := 14) (dc_X12_ahead 43 (83, .getfield 120, 3) rfl rfl) rfl clf_12 (by decide) rfl wd_1566,
    st_callV hC (n := 44) (k := 12) (na := 1) (con_X12_byteAt l) (dc_X12_ahead 44 (86, .invokevirtual 123, 3) rfl rfl) rfl wd_1746 wd_160 (by decide) ⟨rfl, rfl, by decide, by decide⟩ hM wd_1743 wd_1745 wd_56 clf_12,
    st_callS hC (n := 45) (na := 1) (con_X12_isSmall l) (dc_X12_ahead 45 (89, .invokestatic 135, 3) rfl rfl) rfl wd_1749 wd_160 (by decide) ⟨rfl, rfl, by decide, by decide⟩ hM wd_1747 wd_1748,
    st_ifeq hC (n := 46) (dc_X12_ahead 46 (92, .ifCond .eq 16, 3) rfl rfl) rfl (by decide),
    st_aload_n hC (n := 47) (k := 0) (dc_X12_ahead 47 (95, .aload_n 0, 1) rfl rfl) rfl rfl,
    st_dup hC (n := 48) (dc_X12_ahead 48 (96, .dup, 1) rfl rfl) rfl,
    st_getI hC (n := 49) (k := 12) (j := 14) (dc_X12_ahead 49 (97, .getfield 120, 3) rfl rfl) rfl clf_12 (by decide) rfl wd_1566,
    st_iconst hC (n := 50) (x := 1) (dc_X12_ahead 50 (100, .iconst 1, 1) rfl rfl) rfl (by decide),
    st_iadd hC (n := 51) (dc_X12_ahead 51 (101, .iadd, 1) rfl rfl) rfl,
    st_putI hC (n := 52) (k := 12) (j := 14) (dc_X12_ahead 52 (102, .putfield 120, 3) rfl rfl) rfl clf_12 (by decide) rfl rfl rfl wd_1566,
    st_goto hC (n := 53) (dc_X12_ahead 53 (105, .goto (-24), 3) rfl rfl) (by decide),
    st_aload_n hC (n := 54) (k := 0) (dc_X12_ahead 54 (108, .aload_n 0, 1) rfl rfl) rfl rfl,
    st_iconst hC (n := 55) (x := 2) (dc_X12_ahead 55 (109, .iconst 2, 1) rfl rfl) rfl (by decide),
    st_putI hC (n := 56) (k := 12) (j := 12) (dc_X12_ahead 56 (110, .putfield 132, 3) rfl rfl) rfl clf_12 (by decide) rfl rfl rfl wd_1564,
    st_goto hC (n := 57) (dc_X12_ahead 57 (113, .goto 138, 3) rfl rfl) (by decide),
    st_iload_n hC (n := 58) (k := 1) (dc_X12_ahead 58 (116, .iload_n 1, 1) rfl rfl) rfl rfl,
    st_callS hC (n := 59) (na := 1) (con_X12_isDigit l) (dc_X12_ahead 59 (117, .invokestatic 138, 3) rfl rfl) rfl wd_1752 wd_160 (by decide) ⟨rfl, rfl, by decide, by decide⟩ hM wd_1750 wd_1751,
    st_ifeq hC (n := 60) (dc_X12_ahead 60 (120, .ifCond .eq 88, 3) rfl rfl) rfl (by decide),
    st_aload_n hC (n := 61) (k := 0) (dc_X12_ahead 61 (123, .aload_n 0, 1) rfl rfl) rfl rfl,
    st_iconst hC (n := 62) (x := 0) (dc_X12_ahead 62 (124, .iconst 0, 1) rfl rfl) rfl (by decide),
    st_putI hC (n := 63) (k := 12) (j := 15) (dc_X12_ahead 63 (125, .putfield 129, 3) rfl rfl) rfl clf_12 (by decide) rfl rfl rfl wd_1567,
    st_aload_n hC (n := 64) (k := 0) (dc_X12_ahead 64 (128, .aload_n 0, 1) rfl rfl) rfl rfl,
    st_aload_n hC (n := 65) (k := 0) (dc_X12_ahead 65 (129, .aload_n 0, 1) rfl rfl) rfl rfl,
    st_getI hC (n := 66) (k := 12) (j := 14) (dc_X12_ahead 66 (130, .getfield 120, 3) rfl rfl) rfl clf_12 (by decide) rfl wd_1566,
    st_callV hC (n := 67) (k := 12) (na := 1) (con_X12_byteAt l) (dc_X12_ahead 67 (133, .invokevirtual 123, 3) rfl rfl) rfl wd_1746 wd_160 (by decide) ⟨rfl, rfl, by decide, by decide⟩ hM wd_1743 wd_1745 wd_56 clf_12,
    st_callS hC (n := 68) (na := 1) (con_X12_isDigit l) (dc_X12_ahead 68 (136, .invokestatic 138, 3) rfl rfl) rfl wd_1752 wd_160 (by decide) ⟨rfl, rfl, by decide, by decide⟩ hM wd_1750 wd_1751,
    st_ifeq hC (n := 69) (dc_X12_ahead 69 (139, .ifCond .eq 44, 3) rfl rfl) rfl (by decide),
    st_aload_n hC (n := 70) (k := 0) (dc_X12_ahead 70 (142, .aload_n 0, 1) rfl rfl) rfl rfl,
    st_ldc hC (n := 71) (x := 100000) (dc_X12_ahead 71 (143, .ldc 141, 2) rfl rfl) rfl wd_1753,
    st_bipush hC (n := 72) (x := 10) (dc_X12_ahead 72 (145, .bipush 10, 2) rfl rfl) rfl (by decide),
    st_aload_n hC (n := 73) (k := 0) (dc_X12_ahead 73 (147, .aload_n 0, 1) rfl rfl) rfl rfl,
    st_getI hC (n := 74) (k := 12) (j := 15) (dc_X12_ahead 74 (148, .getfield 129, 3) rfl rfl) rfl clf_12 (by decide) rfl wd_1567,
    st_imul hC (n := 75) (dc_X12_ahead 75 (151, .imul, 1) rfl rfl) rfl,
    st_aload_n hC (n := 76) (k := 0) (dc_X12_ahead 76 (152, .aload_n 0, 1) rfl rfl) rfl rfl,
    st_aload_n hC (n := 77) (k := 0) (dc_X12_ahead 77 (153, .aload_n 0, 1) rfl rfl) rfl rfl,
    st_getI hC (n := 78) (k := 12) (j := 14) (dc_X12_ahead 78 (154, .getfield 120, 3) rfl rfl) rfl clf_12 (by decide) rfl wd_1566,
    st_callV hC (n := 79) (k := 12) (na := 1) (con_X12_byteAt l) (dc_X12_ahead 79 (157, .invokevirtual 123, 3) rfl rfl) rfl wd_1746 wd_160 (by decide) ⟨rfl, rfl, by decide, by decide⟩ hM wd_1743 wd_1745 wd_56 clf_12,
    st_iadd hC (n := 80) (dc_X12_ahead 80 (160, .iadd, 1) rfl rfl) rfl,
    st_bipush hC (n := 81) (x := 48) (dc_X12_ahead 81 (161, .bipush 48, 2) rfl rfl) rfl (by decide),
    st_isub hC (n := 82) (dc_X12_ahead 82 (163, .isub, 1) rfl rfl) rfl,
    st_callS hC (n := 83) (na := 2) (con_J9_min_7cf53 l) (dc_X12_ahead 83 (164, .invokestatic 142, 3) rfl rfl) rfl wd_855 wd_162 (by decide) ⟨rfl, rfl, by decide, by decide⟩ hM wd_1754 wd_854,
    st_putI hC (n := 84) (k := 12) (j := 15) (dc_X12_ahead 84 (167, .putfield 129, 3) rfl rfl) rfl clf_12 (by decide) rfl rfl rfl wd_1567,
    st_aload_n hC (n := 85) (k := 0) (dc_X12_ahead 85 (170, .aload_n 0, 1) rfl rfl) rfl rfl,
    st_dup hC (n := 86) (dc_X12_ahead 86 (171, .dup, 1) rfl rfl) rfl,
    st_getI hC (n := 87) (k := 12) (j := 14) (dc_X12_ahead 87 (172, .getfield 120, 3) rfl rfl) rfl clf_12 (by decide) rfl wd_1566,
    st_iconst hC (n := 88) (x := 1) (dc_X12_ahead 88 (175, .iconst 1, 1) rfl rfl) rfl (by decide),
    st_iadd hC (n := 89) (dc_X12_ahead 89 (176, .iadd, 1) rfl rfl) rfl,
    st_putI hC (n := 90) (k := 12) (j := 14) (dc_X12_ahead 90 (177, .putfield 120, 3) rfl rfl) rfl clf_12 (by decide) rfl rfl rfl wd_1566,
    st_goto hC (n := 91) (dc_X12_ahead 91 (180, .goto (-52), 3) rfl rfl) (by decide),
    st_aload_n hC (n := 92) (k := 0) (dc_X12_ahead 92 (183, .aload_n 0, 1) rfl rfl) rfl rfl,
    st_aload_n hC (n := 93) (k := 0) (dc_X12_ahead 93 (184, .aload_n 0, 1) rfl rfl) rfl rfl,
    st_getI hC (n := 94) (k := 12) (j := 14) (dc_X12_ahead 94 (185, .getfield 120, 3) rfl rfl) rfl clf_12 (by decide) rfl wd_1566,
    st_aload_n hC (n := 95) (k := 0) (dc_X12_ahead 95 (188, .aload_n 0, 1) rfl rfl) rfl rfl,
    st_getI hC (n := 96) (k := 12) (j := 13) (dc_X12_ahead 96 (189, .getfield 126, 3) rfl rfl) rfl clf_12 (by decide) rfl wd_1565,
    st_isub hC (n := 97) (dc_X12_ahead 97 (192, .isub, 1) rfl rfl) rfl,
    st_iconst hC (n := 98) (x := 4) (dc_X12_ahead 98 (193, .iconst 4, 1) rfl rfl) rfl (by decide),
    st_icle hC (n := 99) (dc_X12_ahead 99 (194, .if_icmp .le 7, 3) rfl rfl) rfl (by decide),
    st_iconst hC (n := 100) (x := 1) (dc_X12_ahead 100 (197, .iconst 1, 1) rfl rfl) rfl (by decide),
    st_goto hC (n := 101) (dc_X12_ahead 101 (198, .goto 4, 3) rfl rfl) (by decide),
    st_iconst hC (n := 102) (x := 3) (dc_X12_ahead 102 (201, .iconst 3, 1) rfl rfl) rfl (by decide),
    st_putI hC (n := 103) (k := 12) (j := 12) (dc_X12_ahead 103 (202, .putfield 132, 3) rfl rfl) rfl clf_12 (by decide) rfl rfl rfl wd_1564,
    st_goto hC (n := 104) (dc_X12_ahead 104 (205, .goto 46, 3) rfl rfl) (by decide),
    st_aload_n hC (n := 105) (k := 0) (dc_X12_ahead 105 (208, .aload_n 0, 1) rfl rfl) rfl rfl,
    st_dup hC (n := 106) (dc_X12_ahead 106 (209, .dup, 1) rfl rfl) rfl,
    st_getI hC (n := 107) (k := 12) (j := 14) (dc_X12_ahead 107 (210, .getfield 120, 3) rfl rfl) rfl clf_12 (by decide) rfl wd_1566,
    st_iconst hC (n := 108) (x := 1) (dc_X12_ahead 108 (213, .iconst 1, 1) rfl rfl) rfl (by decide),
    st_iadd hC (n := 109) (dc_X12_ahead 109 (214, .iadd, 1) rfl rfl) rfl,
    st_putI hC (n := 110) (k := 12) (j := 14) (dc_X12_ahead 110 (215, .putfield 120, 3) rfl rfl) rfl clf_12 (by decide) rfl rfl rfl wd_1566,
    st_aload_n hC (n := 111) (k := 0) (dc_X12_ahead 111 (218, .aload_n 0, 1) rfl rfl) rfl rfl,
    st_iload_n hC (n := 112) (k := 1) (dc_X12_ahead 112 (219, .iload_n 1, 1) rfl rfl) rfl rfl,
    st_bipush hC (n := 113) (x := 59) (dc_X12_ahead 113 (220, .bipush 59, 2) rfl rfl) rfl (by decide),
    st_iceq hC (n := 114) (dc_X12_ahead 114 (222, .if_icmp .eq 21, 3) rfl rfl) rfl (by decide),
    st_iload_n hC (n := 115) (k := 1) (dc_X12_ahead 115 (225, .iload_n 1, 1) rfl rfl) rfl rfl,
    st_bipush hC (n := 116) (x := 60) (dc_X12_ahead 116 (226, .bipush 60, 2) rfl rfl) rfl (by decide),
    st_iceq hC (n := 117) (dc_X12_ahead 117 (228, .if_icmp .eq 15, 3) rfl rfl) rfl (by decide),
    st_iload_n hC (n := 118) (k := 1) (dc_X12_ahead 118 (231, .iload_n 1, 1) rfl rfl) rfl rfl,
    st_bipush hC (n := 119) (x := 62) (dc_X12_ahead 119 (232, .bipush 62, 2) rfl rfl) rfl (by decide),
    st_iceq hC (n := 120) (dc_X12_ahead 120 (234, .if_icmp .eq 9, 3) rfl rfl) rfl (by decide),
    st_iload_n hC (n := 121) (k := 1) (dc_X12_ahead 121 (237, .iload_n 1, 1) rfl rfl) rfl rfl,
    st_bipush hC (n := 122) (x := 61) (dc_X12_ahead 122 (238, .bipush 61, 2) rfl rfl) rfl (by decide),
    st_icne hC (n := 123) (dc_X12_ahead 123 (240, .if_icmp .ne 7, 3) rfl rfl) rfl (by decide),
    st_iconst hC (n := 124) (x := 4) (dc_X12_ahead 124 (243, .iconst 4, 1) rfl rfl) rfl (by decide),
    st_goto hC (n := 125) (dc_X12_ahead 125 (244, .goto 4, 3) rfl rfl) (by decide),
    st_iconst hC (n := 126) (x := 1) (dc_X12_ahead 126 (247, .iconst 1, 1) rfl rfl) rfl (by decide),
    st_putI hC (n := 127) (k := 12) (j := 12) (dc_X12_ahead 127 (248, .putfield 132, 3) rfl rfl) rfl clf_12 (by decide) rfl rfl rfl wd_1564,
    st_vret hC (n := 128) hR (dc_X12_ahead 128 (251, .return_, 1) rfl rfl), trivial⟩
set_option maxRecDepth 8000 in
theorem vc_X12_ahead : VC P_X12_ahead 2 Pre_X12_ahead Fn_X12_ahead := by
  rintro mm as hom hoa ⟨S, E, hS, hS9, hE, hES, rfl⟩
  refine ⟨Nat.le_of_ble_eq_true rfl, fun X h => ?_⟩
  obtain ⟨T, hT⟩ : ∃ T, mm.1 60 0 = T := ⟨_, rfl⟩
  have hF : Fn_X12_ahead mm [vR 12 0] = (none, TK mm (tkK T S (tkS T S E)) (nI (tkS T S E)) (nI (tkE T S (tkS T S E))) (tkV T S (tkS T S E))) := by
    show (none, ahM mm) = _
    unfold ahM tkM
    rw [hS, hE, nI_clamp (by omega), nI_clamp (by omega), hT]
  rw [hF] at h
  obtain ⟨s, es⟩ : ∃ s, s = tkS T S E := ⟨_, rfl⟩
  have hsS : s ≤ S := by rw [es]; exact tkS_le T hES
  rw [← es] at h
  clear hF
  have hSn : (mm.1 12 0 11).toNatClampNeg = S := by rw [hS]; exact nI_clamp (by omega)
  have esn : (nI s).toNatClampNeg = s := nI_clamp (by omega)
  obtain ⟨C, hC⟩ : ∃ C, C = btF T S s := ⟨_, rfl⟩
  -- the end: a TOKEN that is known
  have fin : ∀ e v k, e = tkE T S s → v = tkV T S s → k = tkK T S s → X 128 [some (vR 12 0), some (vI (C))] [] (TK mm k (nI s) (nI e) v) := by
    rintro e v k rfl rfl rfl
    show X 128 [some (vR 12 0), some (vI C)] [] (TK mm (tkK T S s) (nI s) (nI (tkE T S s)) (tkV T S s))
    refine h (fun _ => false) 3000 128 _ _ _ ?_
    show ((none : Option MV), TK mm (tkK T S s) (nI s) (nI (tkE T S s)) (tkV T S s)) = _
    exact rfl
  have three : ∀ k0, X 31 [some (vR 12 0), some (vI (C))] [] (TK mm k0 (nI s) (nI s) C) := by
    intro k0
    have lett : isLt C → ¬ C = -1 → ∀ f e, S - e < f → e ≤ S → adv (fun j => isLt (btF T S j)) (S - e) e = tkL T S s → X 41 [some (vR 12 0), some (vI (C))] [] (TK mm k0 (nI s) (nI e) C) := by
      intro hl hn f
      induction f with
      | zero => intro e he1; omega
      | succ f ih =>
        intro e he1 he2 ha
        have ee : (nI e).toNatClampNeg = e := nI_clamp (by omega)
        show X 41 [some (vR 12 0), some (vI C)] [] (TK mm k0 (nI s) (nI e) C)
        refine h (fun i => Nat.beq i 41 || Nat.beq i 128) 3000 41 _ _ _ ?_
        refine And.intro (show Pre_X12_byteAt (TK mm k0 (nI s) (nI e) C) [vR 12 0, vI (nI e)] from ⟨_, _, hS, hS9, by omega, rfl⟩) ?_
        refine And.intro (show Pre_X12_isSmall (TK mm k0 (nI s) (nI e) C) [vI (btF (mm.1 60 0) (mm.1 12 0 11).toNatClampNeg (nI e).toNatClampNeg)] from ⟨_, rfl⟩) ?_
        refine br_c (fun b46 => ?_) (fun b46 => ?_)
        · -- 46: bI (¬ (btF (mm.1 60 0) (mm.1 12 0 11).toNatClampNeg (nI e).toNatClampNeg) < 97 ∧ ¬ 122 < (btF (mm.1 60 0) (mm.1 12 0 11).toNatClampNeg (nI e).toNatClampNeg)) = 0 taken
          replace b46 : ¬ (¬ (btF (mm.1 60 0) (mm.1 12 0 11).toNatClampNeg (nI e).toNatClampNeg) < 97 ∧ ¬ 122 < (btF (mm.1 60 0) (mm.1 12 0 11).toNatClampNeg (nI e).toNatClampNeg)) := bI_0.mp b46
          (try simp only [hT, hSn, ee] at b46)
          show X 128 [some (vR 12 0), some (vI C)] [] (mI (TK mm k0 (nI s) (nI e) C) 12 0 12 2)
          (try simp only [hT, hSn, ee])
          rw [TK12]
          rw [adv_n (P := fun j => isLt (btF T S j)) (e := e) b46] at ha 
          exact fin _ _ _ (by rw [ha]; unfold tkE; rw [← hC, if_neg hn, if_pos hl]) (by unfold tkV; rw [← hC, if_neg (isLt_Dg hl)]) (by unfold tkK; rw [← hC, if_neg hn, if_pos hl])
        · -- 46: bI (¬ (btF (mm.1 60 0) (mm.1 12 0 11).toNatClampNeg (nI e).toNatClampNeg) < 97 ∧ ¬ 122 < (btF (mm.1 60 0) (mm.1 12 0 11).toNatClampNeg (nI e).toNatClampNeg)) = 0 on
          replace b46 : ¬ (btF (mm.1 60 0) (mm.1 12 0 11).toNatClampNeg (nI e).toNatClampNeg) < 97 ∧ ¬ 122 < (btF (mm.1 60 0) (mm.1 12 0 11).toNatClampNeg (nI e).toNatClampNeg) := bI_n0.mp b46
          (try simp only [hT, hSn, ee] at b46)
          show X 41 [some (vR 12 0), some (vI C)] [] (mI (TK mm k0 (nI s) (nI e) C) 12 0 14 ((nI e) + 1))
          (try simp only [hT, hSn, ee])
          rw [TK14, nI_1]
          have hlt := isLt_S b46 
          refine ih (e + 1) (by omega) (by omega) ?_ 
          rw [show S - e = (S - (e + 1)) + 1 by omega, adv_y (P := fun j => isLt (btF T S j)) (e := e) b46] at ha 
          exact ha
    have sign : ¬ C = -1 → ¬ isLt C → ¬ isDg C → s < S → ∀ k, k = tkK T S s → X 127 [some (vR 12 0), some (vI (C))] [vI (k), vR 12 0] (TK mm k0 (nI s) (nI (s + 1)) C) := by
      intro hn hl hd hs k hk
      show X 127 [some (vR 12 0), some (vI C)] [vI k, vR 12 0] (TK mm k0 (nI s) (nI (s + 1)) C)
      refine h (fun i => Nat.beq i 128) 3000 127 _ _ _ ?_
      show X 128 [some (vR 12 0), some (vI C)] [] (mI (TK mm k0 (nI s) (nI (s + 1)) C) 12 0 12 k)
      rw [TK12]
      exact fin _ _ _ (by unfold tkE; rw [← hC, if_neg hn, if_neg hl, if_neg hd]) (by unfold tkV; rw [← hC, if_neg hd]) hk
    have digi : ¬ C = -1 → ¬ isLt C → isDg C → ∀ f n, S - (s + n) < f → s + n ≤ S → adv (fun j => isDg (btF T S j)) (S - (s + n)) (s + n) = tkD T S s → X 64 [some (vR 12 0), some (vI (C))] [] (TK mm k0 (nI s) (nI (s + n)) (nI (nvF T S s n))) := by
      intro hn hl hd f
      induction f with
      | zero => intro n he1; omega
      | succ f ih =>
        intro n he1 he2 ha
        have ee : (nI (s + n)).toNatClampNeg = s + n := nI_clamp (by omega)
        have hv : nvF T S s n ≤ 100000 := nvF_le T S s n
        have done : s + n = tkD T S s → ∀ k, k = tkK T S s → X 103 [some (vR 12 0), some (vI (C))] [vI (k), vR 12 0] (TK mm k0 (nI s) (nI (s + n)) (nI (nvF T S s n))) := by
          intro he k hk
          show X 103 [some (vR 12 0), some (vI C)] [vI k, vR 12 0] (TK mm k0 (nI s) (nI (s + n)) (nI (nvF T S s n)))
          refine h (fun i => Nat.beq i 128) 3000 103 _ _ _ ?_
          show X 128 [some (vR 12 0), some (vI C)] [] (mI (TK mm k0 (nI s) (nI (s + n)) (nI (nvF T S s n))) 12 0 12 k)
          rw [TK12]
          exact fin _ _ _ (by rw [he]; unfold tkE; rw [← hC, if_neg hn, if_neg hl, if_pos hd]) (by unfold tkV; rw [← hC, if_pos hd, ← he]; congr 2; omega) hk
        show X 64 [some (vR 12 0), some (vI C)] [] (TK mm k0 (nI s) (nI (s + n)) (nI (nvF T S s n)))
        refine h (fun i => Nat.beq i 64 || Nat.beq i 103) 3000 64 _ _ _ ?_
        refine And.intro (show Pre_X12_byteAt (TK mm k0 (nI s) (nI (s + n)) (nI (nvF T S s n))) [vR 12 0, vI (nI (s + n))] from ⟨_, _, hS, hS9, by omega, rfl⟩) ?_
        refine And.intro (show Pre_X12_isDigit (TK mm k0 (nI s) (nI (s + n)) (nI (nvF T S s n))) [vI (btF (mm.1 60 0) (mm.1 12 0 11).toNatClampNeg (nI (s + n)).toNatClampNeg)] from ⟨_, rfl⟩) ?_
        refine br_c (fun b69 => ?_) (fun b69 => ?_)
        · -- 69: bI (¬ (btF (mm.1 60 0) (mm.1 12 0 11).toNatClampNeg (nI (s + n)).toNatClampNeg) < 48 ∧ ¬ 57 < (btF (mm.1 60 0) (mm.1 12 0 11).toNatClampNeg (nI (s + n)).toNatClampNeg)) = 0 taken
          replace b69 : ¬ (¬ (btF (mm.1 60 0) (mm.1 12 0 11).toNatClampNeg (nI (s + n)).toNatClampNeg) < 48 ∧ ¬ 57 < (btF (mm.1 60 0) (mm.1 12 0 11).toNatClampNeg (nI (s + n)).toNatClampNeg)) := bI_0.mp b69
          (try simp only [hT, hSn, ee] at b69)
          rw [adv_n (P := fun j => isDg (btF T S j)) (e := s + n) b69] at ha
          refine br_c (fun b99 => ?_) (fun b99 => ?_)
          · -- 99: (nI (s + n)) - (nI s) ≤ 4 taken
            replace b99 : (nI (s + n)) - (nI s) ≤ 4 := b99
            (try simp only [hT, hSn, ee] at b99)
            show X 103 [some (vR 12 0), some (vI C)] [vI 3, vR 12 0] (TK mm k0 (nI s) (nI (s + n)) (nI (nvF T S s n)))
            (try simp only [hT, hSn, ee])
            refine done ha _ ?_
            rw [nI_sb (by omega), show (4 : Int32) = nI 4 from rfl, nI_leI (by omega) (by omega)] at b99 
            unfold tkK 
            rw [← hC, if_neg hn, if_neg hl, if_pos hd, if_pos (by omega)]
          · -- 99: (nI (s + n)) - (nI s) ≤ 4 on
            replace b99 : ¬ ((nI (s + n)) - (nI s) ≤ 4) := b99
            (try simp only [hT, hSn, ee] at b99)
            show X 103 [some (vR 12 0), some (vI C)] [vI 1, vR 12 0] (TK mm k0 (nI s) (nI (s + n)) (nI (nvF T S s n)))
            (try simp only [hT, hSn, ee])
            refine done ha _ ?_
            rw [nI_sb (by omega), show (4 : Int32) = nI 4 from rfl, nI_leI (by omega) (by omega)] at b99 
            unfold tkK 
            rw [← hC, if_neg hn, if_neg hl, if_pos hd, if_neg (by omega)]
        · -- 69: bI (¬ (btF (mm.1 60 0) (mm.1 12 0 11).toNatClampNeg (nI (s + n)).toNatClampNeg) < 48 ∧ ¬ 57 < (btF (mm.1 60 0) (mm.1 12 0 11).toNatClampNeg (nI (s + n)).toNatClampNeg)) = 0 on
          replace b69 : ¬ (btF (mm.1 60 0) (mm.1 12 0 11).toNatClampNeg (nI (s + n)).toNatClampNeg) < 48 ∧ ¬ 57 < (btF (mm.1 60 0) (mm.1 12 0 11).toNatClampNeg (nI (s + n)).toNatClampNeg) := bI_n0.mp b69
          (try simp only [hT, hSn, ee] at b69)
          refine And.intro (show Pre_X12_byteAt (TK mm k0 (nI s) (nI (s + n)) (nI (nvF T S s n))) [vR 12 0, vI (nI (s + n))] from ⟨_, _, hS, hS9, by omega, rfl⟩) ?_
          refine And.intro (show Pre_J9_min_7cf53 (TK mm k0 (nI s) (nI (s + n)) (nI (nvF T S s n))) [vI 100000, vI (((10 * (nI (nvF T S s n))) + (btF (mm.1 60 0) (mm.1 12 0 11).toNatClampNeg (nI (s + n)).toNatClampNeg)) - 48)] from ⟨_, _, rfl⟩) ?_
          show X 64 [some (vR 12 0), some (vI C)] [] (mI (mI (TK mm k0 (nI s) (nI (s + n)) (nI (nvF T S s n))) 12 0 15 (if (((10 * (nI (nvF T S s n))) + (btF (mm.1 60 0) (mm.1 12 0 11).toNatClampNeg (nI (s + n)).toNatClampNeg)) - 48) < 100000 then (((10 * (nI (nvF T S s n))) + (btF (mm.1 60 0) (mm.1 12 0 11).toNatClampNeg (nI (s + n)).toNatClampNeg)) - 48) else 100000)) 12 0 14 ((nI (s + n)) + 1))
          (try simp only [hT, hSn, ee])
          have hlt := isDg_S b69
          obtain ⟨w, hw, ew1, ew2⟩ := isDg_v b69 
          rw [TK15, TK14, nI_1, ew2, minD hv hw, ← ew1] 
          refine ih (n + 1) (by omega) (by omega) ?_ 
          rw [show S - (s + n) = (S - (s + (n + 1))) + 1 by omega, adv_y (P := fun j => isDg (btF T S j)) (e := s + n) b69] at ha 
          exact ha
    have sgY : ¬ C = -1 → ¬ isLt C → ¬ isDg C → isSg C → X 124 [some (vR 12 0), some (vI (C))] [vR 12 0] (TK mm k0 (nI s) (nI (s + 1)) C) := by
      intro hn hl hd hs
      show X 124 [some (vR 12 0), some (vI C)] [vR 12 0] (TK mm k0 (nI s) (nI (s + 1)) C)
      refine h (fun i => Nat.beq i 127) 3000 124 _ _ _ ?_
      show X 127 [some (vR 12 0), some (vI C)] [vI 4, vR 12 0] (TK mm k0 (nI s) (nI (s + 1)) C)
      exact sign hn hl hd (btF_y (by rw [← hC]; exact hn)) _ (by unfold tkK; rw [← hC, if_neg hn, if_neg hl, if_neg hd, if_pos hs])
    have sgN : ¬ C = -1 → ¬ isLt C → ¬ isDg C → ¬ isSg C → X 126 [some (vR 12 0), some (vI (C))] [vR 12 0] (TK mm k0 (nI s) (nI (s + 1)) C) := by
      intro hn hl hd hs
      show X 126 [some (vR 12 0), some (vI C)] [vR 12 0] (TK mm k0 (nI s) (nI (s + 1)) C)
      refine h (fun i => Nat.beq i 127) 3000 126 _ _ _ ?_
      show X 127 [some (vR 12 0), some (vI C)] [vI 1, vR 12 0] (TK mm k0 (nI s) (nI (s + 1)) C)
      exact sign hn hl hd (btF_y (by rw [← hC]; exact hn)) _ (by unfold tkK; rw [← hC, if_neg hn, if_neg hl, if_neg hd, if_neg hs])
    show X 31 [some (vR 12 0), some (vI C)] [] (TK mm k0 (nI s) (nI s) C)
    refine h (fun i => Nat.beq i 41 || Nat.beq i 64 || Nat.beq i 124 || Nat.beq i 126 || Nat.beq i 128) 3000 31 _ _ _ ?_
    refine brn_c (fun b33 => ?_) (fun b33 => ?_)
    · -- 33: C = (-1) taken
      replace b33 : ¬ (C = (-1)) := b33
      refine And.intro (show Pre_X12_isSmall (TK mm k0 (nI s) (nI s) C) [vI C] from ⟨_, rfl⟩) ?_
      refine br_c (fun b40 => ?_) (fun b40 => ?_)
      · -- 40: bI (¬ C < 97 ∧ ¬ 122 < C) = 0 taken
        replace b40 : ¬ (¬ C < 97 ∧ ¬ 122 < C) := bI_0.mp b40
        refine And.intro (show Pre_X12_isDigit (TK mm k0 (nI s) (nI s) C) [vI C] from ⟨_, rfl⟩) ?_
        refine br_c (fun b60 => ?_) (fun b60 => ?_)
        · -- 60: bI (¬ C < 48 ∧ ¬ 57 < C) = 0 taken
          replace b60 : ¬ (¬ C < 48 ∧ ¬ 57 < C) := bI_0.mp b60
          refine br_c (fun b114 => ?_) (fun b114 => ?_)
          · -- 114: C = 59 taken
            replace b114 : C = 59 := b114
            show X 124 [some (vR 12 0), some (vI C)] [vR 12 0] (mI (TK mm k0 (nI s) (nI s) C) 12 0 14 ((nI s) + 1))
            rw [TK14, nI_1]
            exact sgY b33 b40 b60 (Or.inl b114)
          · -- 114: C = 59 on
            replace b114 : ¬ (C = 59) := b114
            refine br_c (fun b117 => ?_) (fun b117 => ?_)
            · -- 117: C = 60 taken
              replace b117 : C = 60 := b117
              show X 124 [some (vR 12 0), some (vI C)] [vR 12 0] (mI (TK mm k0 (nI s) (nI s) C) 12 0 14 ((nI s) + 1))
              rw [TK14, nI_1]
              exact sgY b33 b40 b60 (Or.inr (Or.inl b117))
            · -- 117: C = 60 on
              replace b117 : ¬ (C = 60) := b117
              refine br_c (fun b120 => ?_) (fun b120 => ?_)
              · -- 120: C = 62 taken
                replace b120 : C = 62 := b120
                show X 124 [some (vR 12 0), some (vI C)] [vR 12 0] (mI (TK mm k0 (nI s) (nI s) C) 12 0 14 ((nI s) + 1))
                rw [TK14, nI_1]
                exact sgY b33 b40 b60 (Or.inr (Or.inr (Or.inl b120)))
              · -- 120: C = 62 on
                replace b120 : ¬ (C = 62) := b120
                refine brn_c (fun b123 => ?_) (fun b123 => ?_)
                · -- 123: C = 61 taken
                  replace b123 : ¬ (C = 61) := b123
                  show X 126 [some (vR 12 0), some (vI C)] [vR 12 0] (mI (TK mm k0 (nI s) (nI s) C) 12 0 14 ((nI s) + 1))
                  rw [TK14, nI_1]
                  exact sgN b33 b40 b60 (fun z => z.elim b114 (fun z => z.elim b117 (fun z => z.elim b120 b123)))
                · -- 123: C = 61 on
                  replace b123 : C = 61 := b123
                  show X 124 [some (vR 12 0), some (vI C)] [vR 12 0] (mI (TK mm k0 (nI s) (nI s) C) 12 0 14 ((nI s) + 1))
                  rw [TK14, nI_1]
                  exact sgY b33 b40 b60 (Or.inr (Or.inr (Or.inr b123)))
        · -- 60: bI (¬ C < 48 ∧ ¬ 57 < C) = 0 on
          replace b60 : ¬ C < 48 ∧ ¬ 57 < C := bI_n0.mp b60
          show X 64 [some (vR 12 0), some (vI C)] [] (mI (TK mm k0 (nI s) (nI s) C) 12 0 15 0)
          rw [TK15]
          exact digi b33 b40 b60 (S - s + 1) 0 (by omega) hsS rfl
      · -- 40: bI (¬ C < 97 ∧ ¬ 122 < C) = 0 on
        replace b40 : ¬ C < 97 ∧ ¬ 122 < C := bI_n0.mp b40
        show X 41 [some (vR 12 0), some (vI C)] [] (TK mm k0 (nI s) (nI s) C)
        exact lett b40 b33 (S - s + 1) s (by omega) hsS rfl
    · -- 33: C = (-1) on
      replace b33 : C = (-1) := b33
      show X 128 [some (vR 12 0), some (vI C)] [] (mI (TK mm k0 (nI s) (nI s) C) 12 0 12 0)
      rw [TK12]
      exact fin _ _ _ (by unfold tkE; rw [← hC, if_pos b33]) (by unfold tkV; rw [← hC, if_neg (by rw [b33]; decide)]) (by unfold tkK; rw [← hC, if_pos b33])
  have two : ∀ k0 s0 v0, X 19 [some (vR 12 0), none] [] (TK mm k0 s0 (nI s) v0) := by
    intro k0 s0 v0
    show X 19 [some (vR 12 0), none] [] (TK mm k0 s0 (nI s) v0)
    refine h (fun i => Nat.beq i 31) 3000 19 _ _ _ ?_
    refine And.intro (show Pre_X12_byteAt (mI (TK mm k0 s0 (nI s) v0) 12 0 13 (nI s)) [vR 12 0, vI (nI s)] from ⟨_, _, hS, hS9, by omega, rfl⟩) ?_
    show X 31 [some (vR 12 0), some (vI (btF (mm.1 60 0) (mm.1 12 0 11).toNatClampNeg (nI s).toNatClampNeg))] [] (mI (mI (TK mm k0 s0 (nI s) v0) 12 0 13 (nI s)) 12 0 15 (btF (mm.1 60 0) (mm.1 12 0 11).toNatClampNeg (nI s).toNatClampNeg))
    rw [hT, hSn, esn, ← hC, TK13, TK15]
    exact three _
  have loop1 : ∀ f e, S - e < f → e ≤ S → tkS T S e = s → ∀ k0 s0 v0, X 0 [some (vR 12 0), none] [] (TK mm k0 s0 (nI e) v0) := by
    intro f
    induction f with
    | zero => intro e he1; omega
    | succ f ih =>
      intro e he1 he2 ha k0 s0 v0
      have ee : (nI e).toNatClampNeg = e := nI_clamp (by omega)
      have more : isBl (btF T S e) → X 12 [some (vR 12 0), none] [] (TK mm k0 s0 (nI e) v0) := by
        intro hb
        have hlt := isBl_S hb
        unfold tkS at ha
        rw [show S - e = (S - (e + 1)) + 1 by omega, adv_y (P := fun j => isBl (btF T S j)) (e := e) hb] at ha
        show X 12 [some (vR 12 0), none] [] (TK mm k0 s0 (nI e) v0)
        refine h (fun i => Nat.beq i 0) 3000 12 _ _ _ ?_
        show X 0 [some (vR 12 0), none] [] (mI (TK mm k0 s0 (nI e) v0) 12 0 14 ((nI e) + 1))
        rw [TK14, nI_1]
        exact ih (e + 1) (by omega) (by omega) ha _ _ _
      show X 0 [some (vR 12 0), none] [] (TK mm k0 s0 (nI e) v0)
      refine h (fun i => Nat.beq i 12 || Nat.beq i 19) 3000 0 _ _ _ ?_
      refine And.intro (show Pre_X12_byteAt (TK mm k0 s0 (nI e) v0) [vR 12 0, vI (nI e)] from ⟨_, _, hS, hS9, by omega, rfl⟩) ?_
      refine br_c (fun b5 => ?_) (fun b5 => ?_)
      · -- 5: btF (mm.1 60 0) (mm.1 12 0 11).toNatClampNeg (nI e).toNatClampNeg = 32 taken
        replace b5 : btF (mm.1 60 0) (mm.1 12 0 11).toNatClampNeg (nI e).toNatClampNeg = 32 := b5
        (try simp only [hT, hSn, ee] at b5)
        show X 12 [some (vR 12 0), none] [] (TK mm k0 s0 (nI e) v0)
        (try simp only [hT, hSn, ee])
        exact more (Or.inl b5)
      · -- 5: btF (mm.1 60 0) (mm.1 12 0 11).toNatClampNeg (nI e).toNatClampNeg = 32 on
        replace b5 : ¬ (btF (mm.1 60 0) (mm.1 12 0 11).toNatClampNeg (nI e).toNatClampNeg = 32) := b5
        (try simp only [hT, hSn, ee] at b5)
        refine And.intro (show Pre_X12_byteAt (TK mm k0 s0 (nI e) v0) [vR 12 0, vI (nI e)] from ⟨_, _, hS, hS9, by omega, rfl⟩) ?_
        refine brn_c (fun b11 => ?_) (fun b11 => ?_)
        · -- 11: btF (mm.1 60 0) (mm.1 12 0 11).toNatClampNeg (nI e).toNatClampNeg = 10 taken
          replace b11 : ¬ (btF (mm.1 60 0) (mm.1 12 0 11).toNatClampNeg (nI e).toNatClampNeg = 10) := b11
          (try simp only [hT, hSn, ee] at b11)
          show X 19 [some (vR 12 0), none] [] (TK mm k0 s0 (nI e) v0)
          (try simp only [hT, hSn, ee])
          have hb : ¬ isBl (btF T S e) := fun z => z.elim b5 b11
          unfold tkS at ha 
          rw [adv_n (P := fun j => isBl (btF T S j)) (e := e) hb] at ha 
          rw [ha] 
          exact two _ _ _
        · -- 11: btF (mm.1 60 0) (mm.1 12 0 11).toNatClampNeg (nI e).toNatClampNeg = 10 on
          replace b11 : btF (mm.1 60 0) (mm.1 12 0 11).toNatClampNeg (nI e).toNatClampNeg = 10 := b11
          (try simp only [hT, hSn, ee] at b11)
          show X 12 [some (vR 12 0), none] [] (TK mm k0 s0 (nI e) v0)
          (try simp only [hT, hSn, ee])
          exact more (Or.inr b11)
  have l0 := loop1 (S - E + 1) E (by omega) hES es.symm (mm.1 12 0 12) (mm.1 12 0 13) (mm.1 12 0 15)
  rw [← hE, TK_self] at l0
  exact l0
theorem con_X12_ahead (l : Launch) : CON l y_X12_ahead prog_14_method_25_code 2 none rm_X12_ahead Pre_X12_ahead Fn_X12_ahead := CON_of (by decide) rfl rfl (sa_X12_ahead l) vc_X12_ahead
