/-! PART 68: the class: what is asked of a text -/

theorem TXp_mk {m m' : MM} (h : TXp m) (h2 : m'.1 4 0 2 = m.1 4 0 2) (h3 : m'.1 4 0 3 = m.1 4 0 3) : TXp m' := by
  unfold TXp
  rw [h2, h3]
  exact h
def faC (m : MM) (k : Int32) : MM := mI (mI m 4 0 9 k) 4 0 10 (m.1 4 0 4)
theorem TXp_fa {m : MM} {k : Int32} (h : TXp m) : TXp (faC m k) := TXp_mk h rfl rfl
def miC (m : MM) : MM := faC m (if m.1 4 0 6 = 38 then 1 else 2)
theorem TXp_mi {m : MM} (h : TXp m) : TXp (miC m) := TXp_fa h
theorem TXp_sp {m : MM} (h : TXp m) : TXp (spM m) := by
  obtain ⟨S, n, hS, hS9, hn, hnS⟩ := h
  have hSn : (m.1 4 0 2).toNatClampNeg = S := by rw [hS]; exact nI_clamp (by omega)
  unfold spM sp2
  rw [hSn, hn, nI_clamp (by omega)]
  obtain ⟨e, he⟩ : ∃ e, e = blE (m.1 26 0) S n := ⟨_, rfl⟩
  rw [← he]
  have heS : e ≤ S := by
    have := adv_le (cBl (m.1 26 0) S) (S - n) n
    rw [he]; unfold blE; omega
  have w1 : rwE (m.1 26 0) S e ≤ S := by
    have := adv_le (cLt (m.1 26 0) S) (S - e) e
    unfold rwE; omega
  have w2 : rnE (m.1 26 0) S e ≤ S := by
    have := adv_le (cDg (m.1 26 0) S) (S - e) e
    unfold rnE; omega
  split
  · exact ⟨S, e, hS, hS9, rfl, heS⟩
  split
  · refine ⟨S, rwE (m.1 26 0) S e, hS, hS9, ?_, w1⟩
    show nI (rwE (m.1 26 0) (m.1 4 0 2).toNatClampNeg e) = _
    rw [hSn]
  split
  · refine ⟨S, rnE (m.1 26 0) S e, hS, hS9, ?_, w2⟩
    show nI (rnE (m.1 26 0) (m.1 4 0 2).toNatClampNeg e) = _
    rw [hSn]
  · exact ⟨S, e + 1, hS, hS9, rfl, by omega⟩
/-- a step touches nothing but the text -/
theorem sp_1 {m : MM} {k g : Nat} (h : k ≠ 4) : (spM m).1 k g = m.1 k g := by
  have r : ∀ (M : MM) (f : Nat → Int32), (mRow M 4 0 f).1 k g = M.1 k g := fun M f => if_neg (fun z => h z.1)
  unfold spM sp2
  split
  · exact (r _ _).trans ((r _ _).trans (r _ _))
  split
  · exact (r _ _).trans ((r _ _).trans ((r _ _).trans (r _ _)))
  split
  · exact (r _ _).trans ((r _ _).trans ((r _ _).trans ((r _ _).trans ((r _ _).trans ((r _ _).trans (r _ _))))))
  · exact (r _ _).trans ((r _ _).trans ((r _ _).trans ((r _ _).trans ((r _ _).trans ((r _ _).trans ((r _ _).trans ((r _ _).trans (r _ _))))))))
theorem sp_2 {m : MM} {k g : Nat} (h : k ≠ 4) : (spM m).2.1 k g = m.2.1 k g := by
  have r : ∀ (M : MM) (f : Nat → Int64), (mRowL M 4 0 f).2.1 k g = M.2.1 k g := fun M f => if_neg (fun z => h z.1)
  unfold spM sp2
  split
  · rfl
  split
  · exact r _ _
  split
  · exact r _ _
  · exact r _ _
theorem sp_3 {m : MM} : (spM m).2.2 = m.2.2 := by
  unfold spM sp2
  split
  · rfl
  split
  · rfl
  split <;> rfl
theorem fa_1 {m : MM} {x : Int32} {k g : Nat} (h : k ≠ 4) : (faC m x).1 k g = m.1 k g := by
  have r : ∀ (M : MM) (f : Nat → Int32), (mRow M 4 0 f).1 k g = M.1 k g := fun M f => if_neg (fun z => h z.1)
  exact (r _ _).trans (r _ _)
/-- only the class's text was touched -/
def SMo (m m' : MM) : Prop := (∀ k g, k ≠ 4 → m'.1 k g = m.1 k g) ∧ (∀ k g, k ≠ 4 → m'.2.1 k g = m.2.1 k g) ∧ m'.2.2 = m.2.2
theorem SMo_r (m : MM) : SMo m m := ⟨fun _ _ _ => rfl, fun _ _ _ => rfl, rfl⟩
theorem SMo_t {a b c : MM} (h : SMo a b) (h' : SMo b c) : SMo a c := ⟨fun k g z => (h'.1 k g z).trans (h.1 k g z), fun k g z => (h'.2.1 k g z).trans (h.2.1 k g z), h'.2.2.trans h.2.2⟩
theorem SMo_sp (m : MM) : SMo m (spM m) := ⟨fun _ _ z => sp_1 z, fun _ _ z => sp_2 z, sp_3⟩
theorem SMo_fa (m : MM) (x : Int32) : SMo m (faC m x) := ⟨fun _ _ z => fa_1 z, fun _ _ _ => rfl, rfl⟩
theorem SMo_mi (m : MM) : SMo m (miC m) := SMo_fa m _

def Pre_X4_fail : PreT := fun _ as => ∃ k : Int32, as = [vR 4 0, vI k]
def Fn_X4_fail : FnT := fun m as => match as with
  | [_, Sum.inl k] => (some (vI 0), faC m k)
  | _ => (none, m)
--tpl ⟨_, rfl⟩ || 0 || faC {m} {1}
abbrev y_X4_fail : MethodName := ⟨"GivenUp$Text", "fail", "(I)Z"⟩
def P_X4_fail : List StpT := [s_aload 0, s_iload 1, s_putI 4 9, s_aload 0, s_aload 0, s_getI 4 4, s_putI 4 10, s_ic (0), s_zret]
def pc_X4_fail : Nat → Nat := fun i => [0, 1, 2, 5, 6, 7, 10, 13, 14].getD i 0
def dl_X4_fail : List (Nat × Instr × Nat) := [(0, .aload_n 0, 1), (1, .iload_n 1, 1), (2, .putfield 42, 3), (5, .aload_n 0, 1), (6, .aload_n 0, 1), (7, .getfield 26, 3), (10, .putfield 45, 3), (13, .iconst 0, 1), (14, .ireturn, 1)]
theorem dc_X4_fail : DEC prog_6_method_8_code pc_X4_fail dl_X4_fail := DEC_of (by decide +kernel)
abbrev rm_X4_fail : Room := { frames := 0, cells := 0, slots := 0, locals := 0 }
set_option maxRecDepth 20000 in
theorem sa_X4_fail (l : Launch) : SNDALL l prog_6_method_8_code "GivenUp$Text" 2 (some .boolean) rm_X4_fail P_X4_fail pc_X4_fail := fun p e s m args below meth c cells slots Q D dA ad A RR hC hR => by
  have hM := RTX_room (R := rm_X4_fail) hR
  exact ⟨st_aload_n hC (n := 0) (k := 0) (dc_X4_fail 0 (0, .aload_n 0, 1) rfl rfl) rfl rfl,
    st_iload_n hC (n := 1) (k := 1) (dc_X4_fail 1 (1, .iload_n 1, 1) rfl rfl) rfl rfl,
    st_putI hC (n := 2) (k := 4) (j := 9) (dc_X4_fail 2 (2, .putfield 42, 3) rfl rfl) rfl clf_4 (by decide) rfl rfl rfl wd_242,
    st_aload_n hC (n := 3) (k := 0) (dc_X4_fail 3 (5, .aload_n 0, 1) rfl rfl) rfl rfl,
    st_aload_n hC (n := 4) (k := 0) (dc_X4_fail 4 (6, .aload_n 0, 1) rfl rfl) rfl rfl,
    st_getI hC (n := 5) (k := 4) (j := 4) (dc_X4_fail 5 (7, .getfield 26, 3) rfl rfl) rfl clf_4 (by decide) rfl wd_234,
    st_putI hC (n := 6) (k := 4) (j := 10) (dc_X4_fail 6 (10, .putfield 45, 3) rfl rfl) rfl clf_4 (by decide) rfl rfl rfl wd_244,
    st_iconst hC (n := 7) (x := 0) (dc_X4_fail 7 (13, .iconst 0, 1) rfl rfl) rfl (by decide),
    st_zret hC (n := 8) hR (dc_X4_fail 8 (14, .ireturn, 1) rfl rfl), trivial⟩
set_option maxRecDepth 8000 in
theorem vc_X4_fail : VC P_X4_fail 2 Pre_X4_fail Fn_X4_fail := by
  rintro mm as hom hoa ⟨k, rfl⟩
  refine ⟨Nat.le_of_ble_eq_true rfl, fun X h => ?_⟩
  show X 0 [some (vR 4 0), some (vI k)] [] mm
  refine h (fun _ => false) 3000 0 _ _ _ ?_
  refine And.intro (Or.inl rfl) ?_
  show ((some (vI 0) : Option MV), mI (mI mm 4 0 9 k) 4 0 10 (mm.1 4 0 4)) = _
  exact rfl
theorem con_X4_fail (l : Launch) : CON l y_X4_fail prog_6_method_8_code 2 (some .boolean) rm_X4_fail Pre_X4_fail Fn_X4_fail := CON_of (by decide) rfl rfl (sa_X4_fail l) vc_X4_fail
def Pre_X4_misplaced : PreT := fun _ as => as = [vR 4 0]
def Fn_X4_misplaced : FnT := fun m _ => (some (vI 0), miC m)
--tpl rfl || 0 || miC {m}
abbrev y_X4_misplaced : MethodName := ⟨"GivenUp$Text", "misplaced", "()Z"⟩
def P_X4_misplaced : List StpT := [s_aload 0, s_aload 0, s_getI 4 6, s_ic (38), s_icne 7, s_ic (1), s_goto 8, s_ic (2), s_callV 4 1 Pre_X4_fail Fn_X4_fail, s_zret]
def pc_X4_misplaced : Nat → Nat := fun i => [0, 1, 2, 5, 7, 10, 11, 14, 15, 18].getD i 0
def dl_X4_misplaced : List (Nat × Instr × Nat) := [(0, .aload_n 0, 1), (1, .aload_n 0, 1), (2, .getfield 32, 3), (5, .bipush 38, 2), (7, .if_icmp .ne 7, 3), (10, .iconst 1, 1), (11, .goto 4, 3), (14, .iconst 2, 1), (15, .invokevirtual 82, 3), (18, .ireturn, 1)]
theorem dc_X4_misplaced : DEC prog_6_method_9_code pc_X4_misplaced dl_X4_misplaced := DEC_of (by decide +kernel)
abbrev rm_X4_misplaced : Room := { frames := 1, cells := 0, slots := 0, locals := 21 }
set_option maxRecDepth 20000 in
theorem sa_X4_misplaced (l : Launch) : SNDALL l prog_6_method_9_code "GivenUp$Text" 1 (some .boolean) rm_X4_misplaced P_X4_misplaced pc_X4_misplaced := fun p e s m args below meth c cells slots Q D dA ad A RR hC hR => by
  have hM := RTX_room (R := rm_X4_misplaced) hR
  exact ⟨st_aload_n hC (n := 0) (k := 0) (dc_X4_misplaced 0 (0, .aload_n 0, 1) rfl rfl) rfl rfl,
    st_aload_n hC (n := 1) (k := 0) (dc_X4_misplaced 1 (1, .aload_n 0, 1) rfl rfl) rfl rfl,
    st_getI hC (n := 2) (k := 4) (j := 6) (dc_X4_misplaced 2 (2, .getfield 32, 3) rfl rfl) rfl clf_4 (by decide) rfl wd_237,
    st_bipush hC (n := 3) (x := 38) (dc_X4_misplaced 3 (5, .bipush 38, 2) rfl rfl) rfl (by decide),
    st_icne hC (n := 4) (dc_X4_misplaced 4 (7, .if_icmp .ne 7, 3) rfl rfl) rfl (by decide),
    st_iconst hC (n := 5) (x := 1) (dc_X4_misplaced 5 (10, .iconst 1, 1) rfl rfl) rfl (by decide),
    st_goto hC (n := 6) (dc_X4_misplaced 6 (11, .goto 4, 3) rfl rfl) (by decide),
    st_iconst hC (n := 7) (x := 2) (dc_X4_misplaced 7 (14, .iconst 2, 1) rfl rfl) rfl (by decide),
    st_callV hC (n := 8) (k := 4) (na := 1) (con_X4_fail l) (dc_X4_misplaced 8 (15, .invokevirtual 82, 3) rfl rfl) rfl wd_878 wd_144 (by decide) ⟨rfl, rfl, by decide, by decide⟩ hM wd_888 wd_876 wd_877 clf_4,
    st_zret hC (n := 9) hR (dc_X4_misplaced 9 (18, .ireturn, 1) rfl rfl), trivial⟩
set_option maxRecDepth 8000 in
theorem vc_X4_misplaced : VC P_X4_misplaced 1 Pre_X4_misplaced Fn_X4_misplaced := by
  rintro mm as hom hoa rfl
  refine ⟨Nat.le_of_ble_eq_true rfl, fun X h => ?_⟩
  have hF : Fn_X4_misplaced mm [vR 4 0] = (some (vI 0), faC mm (if mm.1 4 0 6 = 38 then 1 else 2)) := rfl
  rw [hF] at h
  show X 0 [some (vR 4 0)] [] mm
  refine h (fun _ => false) 3000 0 _ _ _ ?_
  refine brn_c (fun b4 => ?_) (fun b4 => ?_)
  · -- 4: mm.1 4 0 6 = 38 taken
    replace b4 : ¬ (mm.1 4 0 6 = 38) := b4
    refine And.intro (show Pre_X4_fail mm [vR 4 0, vI 2] from ⟨_, rfl⟩) ?_
    refine And.intro (Or.inl rfl) ?_
    show ((some (vI 0) : Option MV), faC mm 2) = _
    rw [if_neg b4]
  · -- 4: mm.1 4 0 6 = 38 on
    replace b4 : mm.1 4 0 6 = 38 := b4
    refine And.intro (show Pre_X4_fail mm [vR 4 0, vI 1] from ⟨_, rfl⟩) ?_
    refine And.intro (Or.inl rfl) ?_
    show ((some (vI 0) : Option MV), faC mm 1) = _
    rw [if_pos b4]
theorem con_X4_misplaced (l : Launch) : CON l y_X4_misplaced prog_6_method_9_code 1 (some .boolean) rm_X4_misplaced Pre_X4_misplaced Fn_X4_misplaced := CON_of (by decide) rfl rfl (sa_X4_misplaced l) vc_X4_misplaced
def skC (m : MM) (k : Int32) : PR := if m.1 4 0 6 = k then (true, spM m) else (false, miC m)
theorem TXp_sk {m : MM} {k : Int32} (h : TXp m) : TXp (skC m k).2 := by
  unfold skC
  split
  · exact TXp_sp h
  · exact TXp_mi h
theorem SMo_sk (m : MM) (k : Int32) : SMo m (skC m k).2 := by
  unfold skC
  split
  · exact SMo_sp m
  · exact SMo_mi m

def Pre_X4_skip : PreT := fun m as => TXp m ∧ ∃ k : Int32, as = [vR 4 0, vI k]
def Fn_X4_skip : FnT := fun m as => match as with
  | [_, Sum.inl k] => (some (vI (bI ((skC m k).1 = true))), (skC m k).2)
  | _ => (none, m)
--tpl ⟨by assumption, _, rfl⟩ || bI ((skC {m} {1}).1 = true) || (skC {m} {1}).2
abbrev y_X4_skip : MethodName := ⟨"GivenUp$Text", "skip", "(I)Z"⟩
def P_X4_skip : List StpT := [s_aload 0, s_getI 4 6, s_iload 1, s_iceq 7, s_aload 0, s_callV 4 0 Pre_X4_misplaced Fn_X4_misplaced, s_zret, s_aload 0, s_callV 4 0 Pre_X4_step Fn_X4_step, s_ic (1), s_zret]
def pc_X4_skip : Nat → Nat := fun i => [0, 1, 4, 5, 8, 9, 12, 13, 14, 17, 18].getD i 0
def dl_X4_skip : List (Nat × Instr × Nat) := [(0, .aload_n 0, 1), (1, .getfield 32, 3), (4, .iload_n 1, 1), (5, .if_icmp .eq 8, 3), (8, .aload_n 0, 1), (9, .invokevirtual 86, 3), (12, .ireturn, 1), (13, .aload_n 0, 1), (14, .invokevirtual 68, 3), (17, .iconst 1, 1), (18, .ireturn, 1)]
theorem dc_X4_skip : DEC prog_6_method_10_code pc_X4_skip dl_X4_skip := DEC_of (by decide +kernel)
abbrev rm_X4_skip : Room := { frames := 2, cells := 0, slots := 0, locals := 41 }
set_option maxRecDepth 20000 in
theorem sa_X4_skip (l : Launch) : SNDALL l prog_6_method_10_code "GivenUp$Text" 2 (some .boolean) rm_X4_skip P_X4_skip pc_X4_skip := fun p e s m args below meth c cells slots Q D dA ad A RR hC hR => by
  have hM := RTX_room (R := rm_X4_skip) hR
  exact ⟨st_aload_n hC (n := 0) (k := 0) (dc_X4_skip 0 (0, .aload_n 0, 1) rfl rfl) rfl rfl,
    st_getI hC (n := 1) (k := 4) (j := 6) (dc_X4_skip 1 (1, .getfield 32, 3) rfl rfl) rfl clf_4 (by decide) rfl wd_237,
    st_iload_n hC (n := 2) (k := 1) (dc_X4_skip 2 (4, .iload_n 1, 1) rfl rfl) rfl rfl,
    st_iceq hC (n := 3) (dc_X4_skip 3 (5, .if_icmp .eq 8, 3) rfl rfl) rfl (by decide),
    st_aload_n hC (n := 4) (k := 0) (dc_X4_skip 4 (8, .aload_n 0, 1) rfl rfl) rfl rfl,
    st_callV hC (n := 5) (k := 4) (na := 0) (con_X4_misplaced l) (dc_X4_skip 5 (9, .invokevirtual 86, 3) rfl rfl) rfl wd_887 wd_144 (by decide) ⟨rfl, rfl, by decide, by decide⟩ hM wd_884 wd_885 wd_886 clf_4,
    st_zret hC (n := 6) hR (dc_X4_skip 6 (12, .ireturn, 1) rfl rfl),
    st_aload_n hC (n := 7) (k := 0) (dc_X4_skip 7 (13, .aload_n 0, 1) rfl rfl) rfl rfl,
    st_callV hC (n := 8) (k := 4) (na := 0) (con_X4_step l) (dc_X4_skip 8 (14, .invokevirtual 68, 3) rfl rfl) rfl wd_859 wd_144 (by decide) ⟨rfl, rfl, by decide, by decide⟩ hM wd_856 wd_857 wd_858 clf_4,
    st_iconst hC (n := 9) (x := 1) (dc_X4_skip 9 (17, .iconst 1, 1) rfl rfl) rfl (by decide),
    st_zret hC (n := 10) hR (dc_X4_skip 10 (18, .ireturn, 1) rfl rfl), trivial⟩
set_option maxRecDepth 8000 in
theorem vc_X4_skip : VC P_X4_skip 2 Pre_X4_skip Fn_X4_skip := by
  rintro mm as hom hoa ⟨hT, k, rfl⟩
  refine ⟨Nat.le_of_ble_eq_true rfl, fun X h => ?_⟩
  replace h : RUN P_X4_skip (RT (skC mm k)) X := h
  show X 0 [some (vR 4 0), some (vI k)] [] mm
  refine h (fun _ => false) 3000 0 _ _ _ ?_
  refine br_c (fun b3 => ?_) (fun b3 => ?_)
  · -- 3: mm.1 4 0 6 = k taken
    replace b3 : mm.1 4 0 6 = k := b3
    refine And.intro (show Pre_X4_step mm [vR 4 0] from ⟨by assumption, rfl⟩) ?_
    refine And.intro (Or.inr rfl) ?_
    show ((some (vI 1) : Option MV), spM mm) = _
    exact PR_t (by unfold skC; rw [if_pos b3])
  · -- 3: mm.1 4 0 6 = k on
    replace b3 : ¬ (mm.1 4 0 6 = k) := b3
    refine And.intro (show Pre_X4_misplaced mm [vR 4 0] from rfl) ?_
    refine And.intro (Or.inl rfl) ?_
    show ((some (vI 0) : Option MV), miC mm) = _
    exact PR_f (by unfold skC; rw [if_neg b3])
theorem con_X4_skip (l : Launch) : CON l y_X4_skip prog_6_method_10_code 2 (some .boolean) rm_X4_skip Pre_X4_skip Fn_X4_skip := CON_of (by decide) rfl rfl (sa_X4_skip l) vc_X4_skip
def amC (m : MM) (lo hi : Int32) : Int32 × MM := if m.1 4 0 6 = 32 then (if m.1 4 0 7 < lo ∨ hi < m.1 4 0 7 then (-1, faC m 4) else (m.1 4 0 7, spM m)) else (-1, miC m)
theorem TXp_am {m : MM} {lo hi : Int32} (h : TXp m) : TXp (amC m lo hi).2 := by
  unfold amC
  split
  · split
    · exact TXp_fa h
    · exact TXp_sp h
  · exact TXp_mi h
theorem SMo_am (m : MM) (lo hi : Int32) : SMo m (amC m lo hi).2 := by
  unfold amC
  split
  · split
    · exact SMo_fa m _
    · exact SMo_sp m
  · exact SMo_mi m
theorem pI_q {p : Int32 × MM} {x : Int32} {m : MM} (h : p = (x, m)) : ((some (Sum.inl x) : Option MV), m) = (some (vI p.1), p.2) := by rw [h]
def RI (p : Int32 × MM) : RetP := fun r m' => (r, m') = (some (vI p.1), p.2)

def Pre_X4_amount : PreT := fun m as => TXp m ∧ ∃ lo hi : Int32, as = [vR 4 0, vI lo, vI hi]
def Fn_X4_amount : FnT := fun m as => match as with
  | [_, Sum.inl lo, Sum.inl hi] => (some (vI (amC m lo hi).1), (amC m lo hi).2)
  | _ => (none, m)
--tpl ⟨by assumption, _, _, rfl⟩ || (amC {m} {1} {2}).1 || (amC {m} {1} {2}).2
abbrev y_X4_amount : MethodName := ⟨"GivenUp$Text", "amount", "(II)I"⟩
def P_X4_amount : List StpT := [s_aload 0, s_getI 4 6, s_ic (32), s_iceq 9, s_aload 0, s_callV 4 0 Pre_X4_misplaced Fn_X4_misplaced, s_pop, s_ic (-1), s_iret, s_aload 0, s_getI 4 7, s_iload 1, s_iclt 17, s_aload 0, s_getI 4 7, s_iload 2, s_icle 23, s_aload 0, s_ic (4), s_callV 4 1 Pre_X4_fail Fn_X4_fail, s_pop, s_ic (-1), s_iret, s_aload 0, s_getI 4 7, s_istore 3, s_aload 0, s_callV 4 0 Pre_X4_step Fn_X4_step, s_iload 3, s_iret]
def pc_X4_amount : Nat → Nat := fun i => [0, 1, 4, 6, 9, 10, 13, 14, 15, 16, 17, 20, 21, 24, 25, 28, 29, 32, 33, 34, 37, 38, 39, 40, 41, 44, 45, 46, 49, 50].getD i 0
def dl_X4_amount : List (Nat × Instr × Nat) := [(0, .aload_n 0, 1), (1, .getfield 32, 3), (4, .bipush 32, 2), (6, .if_icmp .eq 10, 3), (9, .aload_n 0, 1), (10, .invokevirtual 86, 3), (13, .pop, 1), (14, .iconst (-1), 1), (15, .ireturn, 1), (16, .aload_n 0, 1), (17, .getfield 35, 3), (20, .iload_n 1, 1), (21, .if_icmp .lt 11, 3), (24, .aload_n 0, 1), (25, .getfield 35, 3), (28, .iload_n 2, 1), (29, .if_icmp .le 11, 3), (32, .aload_n 0, 1), (33, .iconst 4, 1), (34, .invokevirtual 82, 3), (37, .pop, 1), (38, .iconst (-1), 1), (39, .ireturn, 1), (40, .aload_n 0, 1), (41, .getfield 35, 3), (44, .istore_n 3, 1), (45, .aload_n 0, 1), (46, .invokevirtual 68, 3), (49, .iload_n 3, 1), (50, .ireturn, 1)]
theorem dc_X4_amount : DEC prog_6_method_11_code pc_X4_amount dl_X4_amount := DEC_of (by decide +kernel)
abbrev rm_X4_amount : Room := { frames := 2, cells := 0, slots := 0, locals := 41 }
set_option maxRecDepth 20000 in
theorem sa_X4_amount (l : Launch) : SNDALL l prog_6_method_11_code "GivenUp$Text" 4 (some .int) rm_X4_amount P_X4_amount pc_X4_amount := fun p e s m args below meth c cells slots Q D dA ad A RR hC hR => by
  have hM := RTX_room (R := rm_X4_amount) hR
  exact ⟨st_aload_n hC (n := 0) (k := 0) (dc_X4_amount 0 (0, .aload_n 0, 1) rfl rfl) rfl rfl,
    st_getI hC (n := 1) (k := 4) (j := 6) (dc_X4_amount 1 (1, .getfield 32, 3) rfl rfl) rfl clf_4 (by decide) rfl wd_237,
    st_bipush hC (n := 2) (x := 32) (dc_X4_amount 2 (4, .bipush 32, 2) rfl rfl) rfl (by decide),
    st_iceq hC (n := 3) (dc_X4_amount 3 (6, .if_icmp .eq 10, 3) rfl rfl) rfl (by decide),
    st_aload_n hC (n := 4) (k := 0) (dc_X4_amount 4 (9, .aload_n 0, 1) rfl rfl) rfl rfl,
    st_callV hC (n := 5) (k := 4) (na := 0) (con_X4_misplaced l) (dc_X4_amount 5 (10, .invokevirtual 86, 3) rfl rfl) rfl wd_887 wd_144 (by decide) ⟨rfl, rfl, by decide, by decide⟩ hM wd_884 wd_885 wd_886 clf_4,
    st_pop hC (n := 6) (dc_X4_amount 6 (13, .pop, 1) rfl rfl) rfl,
    st_iconst hC (n := 7) (x := (-1)) (dc_X4_amount 7 (14, .iconst (-1), 1) rfl rfl) rfl (by decide),
    st_iret hC (n := 8) hR (dc_X4_amount 8 (15, .ireturn, 1) rfl rfl),
    st_aload_n hC (n := 9) (k := 0) (dc_X4_amount 9 (16, .aload_n 0, 1) rfl rfl) rfl rfl,
    st_getI hC (n := 10) (k := 4) (j := 7) (dc_X4_amount 10 (17, .getfield 35, 3) rfl rfl) rfl clf_4 (by decide) rfl wd_240,
    st_iload_n hC (n := 11) (k := 1) (dc_X4_amount 11 (20, .iload_n 1, 1) rfl rfl) rfl rfl,
    st_iclt hC (n := 12) (dc_X4_amount 12 (21, .if_icmp .lt 11, 3) rfl rfl) rfl (by decide),
    st_aload_n hC (n := 13) (k := 0) (dc_X4_amount 13 (24, .aload_n 0, 1) rfl rfl) rfl rfl,
    st_getI hC (n := 14) (k := 4) (j := 7) (dc_X4_amount 14 (25, .getfield 35, 3) rfl rfl) rfl clf_4 (by decide) rfl wd_240,
    st_iload_n hC (n := 15) (k := 2) (dc_X4_amount 15 (28, .iload_n 2, 1) rfl rfl) rfl rfl,
    st_icle hC (n := 16) (dc_X4_amount 16 (29, .if_icmp .le 11, 3) rfl rfl) rfl (by decide),
    st_aload_n hC (n := 17) (k := 0) (dc_X4_amount 17 (32, .aload_n 0, 1) rfl rfl) rfl rfl,
    st_iconst hC (n := 18) (x := 4) (dc_X4_amount 18 (33, .iconst 4, 1) rfl rfl) rfl (by decide),
    st_callV hC (n := 19) (k := 4) (na := 1) (con_X4_fail l) (dc_X4_amount 19 (34, .invokevirtual 82, 3) rfl rfl) rfl wd_878 wd_144 (by decide) ⟨rfl, rfl, by decide, by decide⟩ hM wd_888 wd_876 wd_877 clf_4,
    st_pop hC (n := 20) (dc_X4_amount 20 (37, .pop, 1) rfl rfl) rfl,
    st_iconst hC (n := 21) (x := (-1)) (dc_X4_amount 21 (38, .iconst (-1), 1) rfl rfl) rfl (by decide),
    st_iret hC (n := 22) hR (dc_X4_amount 22 (39, .ireturn, 1) rfl rfl),
    st_aload_n hC (n := 23) (k := 0) (dc_X4_amount 23 (40, .aload_n 0, 1) rfl rfl) rfl rfl,
    st_getI hC (n := 24) (k := 4) (j := 7) (dc_X4_amount 24 (41, .getfield 35, 3) rfl rfl) rfl clf_4 (by decide) rfl wd_240,
    st_istore_n hC (n := 25) (k := 3) (dc_X4_amount 25 (44, .istore_n 3, 1) rfl rfl) rfl rfl (by decide),
    st_aload_n hC (n := 26) (k := 0) (dc_X4_amount 26 (45, .aload_n 0, 1) rfl rfl) rfl rfl,
    st_callV hC (n := 27) (k := 4) (na := 0) (con_X4_step l) (dc_X4_amount 27 (46, .invokevirtual 68, 3) rfl rfl) rfl wd_859 wd_144 (by decide) ⟨rfl, rfl, by decide, by decide⟩ hM wd_856 wd_857 wd_858 clf_4,
    st_iload_n hC (n := 28) (k := 3) (dc_X4_amount 28 (49, .iload_n 3, 1) rfl rfl) rfl rfl,
    st_iret hC (n := 29) hR (dc_X4_amount 29 (50, .ireturn, 1) rfl rfl), trivial⟩
set_option maxRecDepth 8000 in
theorem vc_X4_amount : VC P_X4_amount 4 Pre_X4_amount Fn_X4_amount := by
  rintro mm as hom hoa ⟨hT, lo, hi, rfl⟩
  refine ⟨Nat.le_of_ble_eq_true rfl, fun X h => ?_⟩
  replace h : RUN P_X4_amount (RI (amC mm lo hi)) X := h
  show X 0 [some (vR 4 0), some (vI lo), some (vI hi), none] [] mm
  refine h (fun _ => false) 3000 0 _ _ _ ?_
  refine br_c (fun b3 => ?_) (fun b3 => ?_)
  · -- 3: mm.1 4 0 6 = 32 taken
    replace b3 : mm.1 4 0 6 = 32 := b3
    refine br_c (fun b12 => ?_) (fun b12 => ?_)
    · -- 12: mm.1 4 0 7 < lo taken
      replace b12 : mm.1 4 0 7 < lo := b12
      refine And.intro (show Pre_X4_fail mm [vR 4 0, vI 4] from ⟨_, rfl⟩) ?_
      show ((some (vI (-1)) : Option MV), faC mm 4) = _
      exact pI_q (by unfold amC; rw [if_pos b3, if_pos (Or.inl b12)])
    · -- 12: mm.1 4 0 7 < lo on
      replace b12 : ¬ (mm.1 4 0 7 < lo) := b12
      refine br_c (fun b16 => ?_) (fun b16 => ?_)
      · -- 16: mm.1 4 0 7 ≤ hi taken
        replace b16 : mm.1 4 0 7 ≤ hi := b16
        refine And.intro (show Pre_X4_step mm [vR 4 0] from ⟨by assumption, rfl⟩) ?_
        show ((some (vI (mm.1 4 0 7)) : Option MV), spM mm) = _
        exact pI_q (by unfold amC; rw [if_pos b3, if_neg (fun z => z.elim b12 (Int32.not_lt.mpr b16))])
      · -- 16: mm.1 4 0 7 ≤ hi on
        replace b16 : ¬ (mm.1 4 0 7 ≤ hi) := b16
        refine And.intro (show Pre_X4_fail mm [vR 4 0, vI 4] from ⟨_, rfl⟩) ?_
        show ((some (vI (-1)) : Option MV), faC mm 4) = _
        exact pI_q (by unfold amC; rw [if_pos b3, if_pos (Or.inr (Int32.not_le.mp b16))])
  · -- 3: mm.1 4 0 6 = 32 on
    replace b3 : ¬ (mm.1 4 0 6 = 32) := b3
    refine And.intro (show Pre_X4_misplaced mm [vR 4 0] from rfl) ?_
    show ((some (vI (-1)) : Option MV), miC mm) = _
    exact pI_q (by unfold amC; rw [if_neg b3])
theorem con_X4_amount (l : Launch) : CON l y_X4_amount prog_6_method_11_code 4 (some .int) rm_X4_amount Pre_X4_amount Fn_X4_amount := CON_of (by decide) rfl rfl (sa_X4_amount l) vc_X4_amount
def opC (m : MM) (k w hi : Int32) : Int32 × MM := if m.1 4 0 6 = k then amC (spM m) 0 hi else (w, m)
theorem TXp_op {m : MM} {k w hi : Int32} (h : TXp m) : TXp (opC m k w hi).2 := by
  unfold opC
  split
  · exact TXp_am (TXp_sp h)
  · exact h
theorem SMo_op (m : MM) (k w hi : Int32) : SMo m (opC m k w hi).2 := by
  unfold opC
  split
  · exact SMo_t (SMo_sp m) (SMo_am _ _ _)
  · exact SMo_r m

def Pre_X4_option : PreT := fun m as => TXp m ∧ ∃ k w hi : Int32, as = [vR 4 0, vI k, vI w, vI hi]
def Fn_X4_option : FnT := fun m as => match as with
  | [_, Sum.inl k, Sum.inl w, Sum.inl hi] => (some (vI (opC m k w hi).1), (opC m k w hi).2)
  | _ => (none, m)
--tpl ⟨by assumption, _, _, _, rfl⟩ || (opC {m} {1} {2} {3}).1 || (opC {m} {1} {2} {3}).2
abbrev y_X4_option : MethodName := ⟨"GivenUp$Text", "option", "(III)I"⟩
def P_X4_option : List StpT := [s_aload 0, s_getI 4 6, s_iload 1, s_iceq 6, s_iload 2, s_iret, s_aload 0, s_callV 4 0 Pre_X4_step Fn_X4_step, s_aload 0, s_ic (0), s_iload 3, s_callV 4 2 Pre_X4_amount Fn_X4_amount, s_iret]
def pc_X4_option : Nat → Nat := fun i => [0, 1, 4, 5, 8, 9, 10, 11, 14, 15, 16, 17, 20].getD i 0
def dl_X4_option : List (Nat × Instr × Nat) := [(0, .aload_n 0, 1), (1, .getfield 32, 3), (4, .iload_n 1, 1), (5, .if_icmp .eq 5, 3), (8, .iload_n 2, 1), (9, .ireturn, 1), (10, .aload_n 0, 1), (11, .invokevirtual 68, 3), (14, .aload_n 0, 1), (15, .iconst 0, 1), (16, .iload_n 3, 1), (17, .invokevirtual 89, 3), (20, .ireturn, 1)]
theorem dc_X4_option : DEC prog_6_method_12_code pc_X4_option dl_X4_option := DEC_of (by decide +kernel)
abbrev rm_X4_option : Room := { frames := 3, cells := 0, slots := 0, locals := 64 }
set_option maxRecDepth 20000 in
theorem sa_X4_option (l : Launch) : SNDALL l prog_6_method_12_code "GivenUp$Text" 4 (some .int) rm_X4_option P_X4_option pc_X4_option := fun p e s m args below meth c cells slots Q D dA ad A RR hC hR => by
  have hM := RTX_room (R := rm_X4_option) hR
  exact ⟨st_aload_n hC (n := 0) (k := 0) (dc_X4_option 0 (0, .aload_n 0, 1) rfl rfl) rfl rfl,
    st_getI hC (n := 1) (k := 4) (j := 6) (dc_X4_option 1 (1, .getfield 32, 3) rfl rfl) rfl clf_4 (by decide) rfl wd_237,
    st_iload_n hC (n := 2) (k := 1) (dc_X4_option 2 (4, .iload_n 1, 1) rfl rfl) rfl rfl,
    st_iceq hC (n := 3) (dc_X4_option 3 (5, .if_icmp .eq 5, 3) rfl rfl) rfl (by decide),
    st_iload_n hC (n := 4) (k := 2) (dc_X4_option 4 (8, .iload_n 2, 1) rfl rfl) rfl rfl,
    st_iret hC (n := 5) hR (dc_X4_option 5 (9, .ireturn, 1) rfl rfl),
    st_aload_n hC (n := 6) (k := 0) (dc_X4_option 6 (10, .aload_n 0, 1) rfl rfl) rfl rfl,
    st_callV hC (n := 7) (k := 4) (na := 0) (con_X4_step l) (dc_X4_option 7 (11, .invokevirtual 68, 3) rfl rfl) rfl wd_859 wd_144 (by decide) ⟨rfl, rfl, by decide, by decide⟩ hM wd_856 wd_857 wd_858 clf_4,
    st_aload_n hC (n := 8) (k := 0) (dc_X4_option 8 (14, .aload_n 0, 1) rfl rfl) rfl rfl,
    st_iconst hC (n := 9) (x := 0) (dc_X4_option 9 (15, .iconst 0, 1) rfl rfl) rfl (by decide),
    st_iload_n hC (n := 10) (k := 3) (dc_X4_option 10 (16, .iload_n 3, 1) rfl rfl) rfl rfl,
    st_callV hC (n := 11) (k := 4) (na := 2) (con_X4_amount l) (dc_X4_option 11 (17, .invokevirtual 89, 3) rfl rfl) rfl wd_896 wd_144 (by decide) ⟨rfl, rfl, by decide, by decide⟩ hM wd_893 wd_894 wd_895 clf_4,
    st_iret hC (n := 12) hR (dc_X4_option 12 (20, .ireturn, 1) rfl rfl), trivial⟩
set_option maxRecDepth 8000 in
theorem vc_X4_option : VC P_X4_option 4 Pre_X4_option Fn_X4_option := by
  rintro mm as hom hoa ⟨hT, k, w, hi, rfl⟩
  refine ⟨Nat.le_of_ble_eq_true rfl, fun X h => ?_⟩
  replace h : RUN P_X4_option (RI (opC mm k w hi)) X := h
  show X 0 [some (vR 4 0), some (vI k), some (vI w), some (vI hi)] [] mm
  refine h (fun _ => false) 3000 0 _ _ _ ?_
  refine br_c (fun b3 => ?_) (fun b3 => ?_)
  · -- 3: mm.1 4 0 6 = k taken
    replace b3 : mm.1 4 0 6 = k := b3
    refine And.intro (show Pre_X4_step mm [vR 4 0] from ⟨by assumption, rfl⟩) ?_
    refine And.intro (show Pre_X4_amount (spM mm) [vR 4 0, vI 0, vI hi] from ⟨TXp_sp hT, _, _, rfl⟩) ?_
    show ((some (vI ((amC (spM mm) 0 hi).1)) : Option MV), (amC (spM mm) 0 hi).2) = _
    exact pI_q (by unfold opC; rw [if_pos b3])
  · -- 3: mm.1 4 0 6 = k on
    replace b3 : ¬ (mm.1 4 0 6 = k) := b3
    show ((some (vI w) : Option MV), mm) = _
    exact pI_q (by unfold opC; rw [if_neg b3])
theorem con_X4_option (l : Launch) : CON l y_X4_option prog_6_method_12_code 4 (some .int) rm_X4_option Pre_X4_option Fn_X4_option := CON_of (by decide) rfl rfl (sa_X4_option l) vc_X4_option
def bg1 (m : MM) (n : Int32) : MM := mI (mI (mI (mI (mI m 4 0 2 (if m.1 4 0 5 < n then m.1 4 0 5 else n)) 4 0 5 0) 4 0 3 0) 4 0 9 0) 4 0 10 0
def bgC (m : MM) (n : Int32) : MM := spM (bg1 m n)
theorem TXp_b1 {m : MM} {n F : Nat} (hF : m.1 4 0 5 = nI F) (hF9 : F ≤ 900) (hn : n < 2 ^ 31) : TXp (bg1 m (nI n)) := by
  refine ⟨min n F, 0, ?_, by omega, rfl, by omega⟩
  show (if m.1 4 0 5 < nI n then m.1 4 0 5 else nI n) = _
  rw [hF]
  by_cases c : F < n
  · rw [if_pos ((nI_ltI (by omega) (by omega)).mpr c), Nat.min_eq_right (by omega)]
  · rw [if_neg (fun z => c ((nI_ltI (by omega) (by omega)).mp z)), Nat.min_eq_left (by omega)]

def Pre_X4_begin : PreT := fun m as => ∃ n F : Nat, m.1 4 0 5 = nI F ∧ F ≤ 900 ∧ n < 2 ^ 31 ∧ as = [vR 4 0, vI (nI n)]
def Fn_X4_begin : FnT := fun m as => match as with
  | [_, Sum.inl n] => (none, bgC m n)
  | _ => (none, m)
--tpl ⟨_, _, by assumption, by assumption, by omega, rfl⟩ ||  || bgC {m} {1}
--tpl J9_min_7cf53: ⟨_, _, rfl⟩ || if {1} < {0} then {1} else {0}
abbrev y_X4_begin : MethodName := ⟨"GivenUp$Text", "begin", "(I)V"⟩
def P_X4_begin : List StpT := [s_aload 0, s_iload 1, s_aload 0, s_getI 4 5, s_callS 2 Pre_J9_min_7cf53 Fn_J9_min_7cf53, s_putI 4 2, s_aload 0, s_ic (0), s_putI 4 5, s_aload 0, s_ic (0), s_putI 4 3, s_aload 0, s_ic (0), s_putI 4 9, s_aload 0, s_ic (0), s_putI 4 10, s_aload 0, s_callV 4 0 Pre_X4_step Fn_X4_step, s_vret]
def pc_X4_begin : Nat → Nat := fun i => [0, 1, 2, 3, 6, 9, 12, 13, 14, 17, 18, 19, 22, 23, 24, 27, 28, 29, 32, 33, 36].getD i 0
def dl_X4_begin : List (Nat × Instr × Nat) := [(0, .aload_n 0, 1), (1, .iload_n 1, 1), (2, .aload_n 0, 1), (3, .getfield 29, 3), (6, .invokestatic 62, 3), (9, .putfield 19, 3), (12, .aload_n 0, 1), (13, .iconst 0, 1), (14, .putfield 29, 3), (17, .aload_n 0, 1), (18, .iconst 0, 1), (19, .putfield 23, 3), (22, .aload_n 0, 1), (23, .iconst 0, 1), (24, .putfield 42, 3), (27, .aload_n 0, 1), (28, .iconst 0, 1), (29, .putfield 45, 3), (32, .aload_n 0, 1), (33, .invokevirtual 68, 3), (36, .return_, 1)]
theorem dc_X4_begin : DEC prog_6_method_3_code pc_X4_begin dl_X4_begin := DEC_of (by decide +kernel)
abbrev rm_X4_begin : Room := { frames := 2, cells := 0, slots := 0, locals := 41 }
set_option maxRecDepth 20000 in
theorem sa_X4_begin (l : Launch) : SNDALL l prog_6_method_3_code "GivenUp$Text" 2 none rm_X4_begin P_X4_begin pc_X4_begin := fun p e s m args below meth c cells slots Q D dA ad A RR hC hR => by
  have hM := RTX_room (R := rm_X4_begin) hR
  exact ⟨st_aload_n hC (n := 0) (k := 0) (dc_X4_begin 0 (0, .aload_n 0, 1) rfl rfl) rfl rfl,
    st_iload_n hC (n := 1) (k := 1) (dc_X4_begin 1 (1, .iload_n 1, 1) rfl rfl) rfl rfl,
    st_aload_n hC (n := 2) (k := 0) (dc_X4_begin 2 (2, .aload_n 0, 1) rfl rfl) rfl rfl,
    st_getI hC (n := 3) (k := 4) (j := 5) (dc_X4_begin 3 (3, .getfield 29, 3) rfl rfl) rfl clf_4 (by decide) rfl wd_235,
    st_callS hC (n := 4) (na := 2) (con_J9_min_7cf53 l) (dc_X4_begin 4 (6, .invokestatic 62, 3) rfl rfl) rfl wd_855 wd_162 (by decide) ⟨rfl, rfl, by decide, by decide⟩ hM wd_853 wd_854,
    st_putI hC (n := 5) (k := 4) (j := 2) (dc_X4_begin 5 (9, .putfield 19, 3) rfl rfl) rfl clf_4 (by decide) rfl rfl rfl wd_232,
    st_aload_n hC (n := 6) (k := 0) (dc_X4_begin 6 (12, .aload_n 0, 1) rfl rfl) rfl rfl,
    st_iconst hC (n := 7) (x := 0) (dc_X4_begin 7 (13, .iconst 0, 1) rfl rfl) rfl (by decide),
    st_putI hC (n := 8) (k := 4) (j := 5) (dc_X4_begin 8 (14, .putfield 29, 3) rfl rfl) rfl clf_4 (by decide) rfl rfl rfl wd_235,
    st_aload_n hC (n := 9) (k := 0) (dc_X4_begin 9 (17, .aload_n 0, 1) rfl rfl) rfl rfl,
    st_iconst hC (n := 10) (x := 0) (dc_X4_begin 10 (18, .iconst 0, 1) rfl rfl) rfl (by decide),
    st_putI hC (n := 11) (k := 4) (j := 3) (dc_X4_begin 11 (19, .putfield 23, 3) rfl rfl) rfl clf_4 (by decide) rfl rfl rfl wd_233,
    st_aload_n hC (n := 12) (k := 0) (dc_X4_begin 12 (22, .aload_n 0, 1) rfl rfl) rfl rfl,
    st_iconst hC (n := 13) (x := 0) (dc_X4_begin 13 (23, .iconst 0, 1) rfl rfl) rfl (by decide),
    st_putI hC (n := 14) (k := 4) (j := 9) (dc_X4_begin 14 (24, .putfield 42, 3) rfl rfl) rfl clf_4 (by decide) rfl rfl rfl wd_242,
    st_aload_n hC (n := 15) (k := 0) (dc_X4_begin 15 (27, .aload_n 0, 1) rfl rfl) rfl rfl,
    st_iconst hC (n := 16) (x := 0) (dc_X4_begin 16 (28, .iconst 0, 1) rfl rfl) rfl (by decide),
    st_putI hC (n := 17) (k := 4) (j := 10) (dc_X4_begin 17 (29, .putfield 45, 3) rfl rfl) rfl clf_4 (by decide) rfl rfl rfl wd_244,
    st_aload_n hC (n := 18) (k := 0) (dc_X4_begin 18 (32, .aload_n 0, 1) rfl rfl) rfl rfl,
    st_callV hC (n := 19) (k := 4) (na := 0) (con_X4_step l) (dc_X4_begin 19 (33, .invokevirtual 68, 3) rfl rfl) rfl wd_859 wd_144 (by decide) ⟨rfl, rfl, by decide, by decide⟩ hM wd_856 wd_857 wd_858 clf_4,
    st_vret hC (n := 20) hR (dc_X4_begin 20 (36, .return_, 1) rfl rfl), trivial⟩
set_option maxRecDepth 8000 in
theorem vc_X4_begin : VC P_X4_begin 2 Pre_X4_begin Fn_X4_begin := by
  rintro mm as hom hoa ⟨n, F, hF, hF9, hn, rfl⟩
  refine ⟨Nat.le_of_ble_eq_true rfl, fun X h => ?_⟩
  show X 0 [some (vR 4 0), some (vI (nI n))] [] mm
  refine h (fun _ => false) 3000 0 _ _ _ ?_
  refine And.intro (show Pre_J9_min_7cf53 mm [vI (nI n), vI (mm.1 4 0 5)] from ⟨_, _, rfl⟩) ?_
  refine And.intro (show Pre_X4_step (mI (mI (mI (mI (mI mm 4 0 2 (if (mm.1 4 0 5) < (nI n) then (mm.1 4 0 5) else (nI n))) 4 0 5 0) 4 0 3 0) 4 0 9 0) 4 0 10 0) [vR 4 0] from ⟨TXp_b1 hF hF9 hn, rfl⟩) ?_
  show ((none : Option MV), spM (mI (mI (mI (mI (mI mm 4 0 2 (if (mm.1 4 0 5) < (nI n) then (mm.1 4 0 5) else (nI n))) 4 0 5 0) 4 0 3 0) 4 0 9 0) 4 0 10 0)) = _
  exact rfl
theorem con_X4_begin (l : Launch) : CON l y_X4_begin prog_6_method_3_code 2 none rm_X4_begin Pre_X4_begin Fn_X4_begin := CON_of (by decide) rfl rfl (sa_X4_begin l) vc_X4_begin
/-- which of so many names in a row it is -/
def cfI (m : MM) (g f n : Nat) : Int32 := fsI (fun i => m.2.1 29 g (f + i) = m.2.1 4 0 8) n 0
def fdC (m : MM) (g f n : Nat) : Int32 × MM := if m.1 4 0 6 = 30 then (cfI m g f n, if cfI m g f n = -1 then faC m 3 else m) else (-1, miC m)
theorem TXp_fd {m : MM} {g f n : Nat} (h : TXp m) : TXp (fdC m g f n).2 := by
  unfold fdC
  split
  · show TXp (if cfI m g f n = -1 then faC m 3 else m)
    split
    · exact TXp_fa h
    · exact h
  · exact TXp_mi h
theorem SMo_fd (m : MM) (g f n : Nat) : SMo m (fdC m g f n).2 := by
  unfold fdC
  split
  · show SMo m (if cfI m g f n = -1 then faC m 3 else m)
    split
    · exact SMo_fa m _
    · exact SMo_r m
  · exact SMo_mi m

def Pre_X4_find : PreT := fun _ as => ∃ g f n : Nat, f + n ≤ 20 ∧ as = [vR 4 0, vR 29 g, vI (nI f), vI (nI n)]
def Fn_X4_find : FnT := fun m as => match as with
  | [_, Sum.inr (Sum.inr q), Sum.inl f, Sum.inl n] => (some (vI (fdC m q.2 f.toNatClampNeg n.toNatClampNeg).1), (fdC m q.2 f.toNatClampNeg n.toNatClampNeg).2)
  | _ => (none, m)
--tpl ⟨_, _, _, by omega, rfl⟩ || (fdC {m} {g1} {2n} {3n}).1 || (fdC {m} {g1} {2n} {3n}).2
abbrev y_X4_find : MethodName := ⟨"GivenUp$Text", "find", "([JII)I"⟩
def P_X4_find : List StpT := [s_aload 0, s_getI 4 6, s_ic (30), s_iceq 9, s_aload 0, s_callV 4 0 Pre_X4_misplaced Fn_X4_misplaced, s_pop, s_ic (-1), s_iret, s_ic (0), s_istore 4, s_iload 4, s_iload 3, s_icge 33, s_iload 2, s_iload 4, s_iadd, s_aload 1, s_alen, s_icge 33, s_aload 1, s_iload 2, s_iload 4, s_iadd, s_lald, s_aload 0, s_getL 4 8, s_lcmp, s_ifne 31, s_iload 4, s_iret, s_iinc 4 (1), s_goto 11, s_aload 0, s_ic (3), s_callV 4 1 Pre_X4_fail Fn_X4_fail, s_pop, s_ic (-1), s_iret]
def pc_X4_find : Nat → Nat := fun i => [0, 1, 4, 6, 9, 10, 13, 14, 15, 16, 17, 19, 21, 22, 25, 26, 28, 29, 30, 31, 34, 35, 36, 38, 39, 40, 41, 44, 45, 48, 50, 51, 54, 57, 58, 59, 62, 63, 64].getD i 0
def dl_X4_find : List (Nat × Instr × Nat) := [(0, .aload_n 0, 1), (1, .getfield 32, 3), (4, .bipush 30, 2), (6, .if_icmp .eq 10, 3), (9, .aload_n 0, 1), (10, .invokevirtual 86, 3), (13, .pop, 1), (14, .iconst (-1), 1), (15, .ireturn, 1), (16, .iconst 0, 1), (17, .istore 4, 2), (19, .iload 4, 2), (21, .iload_n 3, 1), (22, .if_icmp .ge 35, 3), (25, .iload_n 2, 1), (26, .iload 4, 2), (28, .iadd, 1), (29, .aload_n 1, 1), (30, .arraylength, 1), (31, .if_icmp .ge 26, 3), (34, .aload_n 1, 1), (35, .iload_n 2, 1), (36, .iload 4, 2), (38, .iadd, 1), (39, .laload, 1), (40, .aload_n 0, 1), (41, .getfield 38, 3), (44, .lcmp, 1), (45, .ifCond .ne 6, 3), (48, .iload 4, 2), (50, .ireturn, 1), (51, .iinc 4 1, 3), (54, .goto (-35), 3), (57, .aload_n 0, 1), (58, .iconst 3, 1), (59, .invokevirtual 82, 3), (62, .pop, 1), (63, .iconst (-1), 1), (64, .ireturn, 1)]
theorem dc_X4_find : DEC prog_6_method_13_code pc_X4_find dl_X4_find := DEC_of (by decide +kernel)
abbrev rm_X4_find : Room := { frames := 2, cells := 0, slots := 0, locals := 41 }
set_option maxRecDepth 20000 in
theorem sa_X4_find (l : Launch) : SNDALL l prog_6_method_13_code "GivenUp$Text" 5 (some .int) rm_X4_find P_X4_find pc_X4_find := fun p e s m args below meth c cells slots Q D dA ad A RR hC hR => by
  have hM := RTX_room (R := rm_X4_find) hR
  exact ⟨st_aload_n hC (n := 0) (k := 0) (dc_X4_find 0 (0, .aload_n 0, 1) rfl rfl) rfl rfl,
    st_getI hC (n := 1) (k := 4) (j := 6) (dc_X4_find 1 (1, .getfield 32, 3) rfl rfl) rfl clf_4 (by decide) rfl wd_237,
    st_bipush hC (n := 2) (x := 30) (dc_X4_find 2 (4, .bipush 30, 2) rfl rfl) rfl (by decide),
    st_iceq hC (n := 3) (dc_X4_find 3 (6, .if_icmp .eq 10, 3) rfl rfl) rfl (by decide),
    st_aload_n hC (n := 4) (k := 0) (dc_X4_find 4 (9, .aload_n 0, 1) rfl rfl) rfl rfl,
    st_callV hC (n := 5) (k := 4) (na := 0) (con_X4_misplaced l) (dc_X4_find 5 (10, .invokevirtual 86, 3) rfl rfl) rfl wd_887 wd_144 (by decide) ⟨rfl, rfl, by decide, by decide⟩ hM wd_884 wd_885 wd_886 clf_4,
    st_pop hC (n := 6) (dc_X4_find 6 (13, .pop, 1) rfl rfl) rfl,
    st_iconst hC (n := 7) (x := (-1)) (dc_X4_find 7 (14, .iconst (-1), 1) rfl rfl) rfl (by decide),
    st_iret hC (n := 8) hR (dc_X4_find 8 (15, .ireturn, 1) rfl rfl),
    st_iconst hC (n := 9) (x := 0) (dc_X4_find 9 (16, .iconst 0, 1) rfl rfl) rfl (by decide),
    st_istore hC (n := 10) (dc_X4_find 10 (17, .istore 4, 2) rfl rfl) rfl (by decide),
    st_iload hC (n := 11) (dc_X4_find 11 (19, .iload 4, 2) rfl rfl) rfl,
    st_iload_n hC (n := 12) (k := 3) (dc_X4_find 12 (21, .iload_n 3, 1) rfl rfl) rfl rfl,
    st_icge hC (n := 13) (dc_X4_find 13 (22, .if_icmp .ge 35, 3) rfl rfl) rfl (by decide),
    st_iload_n hC (n := 14) (k := 2) (dc_X4_find 14 (25, .iload_n 2, 1) rfl rfl) rfl rfl,
    st_iload hC (n := 15) (dc_X4_find 15 (26, .iload 4, 2) rfl rfl) rfl,
    st_iadd hC (n := 16) (dc_X4_find 16 (28, .iadd, 1) rfl rfl) rfl,
    st_aload_n hC (n := 17) (k := 1) (dc_X4_find 17 (29, .aload_n 1, 1) rfl rfl) rfl rfl,
    st_alen hC (n := 18) (dc_X4_find 18 (30, .arraylength, 1) rfl rfl) rfl,
    st_icge hC (n := 19) (dc_X4_find 19 (31, .if_icmp .ge 26, 3) rfl rfl) rfl (by decide),
    st_aload_n hC (n := 20) (k := 1) (dc_X4_find 20 (34, .aload_n 1, 1) rfl rfl) rfl rfl,
    st_iload_n hC (n := 21) (k := 2) (dc_X4_find 21 (35, .iload_n 2, 1) rfl rfl) rfl rfl,
    st_iload hC (n := 22) (dc_X4_find 22 (36, .iload 4, 2) rfl rfl) rfl,
    st_iadd hC (n := 23) (dc_X4_find 23 (38, .iadd, 1) rfl rfl) rfl,
    st_lald hC (n := 24) (dc_X4_find 24 (39, .laload, 1) rfl rfl) rfl,
    st_aload_n hC (n := 25) (k := 0) (dc_X4_find 25 (40, .aload_n 0, 1) rfl rfl) rfl rfl,
    st_getL hC (n := 26) (k := 4) (j := 8) (dc_X4_find 26 (41, .getfield 38, 3) rfl rfl) rfl clf_4 (by decide) rfl wd_241,
    st_lcmp hC (n := 27) (dc_X4_find 27 (44, .lcmp, 1) rfl rfl) rfl,
    st_ifne hC (n := 28) (dc_X4_find 28 (45, .ifCond .ne 6, 3) rfl rfl) rfl (by decide),
    st_iload hC (n := 29) (dc_X4_find 29 (48, .iload 4, 2) rfl rfl) rfl,
    st_iret hC (n := 30) hR (dc_X4_find 30 (50, .ireturn, 1) rfl rfl),
    st_iinc hC (n := 31) (x := 1) (dc_X4_find 31 (51, .iinc 4 1, 3) rfl rfl) rfl (by decide) (by decide),
    st_goto hC (n := 32) (dc_X4_find 32 (54, .goto (-35), 3) rfl rfl) (by decide),
    st_aload_n hC (n := 33) (k := 0) (dc_X4_find 33 (57, .aload_n 0, 1) rfl rfl) rfl rfl,
    st_iconst hC (n := 34) (x := 3) (dc_X4_find 34 (58, .iconst 3, 1) rfl rfl) rfl (by decide),
    st_callV hC (n := 35) (k := 4) (na := 1) (con_X4_fail l) (dc_X4_find 35 (59, .invokevirtual 82, 3) rfl rfl) rfl wd_878 wd_144 (by decide) ⟨rfl, rfl, by decide, by decide⟩ hM wd_888 wd_876 wd_877 clf_4,
    st_pop hC (n := 36) (dc_X4_find 36 (62, .pop, 1) rfl rfl) rfl,
    st_iconst hC (n := 37) (x := (-1)) (dc_X4_find 37 (63, .iconst (-1), 1) rfl rfl) rfl (by decide),
    st_iret hC (n := 38) hR (dc_X4_find 38 (64, .ireturn, 1) rfl rfl), trivial⟩
set_option maxRecDepth 8000 in
theorem vc_X4_find : VC P_X4_find 5 Pre_X4_find Fn_X4_find := by
  rintro mm as hom hoa ⟨g, f, n, hfn, rfl⟩
  refine ⟨Nat.le_of_ble_eq_true rfl, fun X h => ?_⟩
  have hF : Fn_X4_find mm [vR 4 0, vR 29 g, vI (nI f), vI (nI n)] = (some (vI (fdC mm g f n).1), (fdC mm g f n).2) := by
    show (some (vI (fdC mm g (nI f).toNatClampNeg (nI n).toNatClampNeg).1), (fdC mm g (nI f).toNatClampNeg (nI n).toNatClampNeg).2) = _
    rw [nI_clamp (show f < 2 ^ 31 by omega), nI_clamp (show n < 2 ^ 31 by omega)]
  rw [hF] at h
  replace h : RUN P_X4_find (RI (fdC mm g f n)) X := h
  have nope : mm.1 4 0 6 = 30 → cfI mm g f n = -1 → ∀ i : Int32, X 33 [some (vR 4 0), some (vR 29 g), some (vI (nI f)), some (vI (nI n)), some (vI (i))] [] mm := by
    intro h6 hc i
    show X 33 [some (vR 4 0), some (vR 29 g), some (vI (nI f)), some (vI (nI n)), some (vI i)] [] mm
    refine h (fun _ => false) 3000 33 _ _ _ ?_
    refine And.intro (show Pre_X4_fail mm [vR 4 0, vI 3] from ⟨_, rfl⟩) ?_
    show ((some (vI (-1)) : Option MV), faC mm 3) = _
    exact pI_q (by unfold fdC; rw [if_pos h6, if_pos hc, hc])
  have loop : mm.1 4 0 6 = 30 → ∀ i, i ≤ n → fsI (fun i => mm.2.1 29 g (f + i) = mm.2.1 4 0 8) (n - i) i = cfI mm g f n → X 11 [some (vR 4 0), some (vR 29 g), some (vI (nI f)), some (vI (nI n)), some (vI (nI i))] [] mm := by
    intro h6
    refine up_ind n ?_ (fun i hi ih => ?_)
    · intro hr
      rw [Nat.sub_self] at hr
      have z := nope h6 hr.symm (nI n)
      show X 11 [some (vR 4 0), some (vR 29 g), some (vI (nI f)), some (vI (nI n)), some (vI (nI n))] [] mm
      refine h (fun i => Nat.beq i 33) 3000 11 _ _ _ ?_
      refine br_t (show nI n ≤ nI n from Int32.le_refl _) ?_
      show X 33 [some (vR 4 0), some (vR 29 g), some (vI (nI f)), some (vI (nI n)), some (vI (nI n))] [] mm
      exact z
    · intro hr
      rw [show n - i = (n - (i + 1)) + 1 by omega] at hr
      have efi : (nI f + nI i).toNatClampNeg = f + i := by rw [nI_add]; exact nI_clamp (by omega)
      show X 11 [some (vR 4 0), some (vR 29 g), some (vI (nI f)), some (vI (nI n)), some (vI (nI i))] [] mm
      refine h (fun i => Nat.beq i 11) 3000 11 _ _ _ ?_
      refine br_f (show ¬ (nI n ≤ nI i) from nI_ge hi (by omega)) ?_
      refine br_f (show ¬ (Int32.ofNat (alen 29) ≤ (nI f) + (nI i)) from show ¬ Int32.ofNat (alen 29) ≤ nI f + nI i from by rw [nI_add]; exact nI_ge (show f + i < 20 by omega) (by decide)) ?_
      refine And.intro (show inb ((nI f) + (nI i)) (alen 29) = true from (inb_o 20 rfl rfl (show nI f + nI i = nI (f + i) by rw [nI_add]) (by omega))) ?_
      refine brn_c (fun b28 => ?_) (fun b28 => ?_)
      · -- 28: lg_cmp (mm.2.1 29 g (((nI f) + (nI i)).toNatClampNeg)) (mm.2.1 4 0 8) = 0 taken
        replace b28 : ¬ (lg_cmp (mm.2.1 29 g (((nI f) + (nI i)).toNatClampNeg)) (mm.2.1 4 0 8) = 0) := b28
        (try simp only [efi, lg_cmp_eq] at b28)
        show X 11 [some (vR 4 0), some (vR 29 g), some (vI (nI f)), some (vI (nI n)), some (vI ((nI i) + 1))] [] mm
        (try simp only [efi, lg_cmp_eq])
        rw [fsI_n b28] at hr
        rw [nI_1] 
        exact ih hr
      · -- 28: lg_cmp (mm.2.1 29 g (((nI f) + (nI i)).toNatClampNeg)) (mm.2.1 4 0 8) = 0 on
        replace b28 : lg_cmp (mm.2.1 29 g (((nI f) + (nI i)).toNatClampNeg)) (mm.2.1 4 0 8) = 0 := b28
        (try simp only [efi, lg_cmp_eq] at b28)
        show ((some (vI (nI i)) : Option MV), mm) = _
        (try simp only [efi, lg_cmp_eq])
        rw [fsI_y b28] at hr
        have n1 : ¬ nI i = -1 := fun z => (gu_m1 (by omega)).mp z 
        exact pI_q (by unfold fdC; rw [if_pos h6, ← hr, if_neg n1])
  show X 0 [some (vR 4 0), some (vR 29 g), some (vI (nI f)), some (vI (nI n)), none] [] mm
  refine h (fun i => Nat.beq i 11) 3000 0 _ _ _ ?_
  refine br_c (fun b3 => ?_) (fun b3 => ?_)
  · -- 3: mm.1 4 0 6 = 30 taken
    replace b3 : mm.1 4 0 6 = 30 := b3
    show X 11 [some (vR 4 0), some (vR 29 g), some (vI (nI f)), some (vI (nI n)), some (vI 0)] [] mm
    exact loop b3 0 (by omega) (by rw [Nat.sub_zero]; rfl)
  · -- 3: mm.1 4 0 6 = 30 on
    replace b3 : ¬ (mm.1 4 0 6 = 30) := b3
    refine And.intro (show Pre_X4_misplaced mm [vR 4 0] from rfl) ?_
    show ((some (vI (-1)) : Option MV), miC mm) = _
    exact pI_q (by unfold fdC; rw [if_neg b3])
theorem con_X4_find (l : Launch) : CON l y_X4_find prog_6_method_13_code 5 (some .int) rm_X4_find Pre_X4_find Fn_X4_find := CON_of (by decide) rfl rfl (sa_X4_find l) vc_X4_find
def meC (m : MM) (g f n : Nat) : Int32 × MM := if 0 ≤ (fdC m g f n).1 then ((fdC m g f n).1, spM (fdC m g f n).2) else fdC m g f n
theorem TXp_me {m : MM} {g f n : Nat} (h : TXp m) : TXp (meC m g f n).2 := by
  unfold meC
  split
  · exact TXp_sp (TXp_fd h)
  · exact TXp_fd h
theorem SMo_me (m : MM) (g f n : Nat) : SMo m (meC m g f n).2 := by
  unfold meC
  split
  · exact SMo_t (SMo_fd m g f n) (SMo_sp _)
  · exact SMo_fd m g f n

def Pre_X4_member : PreT := fun m as => TXp m ∧ ∃ g f n : Nat, f + n ≤ 20 ∧ as = [vR 4 0, vR 29 g, vI (nI f), vI (nI n)]
def Fn_X4_member : FnT := fun m as => match as with
  | [_, Sum.inr (Sum.inr q), Sum.inl f, Sum.inl n] => (some (vI (meC m q.2 f.toNatClampNeg n.toNatClampNeg).1), (meC m q.2 f.toNatClampNeg n.toNatClampNeg).2)
  | _ => (none, m)
--tpl ⟨by assumption, _, _, _, by omega, rfl⟩ || (meC {m} {g1} {2n} {3n}).1 || (meC {m} {g1} {2n} {3n}).2
abbrev y_X4_member : MethodName := ⟨"GivenUp$Text", "member", "([JII)I"⟩
def P_X4_member : List StpT := [s_aload 0, s_aload 1, s_iload 2, s_iload 3, s_callV 4 3 Pre_X4_find Fn_X4_find, s_istore 4, s_iload 4, s_iflt 10, s_aload 0, s_callV 4 0 Pre_X4_step Fn_X4_step, s_iload 4, s_iret]
def pc_X4_member : Nat → Nat := fun i => [0, 1, 2, 3, 4, 7, 9, 11, 14, 15, 18, 20].getD i 0
def dl_X4_member : List (Nat × Instr × Nat) := [(0, .aload_n 0, 1), (1, .aload_n 1, 1), (2, .iload_n 2, 1), (3, .iload_n 3, 1), (4, .invokevirtual 92, 3), (7, .istore 4, 2), (9, .iload 4, 2), (11, .ifCond .lt 7, 3), (14, .aload_n 0, 1), (15, .invokevirtual 68, 3), (18, .iload 4, 2), (20, .ireturn, 1)]
theorem dc_X4_member : DEC prog_6_method_14_code pc_X4_member dl_X4_member := DEC_of (by decide +kernel)
abbrev rm_X4_member : Room := { frames := 3, cells := 0, slots := 0, locals := 65 }
set_option maxRecDepth 20000 in
theorem sa_X4_member (l : Launch) : SNDALL l prog_6_method_14_code "GivenUp$Text" 5 (some .int) rm_X4_member P_X4_member pc_X4_member := fun p e s m args below meth c cells slots Q D dA ad A RR hC hR => by
  have hM := RTX_room (R := rm_X4_member) hR
  exact ⟨st_aload_n hC (n := 0) (k := 0) (dc_X4_member 0 (0, .aload_n 0, 1) rfl rfl) rfl rfl,
    st_aload_n hC (n := 1) (k := 1) (dc_X4_member 1 (1, .aload_n 1, 1) rfl rfl) rfl rfl,
    st_iload_n hC (n := 2) (k := 2) (dc_X4_member 2 (2, .iload_n 2, 1) rfl rfl) rfl rfl,
    st_iload_n hC (n := 3) (k := 3) (dc_X4_member 3 (3, .iload_n 3, 1) rfl rfl) rfl rfl,
    st_callV hC (n := 4) (k := 4) (na := 3) (con_X4_find l) (dc_X4_member 4 (4, .invokevirtual 92, 3) rfl rfl) rfl wd_917 wd_144 (by decide) ⟨rfl, rfl, by decide, by decide⟩ hM wd_914 wd_915 wd_916 clf_4,
    st_istore hC (n := 5) (dc_X4_member 5 (7, .istore 4, 2) rfl rfl) rfl (by decide),
    st_iload hC (n := 6) (dc_X4_member 6 (9, .iload 4, 2) rfl rfl) rfl,
    st_iflt hC (n := 7) (dc_X4_member 7 (11, .ifCond .lt 7, 3) rfl rfl) rfl (by decide),
    st_aload_n hC (n := 8) (k := 0) (dc_X4_member 8 (14, .aload_n 0, 1) rfl rfl) rfl rfl,
    st_callV hC (n := 9) (k := 4) (na := 0) (con_X4_step l) (dc_X4_member 9 (15, .invokevirtual 68, 3) rfl rfl) rfl wd_859 wd_144 (by decide) ⟨rfl, rfl, by decide, by decide⟩ hM wd_856 wd_857 wd_858 clf_4,
    st_iload hC (n := 10) (dc_X4_member 10 (18, .iload 4, 2) rfl rfl) rfl,
    st_iret hC (n := 11) hR (dc_X4_member 11 (20, .ireturn, 1) rfl rfl), trivial⟩
set_option maxRecDepth 8000 in
theorem vc_X4_member : VC P_X4_member 5 Pre_X4_member Fn_X4_member := by
  rintro mm as hom hoa ⟨hT, g, f, n, hfn, rfl⟩
  refine ⟨Nat.le_of_ble_eq_true rfl, fun X h => ?_⟩
  have ef : (nI f).toNatClampNeg = f := nI_clamp (by omega)
  have en : (nI n).toNatClampNeg = n := nI_clamp (by omega)
  have hF : Fn_X4_member mm [vR 4 0, vR 29 g, vI (nI f), vI (nI n)] = (some (vI (meC mm g f n).1), (meC mm g f n).2) := by
    show (some (vI (meC mm g (nI f).toNatClampNeg (nI n).toNatClampNeg).1), (meC mm g (nI f).toNatClampNeg (nI n).toNatClampNeg).2) = _
    rw [ef, en]
  rw [hF] at h
  replace h : RUN P_X4_member (RI (meC mm g f n)) X := h
  have hT2 : TXp (fdC mm g (nI f).toNatClampNeg (nI n).toNatClampNeg).2 := TXp_fd hT
  show X 0 [some (vR 4 0), some (vR 29 g), some (vI (nI f)), some (vI (nI n)), none] [] mm
  refine h (fun _ => false) 3000 0 _ _ _ ?_
  refine And.intro (show Pre_X4_find mm [vR 4 0, vR 29 g, vI (nI f), vI (nI n)] from ⟨g, f, n, hfn, rfl⟩) ?_
  refine br_c (fun b7 => ?_) (fun b7 => ?_)
  · -- 7: (fdC mm g (nI f).toNatClampNeg (nI n).toNatClampNeg).1 < 0 taken
    replace b7 : (fdC mm g (nI f).toNatClampNeg (nI n).toNatClampNeg).1 < 0 := b7
    (try simp only [ef, en] at b7)
    show ((some (vI ((fdC mm g (nI f).toNatClampNeg (nI n).toNatClampNeg).1)) : Option MV), (fdC mm g (nI f).toNatClampNeg (nI n).toNatClampNeg).2) = _
    (try simp only [ef, en])
    refine pI_q ?_
    unfold meC 
    rw [if_neg (Int32.not_le.mpr b7)]
  · -- 7: (fdC mm g (nI f).toNatClampNeg (nI n).toNatClampNeg).1 < 0 on
    replace b7 : ¬ ((fdC mm g (nI f).toNatClampNeg (nI n).toNatClampNeg).1 < 0) := b7
    (try simp only [ef, en] at b7)
    refine And.intro (show Pre_X4_step ((fdC mm g (nI f).toNatClampNeg (nI n).toNatClampNeg).2) [vR 4 0] from ⟨hT2, rfl⟩) ?_
    show ((some (vI ((fdC mm g (nI f).toNatClampNeg (nI n).toNatClampNeg).1)) : Option MV), spM ((fdC mm g (nI f).toNatClampNeg (nI n).toNatClampNeg).2)) = _
    (try simp only [ef, en])
    refine pI_q ?_
    unfold meC 
    rw [if_pos (Int32.not_lt.mp b7)]
theorem con_X4_member (l : Launch) : CON l y_X4_member prog_6_method_14_code 5 (some .int) rm_X4_member Pre_X4_member Fn_X4_member := CON_of (by decide) rfl rfl (sa_X4_member l) vc_X4_member
/-- no name of the row is it -/
def ntI (m : MM) (g : Nat) : Int32 := fsI (fun i => m.2.1 29 g i = m.2.1 4 0 8) 20 0
def nwC (m : MM) (g : Nat) : Int64 × MM := if m.1 4 0 6 = 30 then (if ntI m g = -1 then (m.2.1 4 0 8, spM m) else (0, faC m 3)) else (0, miC m)
theorem TXp_nw {m : MM} {g : Nat} (h : TXp m) : TXp (nwC m g).2 := by
  unfold nwC
  split
  · split
    · exact TXp_sp h
    · exact TXp_fa h
  · exact TXp_mi h
theorem SMo_nw (m : MM) (g : Nat) : SMo m (nwC m g).2 := by
  unfold nwC
  split
  · split
    · exact SMo_sp m
    · exact SMo_fa m _
  · exact SMo_mi m
theorem pL_q {p : Int64 × MM} {x : Int64} {m : MM} (h : p = (x, m)) : ((some (vL x) : Option MV), m) = (some (vL p.1), p.2) := by rw [h]
def RL (p : Int64 × MM) : RetP := fun r m' => (r, m') = (some (vL p.1), p.2)

def Pre_X4_newName : PreT := fun m as => TXp m ∧ ∃ g : Nat, as = [vR 4 0, vR 29 g]
def Fn_X4_newName : FnT := fun m as => match as with
  | [_, Sum.inr (Sum.inr q)] => (some (vL (nwC m q.2).1), (nwC m q.2).2)
  | _ => (none, m)
--tpl ⟨by assumption, _, rfl⟩ || L (nwC {m} {g1}).1 || (nwC {m} {g1}).2
abbrev y_X4_newName : MethodName := ⟨"GivenUp$Text", "newName", "([J)J"⟩
def P_X4_newName : List StpT := [s_aload 0, s_getI 4 6, s_ic (30), s_iceq 9, s_aload 0, s_callV 4 0 Pre_X4_misplaced Fn_X4_misplaced, s_pop, s_lc 0, s_lret, s_ic (0), s_istore 2, s_iload 2, s_aload 1, s_alen, s_icge 30, s_aload 1, s_iload 2, s_lald, s_aload 0, s_getL 4 8, s_lcmp, s_ifne 28, s_aload 0, s_ic (3), s_callV 4 1 Pre_X4_fail Fn_X4_fail, s_pop, s_lc 0, s_lret, s_iinc 2 (1), s_goto 11, s_aload 0, s_getL 4 8, s_lstore 2, s_aload 0, s_callV 4 0 Pre_X4_step Fn_X4_step, s_lload 2, s_lret]
def pc_X4_newName : Nat → Nat := fun i => [0, 1, 4, 6, 9, 10, 13, 14, 15, 16, 17, 18, 19, 20, 21, 24, 25, 26, 27, 28, 31, 32, 35, 36, 37, 40, 41, 42, 43, 46, 49, 50, 53, 54, 55, 58, 59].getD i 0
def dl_X4_newName : List (Nat × Instr × Nat) := [(0, .aload_n 0, 1), (1, .getfield 32, 3), (4, .bipush 30, 2), (6, .if_icmp .eq 10, 3), (9, .aload_n 0, 1), (10, .invokevirtual 86, 3), (13, .pop, 1), (14, .lconst 0, 1), (15, .lreturn, 1), (16, .iconst 0, 1), (17, .istore_n 2, 1), (18, .iload_n 2, 1), (19, .aload_n 1, 1), (20, .arraylength, 1), (21, .if_icmp .ge 28, 3), (24, .aload_n 1, 1), (25, .iload_n 2, 1), (26, .laload, 1), (27, .aload_n 0, 1), (28, .getfield 38, 3), (31, .lcmp, 1), (32, .ifCond .ne 11, 3), (35, .aload_n 0, 1), (36, .iconst 3, 1), (37, .invokevirtual 82, 3), (40, .pop, 1), (41, .lconst 0, 1), (42, .lreturn, 1), (43, .iinc 2 1, 3), (46, .goto (-28), 3), (49, .aload_n 0, 1), (50, .getfield 38, 3), (53, .lstore_n 2, 1), (54, .aload_n 0, 1), (55, .invokevirtual 68, 3), (58, .lload_n 2, 1), (59, .lreturn, 1)]
theorem dc_X4_newName : DEC prog_6_method_15_code pc_X4_newName dl_X4_newName := DEC_of (by decide +kernel)
abbrev rm_X4_newName : Room := { frames := 2, cells := 0, slots := 0, locals := 41 }
set_option maxRecDepth 20000 in
theorem sa_X4_newName (l : Launch) : SNDALL l prog_6_method_15_code "GivenUp$Text" 4 (some .long) rm_X4_newName P_X4_newName pc_X4_newName := fun p e s m args below meth c cells slots Q D dA ad A RR hC hR => by
  have hM := RTX_room (R := rm_X4_newName) hR
  exact ⟨st_aload_n hC (n := 0) (k := 0) (dc_X4_newName 0 (0, .aload_n 0, 1) rfl rfl) rfl rfl,
    st_getI hC (n := 1) (k := 4) (j := 6) (dc_X4_newName 1 (1, .getfield 32, 3) rfl rfl) rfl clf_4 (by decide) rfl wd_237,
    st_bipush hC (n := 2) (x := 30) (dc_X4_newName 2 (4, .bipush 30, 2) rfl rfl) rfl (by decide),
    st_iceq hC (n := 3) (dc_X4_newName 3 (6, .if_icmp .eq 10, 3) rfl rfl) rfl (by decide),
    st_aload_n hC (n := 4) (k := 0) (dc_X4_newName 4 (9, .aload_n 0, 1) rfl rfl) rfl rfl,
    st_callV hC (n := 5) (k := 4) (na := 0) (con_X4_misplaced l) (dc_X4_newName 5 (10, .invokevirtual 86, 3) rfl rfl) rfl wd_887 wd_144 (by decide) ⟨rfl, rfl, by decide, by decide⟩ hM wd_884 wd_885 wd_886 clf_4,
    st_pop hC (n := 6) (dc_X4_newName 6 (13, .pop, 1) rfl rfl) rfl,
    st_lconst hC (n := 7) (x := 0) (dc_X4_newName 7 (14, .lconst 0, 1) rfl rfl) rfl (by decide),
    st_lret hC (n := 8) hR (dc_X4_newName 8 (15, .lreturn, 1) rfl rfl),
    st_iconst hC (n := 9) (x := 0) (dc_X4_newName 9 (16, .iconst 0, 1) rfl rfl) rfl (by decide),
    st_istore_n hC (n := 10) (k := 2) (dc_X4_newName 10 (17, .istore_n 2, 1) rfl rfl) rfl rfl (by decide),
    st_iload_n hC (n := 11) (k := 2) (dc_X4_newName 11 (18, .iload_n 2, 1) rfl rfl) rfl rfl,
    st_aload_n hC (n := 12) (k := 1) (dc_X4_newName 12 (19, .aload_n 1, 1) rfl rfl) rfl rfl,
    st_alen hC (n := 13) (dc_X4_newName 13 (20, .arraylength, 1) rfl rfl) rfl,
    st_icge hC (n := 14) (dc_X4_newName 14 (21, .if_icmp .ge 28, 3) rfl rfl) rfl (by decide),
    st_aload_n hC (n := 15) (k := 1) (dc_X4_newName 15 (24, .aload_n 1, 1) rfl rfl) rfl rfl,
    st_iload_n hC (n := 16) (k := 2) (dc_X4_newName 16 (25, .iload_n 2, 1) rfl rfl) rfl rfl,
    st_lald hC (n := 17) (dc_X4_newName 17 (26, .laload, 1) rfl rfl) rfl,
    st_aload_n hC (n := 18) (k := 0) (dc_X4_newName 18 (27, .aload_n 0, 1) rfl rfl) rfl rfl,
    st_getL hC (n := 19) (k := 4) (j := 8) (dc_X4_newName 19 (28, .getfield 38, 3) rfl rfl) rfl clf_4 (by decide) rfl wd_241,
    st_lcmp hC (n := 20) (dc_X4_newName 20 (31, .lcmp, 1) rfl rfl) rfl,
    st_ifne hC (n := 21) (dc_X4_newName 21 (32, .ifCond .ne 11, 3) rfl rfl) rfl (by decide),
    st_aload_n hC (n := 22) (k := 0) (dc_X4_newName 22 (35, .aload_n 0, 1) rfl rfl) rfl rfl,
    st_iconst hC (n := 23) (x := 3) (dc_X4_newName 23 (36, .iconst 3, 1) rfl rfl) rfl (by decide),
    st_callV hC (n := 24) (k := 4) (na := 1) (con_X4_fail l) (dc_X4_newName 24 (37, .invokevirtual 82, 3) rfl rfl) rfl wd_878 wd_144 (by decide) ⟨rfl, rfl, by decide, by decide⟩ hM wd_888 wd_876 wd_877 clf_4,
    st_pop hC (n := 25) (dc_X4_newName 25 (40, .pop, 1) rfl rfl) rfl,
    st_lconst hC (n := 26) (x := 0) (dc_X4_newName 26 (41, .lconst 0, 1) rfl rfl) rfl (by decide),
    st_lret hC (n := 27) hR (dc_X4_newName 27 (42, .lreturn, 1) rfl rfl),
    st_iinc hC (n := 28) (x := 1) (dc_X4_newName 28 (43, .iinc 2 1, 3) rfl rfl) rfl (by decide) (by decide),
    st_goto hC (n := 29) (dc_X4_newName 29 (46, .goto (-28), 3) rfl rfl) (by decide),
    st_aload_n hC (n := 30) (k := 0) (dc_X4_newName 30 (49, .aload_n 0, 1) rfl rfl) rfl rfl,
    st_getL hC (n := 31) (k := 4) (j := 8) (dc_X4_newName 31 (50, .getfield 38, 3) rfl rfl) rfl clf_4 (by decide) rfl wd_241,
    st_lstore_n hC (n := 32) (k := 2) (dc_X4_newName 32 (53, .lstore_n 2, 1) rfl rfl) rfl rfl (by decide),
    st_aload_n hC (n := 33) (k := 0) (dc_X4_newName 33 (54, .aload_n 0, 1) rfl rfl) rfl rfl,
    st_callV hC (n := 34) (k := 4) (na := 0) (con_X4_step l) (dc_X4_newName 34 (55, .invokevirtual 68, 3) rfl rfl) rfl wd_859 wd_144 (by decide) ⟨rfl, rfl, by decide, by decide⟩ hM wd_856 wd_857 wd_858 clf_4,
    st_lload_n hC (n := 35) (k := 2) (dc_X4_newName 35 (58, .lload_n 2, 1) rfl rfl) rfl rfl,
    st_lret hC (n := 36) hR (dc_X4_newName 36 (59, .lreturn, 1) rfl rfl), trivial⟩
set_option maxRecDepth 8000 in
theorem vc_X4_newName : VC P_X4_newName 4 Pre_X4_newName Fn_X4_newName := by
  rintro mm as hom hoa ⟨hT, g, rfl⟩
  refine ⟨Nat.le_of_ble_eq_true rfl, fun X h => ?_⟩
  replace h : RUN P_X4_newName (RL (nwC mm g)) X := h
  have loop : mm.1 4 0 6 = 30 → ∀ i, i ≤ 20 → fsI (fun i => mm.2.1 29 g i = mm.2.1 4 0 8) (20 - i) i = ntI mm g → X 11 [some (vR 4 0), some (vR 29 g), some (vI (nI i)), none] [] mm := by
    intro h6
    refine up_ind 20 ?_ (fun i hi ih => ?_)
    · intro hr
      have e : ntI mm g = -1 := hr.symm
      show X 11 [some (vR 4 0), some (vR 29 g), some (vI (nI 20)), none] [] mm
      refine h (fun _ => false) 3000 11 _ _ _ ?_
      refine br_t (show Int32.ofNat (alen 29) ≤ nI 20 from Int32.le_refl _) ?_
      refine And.intro (show Pre_X4_step mm [vR 4 0] from ⟨by assumption, rfl⟩) ?_
      show ((some (vL (mm.2.1 4 0 8)) : Option MV), spM mm) = _
      exact pL_q (by unfold nwC; rw [if_pos h6, if_pos e])
    · intro hr
      rw [show 20 - i = (20 - (i + 1)) + 1 by omega] at hr
      have ei : (nI i).toNatClampNeg = i := nI_clamp (by omega)
      show X 11 [some (vR 4 0), some (vR 29 g), some (vI (nI i)), none] [] mm
      refine h (fun i => Nat.beq i 11) 3000 11 _ _ _ ?_
      refine br_f (show ¬ (Int32.ofNat (alen 29) ≤ nI i) from nI_ge hi (by decide)) ?_
      refine And.intro (show inb (nI i) (alen 29) = true from (inb_o 20 rfl rfl rfl (by omega))) ?_
      refine brn_c (fun b21 => ?_) (fun b21 => ?_)
      · -- 21: lg_cmp (mm.2.1 29 g ((nI i).toNatClampNeg)) (mm.2.1 4 0 8) = 0 taken
        replace b21 : ¬ (lg_cmp (mm.2.1 29 g ((nI i).toNatClampNeg)) (mm.2.1 4 0 8) = 0) := b21
        (try simp only [ei, lg_cmp_eq] at b21)
        show X 11 [some (vR 4 0), some (vR 29 g), some (vI ((nI i) + 1)), none] [] mm
        (try simp only [ei, lg_cmp_eq])
        rw [fsI_n b21] at hr
        rw [nI_1] 
        exact ih hr
      · -- 21: lg_cmp (mm.2.1 29 g ((nI i).toNatClampNeg)) (mm.2.1 4 0 8) = 0 on
        replace b21 : lg_cmp (mm.2.1 29 g ((nI i).toNatClampNeg)) (mm.2.1 4 0 8) = 0 := b21
        (try simp only [ei, lg_cmp_eq] at b21)
        refine And.intro (show Pre_X4_fail mm [vR 4 0, vI 3] from ⟨_, rfl⟩) ?_
        show ((some (vL 0) : Option MV), faC mm 3) = _
        (try simp only [ei, lg_cmp_eq])
        rw [fsI_y b21] at hr
        have n1 : ¬ nI i = -1 := fun z => (gu_m1 (by omega)).mp z 
        exact pL_q (by unfold nwC; rw [if_pos h6, ← hr, if_neg n1])
  show X 0 [some (vR 4 0), some (vR 29 g), none, none] [] mm
  refine h (fun i => Nat.beq i 11) 3000 0 _ _ _ ?_
  refine br_c (fun b3 => ?_) (fun b3 => ?_)
  · -- 3: mm.1 4 0 6 = 30 taken
    replace b3 : mm.1 4 0 6 = 30 := b3
    show X 11 [some (vR 4 0), some (vR 29 g), some (vI 0), none] [] mm
    exact loop b3 0 (by omega) rfl
  · -- 3: mm.1 4 0 6 = 30 on
    replace b3 : ¬ (mm.1 4 0 6 = 30) := b3
    refine And.intro (show Pre_X4_misplaced mm [vR 4 0] from rfl) ?_
    show ((some (vL 0) : Option MV), miC mm) = _
    exact pL_q (by unfold nwC; rw [if_neg b3])
theorem con_X4_newName (l : Launch) : CON l y_X4_newName prog_6_method_15_code 4 (some .long) rm_X4_newName Pre_X4_newName Fn_X4_newName := CON_of (by decide) rfl rfl (sa_X4_newName l) vc_X4_newName
