/-! PART 97: the class: a valley, years -/

noncomputable section
theorem DY_pB {p : PR} {q : MM → PR} {D : Nat → Nat} (h : p.2.2.2 = D) (hq : ∀ M : MM, M.2.2 = D → (q M).2.2.2 = D) : (pBd p q).2.2.2 = D := by
  by_cases c : p.1 = true
  · rw [pBd_t c]; exact hq _ h
  · rw [pBd_f c]; exact h
theorem DY_cP {k g L : Nat} {p : Int32 × MM} {D : Nat → Nat} (h : p.2.2.2 = D) : (c10P k g L p).2.2.2 = D := h
theorem DY_if {c : Prop} [Decidable c] {p q : PR} {D : Nat → Nat} (h : p.2.2.2 = D) (h' : q.2.2.2 = D) : (if c then p else q).2.2.2 = D := by
  by_cases z : c
  · rw [if_pos z]; exact h
  · rw [if_neg z]; exact h'
theorem DY_o {a b : MM} {D : Nat → Nat} (h : SMo a b) (e : a.2.2 = D) : b.2.2 = D := h.2.2.trans e
theorem DY_d {g v : Nat} {m : MM} {D : Nat → Nat} (e : m.2.2 = D) : (c10d g v m).2.2.2 = D := by
  unfold c10d c10d1
  exact DY_if (DY_cP (DY_o (SMo_me _ _ _ _) e)) (DY_if (DY_cP (DY_o (SMo_me _ _ _ _) e)) (DY_if (DY_pB (DY_cP (DY_o (SMo_me _ _ _ _) e)) (fun M hM => DY_pB (DY_o (SMo_sk _ _) hM) (fun N hN => DY_cP (DY_o (SMo_me _ _ _ _) hN)))) (DY_if (DY_cP (DY_o (SMo_am _ _ _) e)) e)))
theorem DY_t {g v : Nat} {m : MM} {D : Nat → Nat} (e : m.2.2 = D) : (c10t g v m).2.2.2 = D := by
  have hE : ∀ L M, M.2.2 = D → (c10tE g L M).2.2.2 = D := fun L M hM => DY_if (DY_cP (DY_o (SMo_am _ _ _) (DY_o (SMo_sp _) (by exact hM)))) (DY_o (SMo_mi _) hM)
  have hD : ∀ L t M, M.2.2 = D → (c10tD g v L t M).2.2.2 = D := fun L t M hM => DY_if (DY_cP (DY_o (SMo_me _ _ _ _) hM)) (DY_pB (DY_cP (DY_o (SMo_me _ _ _ _) hM)) (hE L))
  have hB : ∀ L t M, M.2.2 = D → (c10tB g v L t M).2.2.2 = D := fun L t M hM => DY_pB (DY_o (SMo_sk _ _) hM) (hD L t)
  have hA : ∀ L t M, M.2.2 = D → (c10tA g v L t M).2.2.2 = D := fun L t M hM => DY_if (DY_cP (DY_o (SMo_me _ _ _ _) hM)) (DY_pB (DY_cP (DY_o (SMo_me _ _ _ _) hM)) (hB L t))
  exact DY_if (hA _ _ _ (DY_o (SMo_sp _) (by exact e))) (DY_o (SMo_mi _) e)
theorem DY_z {g : Nat} {b : Int32} {m : MM} {D : Nat → Nat} (e : m.2.2 = D) : (c10z g b m).2.2.2 = D := by
  unfold c10z c10n
  show (if b = 0 then m else c10o m g).2.2 = D
  by_cases c : b = 0
  · rw [if_pos c]; exact e
  · rw [if_neg c]; exact e
theorem DY_s {g v : Nat} {m : MM} {D : Nat → Nat} (e : m.2.2 = D) : (c10s g v m).2.2.2 = D := by
  unfold c10s c10s1 c10s2
  refine DY_if (DY_if (DY_if (DY_o (SMo_fa _ _) e) (DY_pB ?_ (fun M hM => DY_pB (DY_o (SMo_sk _ _) hM) (fun N hN => DY_z hN)))) (DY_o (SMo_fa _ _) e)) (DY_o (SMo_mi _) e)
  unfold c10x
  exact DY_if (DY_t (DY_o (SMo_sp _) (by exact e))) (DY_d (DY_o (SMo_sp _) (by exact e)))
theorem DY_e {g : Nat} {m : MM} {D : Nat → Nat} (e : m.2.2 = D) : (c10e g m).2.2.2 = D := by
  unfold c10e
  exact DY_if (DY_pB (DY_o (SMo_sk _ _) (DY_o (SMo_sp _) e)) (fun M hM => hM)) (DY_o (SMo_mi _) e)
theorem DY_v1 {g v : Nat} {m : MM} {D : Nat → Nat} (e : m.2.2 = D) : (c10v1 g v m).2.2.2 = D := DY_if (DY_e e) (DY_s e)
theorem DY_vL {g v : Nat} {D : Nat → Nat} : ∀ f m, m.2.2 = D → (c10vL g v f m).2.2.2 = D
  | 0, _, e => e
  | f + 1, m, e => by
    rw [c10vL]
    exact DY_if e (DY_pB (DY_v1 e) (fun M hM => DY_vL f M hM))
theorem DY_vC {g v : Nat} {m : MM} {n : Int32} : (c10vC g v m n).2.2.2 = m.2.2 := by
  have h : (c10vL g v 61 (c10v0 g m n)).2.2.2 = m.2.2 := DY_vL _ _ (DY_o (SMo_sp _) rfl)
  unfold c10vC c10vE c10vF
  revert h
  generalize c10vL g v 61 (c10v0 g m n) = p
  intro h
  show (if p.1 = true ∧ 0 < p.2.1 10 0 2 then ((false, miC p.2) : PR) else p).2.2.2 = m.2.2
  exact DY_if (DY_o (SMo_mi _) h) h
def cl_va3 (m : MM) : Option MV × MM := gvC m (m.1 6 (m.2.2 0) 15)
def cl_va2 (m : MM) : Option MV × MM := cl_va3 (mDyn (mDyn m 0 (m.2.2 1)) 1 (m.2.2 0))
def cl_va1 (p : PR) : Option MV × MM := if p.1 = true then cl_va2 (kfM p.2) else rfC (kfM p.2) 9
def cl_valley (m : MM) (x : Int32) : Option MV × MM := if x < 0 then rfC m 1 else if x ≤ m.1 4 0 5 then cl_va1 (c7vC (m.2.2 1) m x) else rfC m 1

def Pre_X11_valley : PreT := fun m as => (∃ n : Nat, m.1 4 0 5 = nI n ∧ n ≤ 900) ∧ ∃ x : Int32, as = [vR 11 0, vI x]
def Fn_X11_valley : FnT := fun m as => match as with
  | [_, Sum.inl x] => cl_valley m x
  | _ => (none, m)
abbrev y_X11_valley : MethodName := ⟨"GivenUp", "valley", "(I)I"⟩
def P_X11_valley : List StpT := [s_iload 1, s_iflt 7, s_iload 1, s_aload 0, s_getC 11 1 4 0, s_getI 4 5, s_icle 11, s_aload 0, s_ic (1), s_callV 11 1 Pre_X11_refuse Fn_X11_refuse, s_iret, s_aload 0, s_getC 11 2 7 0, s_aload 0, s_getD 11 13 6 1, s_iload 1, s_callV 7 2 Pre_X7_take Fn_X7_take, s_istore 2, s_aload 0, s_callV 11 0 Pre_X11_keepFault Fn_X11_keepFault, s_iload 2, s_ifne 26, s_aload 0, s_ic (9), s_callV 11 1 Pre_X11_refuse Fn_X11_refuse, s_iret, s_aload 0, s_getD 11 12 6 0, s_astore 3, s_aload 0, s_aload 0, s_getD 11 13 6 1, s_putD 12 6 0, s_aload 0, s_aload 3, s_putD 13 6 1, s_aload 0, s_aload 0, s_getD 11 12 6 0, s_getI 6 15, s_callV 11 1 Pre_X11_answer Fn_X11_answer, s_iret]
def pc_X11_valley : Nat → Nat := fun i => [0, 1, 4, 5, 6, 9, 12, 15, 16, 17, 20, 21, 22, 25, 26, 29, 30, 33, 34, 35, 38, 39, 42, 43, 45, 48, 49, 50, 53, 54, 55, 56, 59, 62, 63, 64, 67, 68, 69, 72, 75, 78].getD i 0
def dl_X11_valley : List (Nat × Instr × Nat) := [(0, .iload_n 1, 1), (1, .ifCond .lt 14, 3), (4, .iload_n 1, 1), (5, .aload_n 0, 1), (6, .getfield 18, 3), (9, .getfield 161, 3), (12, .if_icmp .le 9, 3), (15, .aload_n 0, 1), (16, .iconst 1, 1), (17, .invokevirtual 139, 3), (20, .ireturn, 1), (21, .aload_n 0, 1), (22, .getfield 27, 3), (25, .aload_n 0, 1), (26, .getfield 91, 3), (29, .iload_n 1, 1), (30, .invokevirtual 168, 3), (33, .istore_n 2, 1), (34, .aload_n 0, 1), (35, .invokevirtual 172, 3), (38, .iload_n 2, 1), (39, .ifCond .ne 10, 3), (42, .aload_n 0, 1), (43, .bipush 9, 2), (45, .invokevirtual 139, 3), (48, .ireturn, 1), (49, .aload_n 0, 1), (50, .getfield 87, 3), (53, .astore_n 3, 1), (54, .aload_n 0, 1), (55, .aload_n 0, 1), (56, .getfield 91, 3), (59, .putfield 87, 3), (62, .aload_n 0, 1), (63, .aload_n 3, 1), (64, .putfield 91, 3), (67, .aload_n 0, 1), (68, .aload_n 0, 1), (69, .getfield 87, 3), (72, .getfield 175, 3), (75, .invokevirtual 178, 3), (78, .ireturn, 1)]
theorem dc_X11_valley : DEC prog_1_method_10_code pc_X11_valley dl_X11_valley := DEC_of (by decide +kernel)
abbrev rm_X11_valley : Room := { frames := 6, cells := 0, slots := 0, locals := 138 }
set_option maxRecDepth 20000 in
theorem sa_X11_valley (l : Launch) : SNDALL l prog_1_method_10_code "GivenUp" 4 (some .int) rm_X11_valley P_X11_valley pc_X11_valley := fun p e s m args below meth c cells slots Q D dA ad A RR hC hR => by
  have hM := RTX_room (R := rm_X11_valley) hR
  exact ⟨st_iload_n hC (n := 0) (k := 1) (dc_X11_valley 0 (0, .iload_n 1, 1) rfl rfl) rfl rfl,
    st_iflt hC (n := 1) (dc_X11_valley 1 (1, .ifCond .lt 14, 3) rfl rfl) rfl (by decide),
    st_iload_n hC (n := 2) (k := 1) (dc_X11_valley 2 (4, .iload_n 1, 1) rfl rfl) rfl rfl,
    st_aload_n hC (n := 3) (k := 0) (dc_X11_valley 3 (5, .aload_n 0, 1) rfl rfl) rfl rfl,
    st_getC hC (n := 4) (k := 11) (j := 1) (dc_X11_valley 4 (6, .getfield 18, 3) rfl rfl) rfl clf_11 (by decide) rfl (by decide) wd_712,
    st_getI hC (n := 5) (k := 4) (j := 5) (dc_X11_valley 5 (9, .getfield 161, 3) rfl rfl) rfl clf_4 (by decide) rfl wd_236,
    st_icle hC (n := 6) (dc_X11_valley 6 (12, .if_icmp .le 9, 3) rfl rfl) rfl (by decide),
    st_aload_n hC (n := 7) (k := 0) (dc_X11_valley 7 (15, .aload_n 0, 1) rfl rfl) rfl rfl,
    st_iconst hC (n := 8) (x := 1) (dc_X11_valley 8 (16, .iconst 1, 1) rfl rfl) rfl (by decide),
    st_callV hC (n := 9) (k := 11) (na := 1) (con_X11_refuse l) (dc_X11_valley 9 (17, .invokevirtual 139, 3) rfl rfl) rfl wd_824 wd_143 (by decide) ⟨rfl, rfl, by decide, by decide⟩ hM wd_821 wd_823 wd_3 clf_11,
    st_iret hC (n := 10) hR (dc_X11_valley 10 (20, .ireturn, 1) rfl rfl),
    st_aload_n hC (n := 11) (k := 0) (dc_X11_valley 11 (21, .aload_n 0, 1) rfl rfl) rfl rfl,
    st_getC hC (n := 12) (k := 11) (j := 2) (dc_X11_valley 12 (22, .getfield 27, 3) rfl rfl) rfl clf_11 (by decide) rfl (by decide) wd_713,
    st_aload_n hC (n := 13) (k := 0) (dc_X11_valley 13 (25, .aload_n 0, 1) rfl rfl) rfl rfl,
    st_getD hC (n := 14) (k := 11) (j := 13) (dc_X11_valley 14 (26, .getfield 91, 3) rfl rfl) rfl clf_11 (by decide) rfl (by decide) wd_724,
    st_iload_n hC (n := 15) (k := 1) (dc_X11_valley 15 (29, .iload_n 1, 1) rfl rfl) rfl rfl,
    st_callV hC (n := 16) (k := 7) (na := 2) (con_X7_take l) (dc_X11_valley 16 (30, .invokevirtual 168, 3) rfl rfl) rfl wd_847 wd_149 (by decide) ⟨rfl, rfl, by decide, by decide⟩ hM wd_844 wd_845 wd_846 clf_7,
    st_istore_n hC (n := 17) (k := 2) (dc_X11_valley 17 (33, .istore_n 2, 1) rfl rfl) rfl rfl (by decide),
    st_aload_n hC (n := 18) (k := 0) (dc_X11_valley 18 (34, .aload_n 0, 1) rfl rfl) rfl rfl,
    st_callV hC (n := 19) (k := 11) (na := 0) (con_X11_keepFault l) (dc_X11_valley 19 (35, .invokevirtual 172, 3) rfl rfl) rfl wd_963 wd_143 (by decide) ⟨rfl, rfl, by decide, by decide⟩ hM wd_960 wd_962 wd_16 clf_11,
    st_iload_n hC (n := 20) (k := 2) (dc_X11_valley 20 (38, .iload_n 2, 1) rfl rfl) rfl rfl,
    st_ifne hC (n := 21) (dc_X11_valley 21 (39, .ifCond .ne 10, 3) rfl rfl) rfl (by decide),
    st_aload_n hC (n := 22) (k := 0) (dc_X11_valley 22 (42, .aload_n 0, 1) rfl rfl) rfl rfl,
    st_bipush hC (n := 23) (x := 9) (dc_X11_valley 23 (43, .bipush 9, 2) rfl rfl) rfl (by decide),
    st_callV hC (n := 24) (k := 11) (na := 1) (con_X11_refuse l) (dc_X11_valley 24 (45, .invokevirtual 139, 3) rfl rfl) rfl wd_824 wd_143 (by decide) ⟨rfl, rfl, by decide, by decide⟩ hM wd_821 wd_823 wd_3 clf_11,
    st_iret hC (n := 25) hR (dc_X11_valley 25 (48, .ireturn, 1) rfl rfl),
    st_aload_n hC (n := 26) (k := 0) (dc_X11_valley 26 (49, .aload_n 0, 1) rfl rfl) rfl rfl,
    st_getD hC (n := 27) (k := 11) (j := 12) (dc_X11_valley 27 (50, .getfield 87, 3) rfl rfl) rfl clf_11 (by decide) rfl (by decide) wd_723,
    st_astore_n hC (n := 28) (k := 3) (dc_X11_valley 28 (53, .astore_n 3, 1) rfl rfl) rfl rfl (by decide),
    st_aload_n hC (n := 29) (k := 0) (dc_X11_valley 29 (54, .aload_n 0, 1) rfl rfl) rfl rfl,
    st_aload_n hC (n := 30) (k := 0) (dc_X11_valley 30 (55, .aload_n 0, 1) rfl rfl) rfl rfl,
    st_getD hC (n := 31) (k := 11) (j := 13) (dc_X11_valley 31 (56, .getfield 91, 3) rfl rfl) rfl clf_11 (by decide) rfl (by decide) wd_724,
    st_putD hC (n := 32) (j := 12) (dc_X11_valley 32 (59, .putfield 87, 3) rfl rfl) rfl clf_11 rfl (by decide) rfl (by decide) (by decide) (by decide) rfl rfl wd_723,
    st_aload_n hC (n := 33) (k := 0) (dc_X11_valley 33 (62, .aload_n 0, 1) rfl rfl) rfl rfl,
    st_aload_n hC (n := 34) (k := 3) (dc_X11_valley 34 (63, .aload_n 3, 1) rfl rfl) rfl rfl,
    st_putD hC (n := 35) (j := 13) (dc_X11_valley 35 (64, .putfield 91, 3) rfl rfl) rfl clf_11 rfl (by decide) rfl (by decide) (by decide) (by decide) rfl rfl wd_724,
    st_aload_n hC (n := 36) (k := 0) (dc_X11_valley 36 (67, .aload_n 0, 1) rfl rfl) rfl rfl,
    st_aload_n hC (n := 37) (k := 0) (dc_X11_valley 37 (68, .aload_n 0, 1) rfl rfl) rfl rfl,
    st_getD hC (n := 38) (k := 11) (j := 12) (dc_X11_valley 38 (69, .getfield 87, 3) rfl rfl) rfl clf_11 (by decide) rfl (by decide) wd_723,
    st_getI hC (n := 39) (k := 6) (j := 15) (dc_X11_valley 39 (72, .getfield 175, 3) rfl rfl) rfl clf_6 (by decide) rfl wd_633,
    st_callV hC (n := 40) (k := 11) (na := 1) (con_X11_answer l) (dc_X11_valley 40 (75, .invokevirtual 178, 3) rfl rfl) rfl wd_967 wd_143 (by decide) ⟨rfl, rfl, by decide, by decide⟩ hM wd_964 wd_966 wd_17 clf_11,
    st_iret hC (n := 41) hR (dc_X11_valley 41 (78, .ireturn, 1) rfl rfl), trivial⟩
set_option maxRecDepth 8000 in
theorem vc_X11_valley : VC P_X11_valley 4 Pre_X11_valley Fn_X11_valley := by
  rintro mm as hom hoa ⟨⟨F, eF, hF⟩, x, rfl⟩
  refine ⟨Nat.le_of_ble_eq_true rfl, fun X h => ?_⟩
  obtain ⟨R, eR⟩ : ∃ R, R = cl_valley mm x := ⟨_, rfl⟩
  replace h : RUN P_X11_valley (fun r m' => (r, m') = cl_valley mm x) X := h
  rw [← eR] at h
  unfold cl_valley at eR
  obtain ⟨q, hq⟩ : ∃ q, q = c7vC (mm.2.2 1) mm x := ⟨_, rfl⟩
  rw [← hq] at eR
  have s36 : ∀ M, R = cl_va3 M → ∀ L3, X 36 [some (vR 11 0), some (vI (x)), some (vI (1)), L3] [] (M) := by
    intro M hR L3
    show X 36 [some (vR 11 0), some (vI x), some (vI 1), L3] [] M
    refine h (fun _ => false) 3000 36 _ _ _ ?_
    refine And.intro (show Pre_X11_answer M [vR 11 0, vI (M.1 6 (M.2.2 0) 15)] from ⟨_, rfl⟩) ?_
    show ((some (vI (M.1 6 (M.2.2 0) 15)) : Option MV), stC M 0) = _
    exact hR.symm
  have s26 : ∀ M, R = cl_va2 M → X 26 [some (vR 11 0), some (vI (x)), some (vI (1)), none] [] (M) := by
    intro M hR
    have z := s36 _ hR
    show X 26 [some (vR 11 0), some (vI x), some (vI 1), none] [] M
    refine h (fun i => Nat.beq i 36) 3000 26 _ _ _ ?_
    show X 36 [some (vR 11 0), some (vI x), some (vI 1), some (vR 6 (M.2.2 0))] [] (mDyn (mDyn M 0 (M.2.2 1)) 1 (M.2.2 0))
    exact z _
  have s17 : R = cl_va1 q → X 17 [some (vR 11 0), some (vI (x)), none, none] [vI (bI (q.1 = true))] (q.2) := by
    intro hR
    unfold cl_va1 at hR
    by_cases c : q.1 = true
    · rw [if_pos c] at hR
      have z := s26 _ hR
      rw [show bI (q.1 = true) = 1 from if_pos c]
      show X 17 [some (vR 11 0), some (vI x), none, none] [vI 1] q.2
      refine h (fun i => Nat.beq i 26) 3000 17 _ _ _ ?_
      refine And.intro (show Pre_X11_keepFault q.2 [vR 11 0] from rfl) ?_
      refine brn_t (show ¬ (1 = 0) from by decide) ?_
      show X 26 [some (vR 11 0), some (vI x), some (vI 1), none] [] (kfM (q.2))
      exact z
    · rw [if_neg c] at hR
      rw [show bI (q.1 = true) = 0 from if_neg c]
      show X 17 [some (vR 11 0), some (vI x), none, none] [vI 0] q.2
      refine h (fun _ => false) 3000 17 _ _ _ ?_
      refine And.intro (show Pre_X11_keepFault q.2 [vR 11 0] from rfl) ?_
      refine brn_f (show 0 = 0 from by decide) ?_
      refine And.intro (show Pre_X11_refuse (kfM (q.2)) [vR 11 0, vI 9] from ⟨_, rfl⟩) ?_
      show ((some (vI (-1)) : Option MV), stC (kfM (q.2)) 9) = _
      rw [hR]
      rfl
  show X 0 [some (vR 11 0), some (vI x), none, none] [] mm
  refine h (fun i => Nat.beq i 17) 3000 0 _ _ _ ?_
  refine br_c (fun b1 => ?_) (fun b1 => ?_)
  · -- 1: x < 0 taken
    replace b1 : x < 0 := b1
    refine And.intro (show Pre_X11_refuse mm [vR 11 0, vI 1] from ⟨_, rfl⟩) ?_
    show ((some (vI (-1)) : Option MV), stC mm 1) = _
    rw [eR, if_pos b1]
    rfl
  · -- 1: x < 0 on
    replace b1 : ¬ (x < 0) := b1
    refine br_c (fun b6 => ?_) (fun b6 => ?_)
    · -- 6: x ≤ mm.1 4 0 5 taken
      replace b6 : x ≤ mm.1 4 0 5 := b6
      refine And.intro (show Pre_X7_take mm [vR 7 0, vR 6 (mm.2.2 1), vI x] from (by obtain ⟨n, hn, en⟩ := arg_in (x := x) (n := F + 1) b1 (fun z => Int32.not_lt.mpr z (Int32.lt_of_le_of_lt (by have b := b6; rw [eF] at b; exact b) (by rw [nI_ltI (by omega) (by omega)]; omega))) (by omega); exact ⟨_, n, F, eF, hF, by omega, by rw [en]⟩)) ?_
      show X 17 [some (vR 11 0), some (vI x), none, none] [vI (bI ((c7vC (mm.2.2 1) mm x).1 = true))] ((c7vC (mm.2.2 1) mm x).2)
      rw [← hq]
      rw [if_neg b1, if_pos b6] at eR 
      exact s17 eR
    · -- 6: x ≤ mm.1 4 0 5 on
      replace b6 : ¬ (x ≤ mm.1 4 0 5) := b6
      refine And.intro (show Pre_X11_refuse mm [vR 11 0, vI 1] from ⟨_, rfl⟩) ?_
      show ((some (vI (-1)) : Option MV), stC mm 1) = _
      rw [eR, if_neg b1, if_neg b6]
      rfl
theorem con_X11_valley (l : Launch) : CON l y_X11_valley prog_1_method_10_code 4 (some .int) rm_X11_valley Pre_X11_valley Fn_X11_valley := CON_of (by decide) rfl rfl (sa_X11_valley l) vc_X11_valley
def cl_ye3 (m : MM) : Option MV × MM := gvC m (m.1 9 (m.2.2 0) 7)
def cl_ye2 (m : MM) : Option MV × MM := cl_ye3 (ycM m (m.2.2 0) (m.2.2 1))
def cl_ye1 (p : PR) : Option MV × MM := if p.1 = true then cl_ye2 (kfM p.2) else rfC (kfM p.2) 9
def cl_years (m : MM) (x : Int32) : Option MV × MM := if x < 0 then rfC m 1 else if m.1 4 0 5 < x then rfC m 1 else if x ≤ 300 then cl_ye1 (c10vC (m.2.2 1) (m.2.2 0) m x) else rfC m 1
theorem vC_6 (g v : Nat) (m : MM) (n : Int32) : ZZo (c10vC g v m n).2 g := by
  unfold c10vC c10vE ZZo
  generalize (if (c10vL g v 61 (c10v0 g m n)).1 = true ∧ 0 < (c10vL g v 61 (c10v0 g m n)).2.1 10 0 2 then ((false, miC (c10vL g v 61 (c10v0 g m n)).2) : PR) else c10vL g v 61 (c10v0 g m n)) = p
  have e : (c10vF g p).2.1 9 g 6 = bI (p.1 = true) := mI_eq2
  rw [e]
  exact bI_in

def Pre_X11_years : PreT := fun m as => (∃ n : Nat, m.1 4 0 5 = nI n ∧ n ≤ 900) ∧ (∃ ns nm nt na, VNc m (m.2.2 0) ns nm nt na) ∧ ∃ x : Int32, as = [vR 11 0, vI x]
def Fn_X11_years : FnT := fun m as => match as with
  | [_, Sum.inl x] => cl_years m x
  | _ => (none, m)
abbrev y_X11_years : MethodName := ⟨"GivenUp", "years", "(I)I"⟩
def P_X11_years : List StpT := [s_iload 1, s_iflt 10, s_iload 1, s_aload 0, s_getC 11 1 4 0, s_getI 4 5, s_icgt 10, s_iload 1, s_ic (300), s_icle 14, s_aload 0, s_ic (1), s_callV 11 1 Pre_X11_refuse Fn_X11_refuse, s_iret, s_aload 0, s_getC 11 3 10 0, s_aload 0, s_getD 11 13 6 1, s_getR 6 12 9, s_aload 0, s_getD 11 12 6 0, s_iload 1, s_callV 10 3 Pre_X10_take Fn_X10_take, s_istore 2, s_aload 0, s_callV 11 0 Pre_X11_keepFault Fn_X11_keepFault, s_iload 2, s_ifne 32, s_aload 0, s_ic (9), s_callV 11 1 Pre_X11_refuse Fn_X11_refuse, s_iret, s_aload 0, s_getD 11 12 6 0, s_getR 6 12 9, s_aload 0, s_getD 11 13 6 1, s_getR 6 12 9, s_callV 9 1 Pre_X9_copy Fn_X9_copy, s_aload 0, s_aload 0, s_getD 11 12 6 0, s_getR 6 12 9, s_getI 9 7, s_callV 11 1 Pre_X11_answer Fn_X11_answer, s_iret]
def pc_X11_years : Nat → Nat := fun i => [0, 1, 4, 5, 6, 9, 12, 15, 16, 19, 22, 23, 24, 27, 28, 29, 32, 33, 36, 39, 40, 43, 44, 47, 48, 49, 52, 53, 56, 57, 59, 62, 63, 64, 67, 70, 71, 74, 77, 80, 81, 82, 85, 88, 91, 94].getD i 0
def dl_X11_years : List (Nat × Instr × Nat) := [(0, .iload_n 1, 1), (1, .ifCond .lt 21, 3), (4, .iload_n 1, 1), (5, .aload_n 0, 1), (6, .getfield 18, 3), (9, .getfield 161, 3), (12, .if_icmp .gt 10, 3), (15, .iload_n 1, 1), (16, .sipush 300, 3), (19, .if_icmp .le 9, 3), (22, .aload_n 0, 1), (23, .iconst 1, 1), (24, .invokevirtual 139, 3), (27, .ireturn, 1), (28, .aload_n 0, 1), (29, .getfield 34, 3), (32, .aload_n 0, 1), (33, .getfield 91, 3), (36, .getfield 181, 3), (39, .aload_n 0, 1), (40, .getfield 87, 3), (43, .iload_n 1, 1), (44, .invokevirtual 185, 3), (47, .istore_n 2, 1), (48, .aload_n 0, 1), (49, .invokevirtual 172, 3), (52, .iload_n 2, 1), (53, .ifCond .ne 10, 3), (56, .aload_n 0, 1), (57, .bipush 9, 2), (59, .invokevirtual 139, 3), (62, .ireturn, 1), (63, .aload_n 0, 1), (64, .getfield 87, 3), (67, .getfield 181, 3), (70, .aload_n 0, 1), (71, .getfield 91, 3), (74, .getfield 181, 3), (77, .invokevirtual 188, 3), (80, .aload_n 0, 1), (81, .aload_n 0, 1), (82, .getfield 87, 3), (85, .getfield 181, 3), (88, .getfield 194, 3), (91, .invokevirtual 178, 3), (94, .ireturn, 1)]
theorem dc_X11_years : DEC prog_1_method_11_code pc_X11_years dl_X11_years := DEC_of (by decide +kernel)
abbrev rm_X11_years : Room := { frames := 7, cells := 0, slots := 0, locals := 162 }
set_option maxRecDepth 20000 in
theorem sa_X11_years (l : Launch) : SNDALL l prog_1_method_11_code "GivenUp" 3 (some .int) rm_X11_years P_X11_years pc_X11_years := fun p e s m args below meth c cells slots Q D dA ad A RR hC hR => by
  have hM := RTX_room (R := rm_X11_years) hR
  exact ⟨st_iload_n hC (n := 0) (k := 1) (dc_X11_years 0 (0, .iload_n 1, 1) rfl rfl) rfl rfl,
    st_iflt hC (n := 1) (dc_X11_years 1 (1, .ifCond .lt 21, 3) rfl rfl) rfl (by decide),
    st_iload_n hC (n := 2) (k := 1) (dc_X11_years 2 (4, .iload_n 1, 1) rfl rfl) rfl rfl,
    st_aload_n hC (n := 3) (k := 0) (dc_X11_years 3 (5, .aload_n 0, 1) rfl rfl) rfl rfl,
    st_getC hC (n := 4) (k := 11) (j := 1) (dc_X11_years 4 (6, .getfield 18, 3) rfl rfl) rfl clf_11 (by decide) rfl (by decide) wd_712,
    st_getI hC (n := 5) (k := 4) (j := 5) (dc_X11_years 5 (9, .getfield 161, 3) rfl rfl) rfl clf_4 (by decide) rfl wd_236,
    st_icgt hC (n := 6) (dc_X11_years 6 (12, .if_icmp .gt 10, 3) rfl rfl) rfl (by decide),
    st_iload_n hC (n := 7) (k := 1) (dc_X11_years 7 (15, .iload_n 1, 1) rfl rfl) rfl rfl,
    st_sipush hC (n := 8) (x := 300) (dc_X11_years 8 (16, .sipush 300, 3) rfl rfl) rfl (by decide),
    st_icle hC (n := 9) (dc_X11_years 9 (19, .if_icmp .le 9, 3) rfl rfl) rfl (by decide),
    st_aload_n hC (n := 10) (k := 0) (dc_X11_years 10 (22, .aload_n 0, 1) rfl rfl) rfl rfl,
    st_iconst hC (n := 11) (x := 1) (dc_X11_years 11 (23, .iconst 1, 1) rfl rfl) rfl (by decide),
    st_callV hC (n := 12) (k := 11) (na := 1) (con_X11_refuse l) (dc_X11_years 12 (24, .invokevirtual 139, 3) rfl rfl) rfl wd_824 wd_143 (by decide) ⟨rfl, rfl, by decide, by decide⟩ hM wd_821 wd_823 wd_3 clf_11,
    st_iret hC (n := 13) hR (dc_X11_years 13 (27, .ireturn, 1) rfl rfl),
    st_aload_n hC (n := 14) (k := 0) (dc_X11_years 14 (28, .aload_n 0, 1) rfl rfl) rfl rfl,
    st_getC hC (n := 15) (k := 11) (j := 3) (dc_X11_years 15 (29, .getfield 34, 3) rfl rfl) rfl clf_11 (by decide) rfl (by decide) wd_714,
    st_aload_n hC (n := 16) (k := 0) (dc_X11_years 16 (32, .aload_n 0, 1) rfl rfl) rfl rfl,
    st_getD hC (n := 17) (k := 11) (j := 13) (dc_X11_years 17 (33, .getfield 91, 3) rfl rfl) rfl clf_11 (by decide) rfl (by decide) wd_724,
    st_getR hC (n := 18) (k := 6) (j := 12) (dc_X11_years 18 (36, .getfield 181, 3) rfl rfl) rfl clf_6 (by decide) rfl (by decide) wd_616,
    st_aload_n hC (n := 19) (k := 0) (dc_X11_years 19 (39, .aload_n 0, 1) rfl rfl) rfl rfl,
    st_getD hC (n := 20) (k := 11) (j := 12) (dc_X11_years 20 (40, .getfield 87, 3) rfl rfl) rfl clf_11 (by decide) rfl (by decide) wd_723,
    st_iload_n hC (n := 21) (k := 1) (dc_X11_years 21 (43, .iload_n 1, 1) rfl rfl) rfl rfl,
    st_callV hC (n := 22) (k := 10) (na := 3) (con_X10_take l) (dc_X11_years 22 (44, .invokevirtual 185, 3) rfl rfl) rfl wd_975 wd_150 (by decide) ⟨rfl, rfl, by decide, by decide⟩ hM wd_972 wd_973 wd_974 clf_10,
    st_istore_n hC (n := 23) (k := 2) (dc_X11_years 23 (47, .istore_n 2, 1) rfl rfl) rfl rfl (by decide),
    st_aload_n hC (n := 24) (k := 0) (dc_X11_years 24 (48, .aload_n 0, 1) rfl rfl) rfl rfl,
    st_callV hC (n := 25) (k := 11) (na := 0) (con_X11_keepFault l) (dc_X11_years 25 (49, .invokevirtual 172, 3) rfl rfl) rfl wd_963 wd_143 (by decide) ⟨rfl, rfl, by decide, by decide⟩ hM wd_960 wd_962 wd_16 clf_11,
    st_iload_n hC (n := 26) (k := 2) (dc_X11_years 26 (52, .iload_n 2, 1) rfl rfl) rfl rfl,
    st_ifne hC (n := 27) (dc_X11_years 27 (53, .ifCond .ne 10, 3) rfl rfl) rfl (by decide),
    st_aload_n hC (n := 28) (k := 0) (dc_X11_years 28 (56, .aload_n 0, 1) rfl rfl) rfl rfl,
    st_bipush hC (n := 29) (x := 9) (dc_X11_years 29 (57, .bipush 9, 2) rfl rfl) rfl (by decide),
    st_callV hC (n := 30) (k := 11) (na := 1) (con_X11_refuse l) (dc_X11_years 30 (59, .invokevirtual 139, 3) rfl rfl) rfl wd_824 wd_143 (by decide) ⟨rfl, rfl, by decide, by decide⟩ hM wd_821 wd_823 wd_3 clf_11,
    st_iret hC (n := 31) hR (dc_X11_years 31 (62, .ireturn, 1) rfl rfl),
    st_aload_n hC (n := 32) (k := 0) (dc_X11_years 32 (63, .aload_n 0, 1) rfl rfl) rfl rfl,
    st_getD hC (n := 33) (k := 11) (j := 12) (dc_X11_years 33 (64, .getfield 87, 3) rfl rfl) rfl clf_11 (by decide) rfl (by decide) wd_723,
    st_getR hC (n := 34) (k := 6) (j := 12) (dc_X11_years 34 (67, .getfield 181, 3) rfl rfl) rfl clf_6 (by decide) rfl (by decide) wd_616,
    st_aload_n hC (n := 35) (k := 0) (dc_X11_years 35 (70, .aload_n 0, 1) rfl rfl) rfl rfl,
    st_getD hC (n := 36) (k := 11) (j := 13) (dc_X11_years 36 (71, .getfield 91, 3) rfl rfl) rfl clf_11 (by decide) rfl (by decide) wd_724,
    st_getR hC (n := 37) (k := 6) (j := 12) (dc_X11_years 37 (74, .getfield 181, 3) rfl rfl) rfl clf_6 (by decide) rfl (by decide) wd_616,
    st_callV hC (n := 38) (k := 9) (na := 1) (con_X9_copy l) (dc_X11_years 38 (77, .invokevirtual 188, 3) rfl rfl) rfl wd_1006 wd_157 (by decide) ⟨rfl, rfl, by decide, by decide⟩ hM wd_1003 wd_1004 wd_1005 clf_9,
    st_aload_n hC (n := 39) (k := 0) (dc_X11_years 39 (80, .aload_n 0, 1) rfl rfl) rfl rfl,
    st_aload_n hC (n := 40) (k := 0) (dc_X11_years 40 (81, .aload_n 0, 1) rfl rfl) rfl rfl,
    st_getD hC (n := 41) (k := 11) (j := 12) (dc_X11_years 41 (82, .getfield 87, 3) rfl rfl) rfl clf_11 (by decide) rfl (by decide) wd_723,
    st_getR hC (n := 42) (k := 6) (j := 12) (dc_X11_years 42 (85, .getfield 181, 3) rfl rfl) rfl clf_6 (by decide) rfl (by decide) wd_616,
    st_getI hC (n := 43) (k := 9) (j := 7) (dc_X11_years 43 (88, .getfield 194, 3) rfl rfl) rfl clf_9 (by decide) rfl wd_533,
    st_callV hC (n := 44) (k := 11) (na := 1) (con_X11_answer l) (dc_X11_years 44 (91, .invokevirtual 178, 3) rfl rfl) rfl wd_967 wd_143 (by decide) ⟨rfl, rfl, by decide, by decide⟩ hM wd_964 wd_966 wd_17 clf_11,
    st_iret hC (n := 45) hR (dc_X11_years 45 (94, .ireturn, 1) rfl rfl), trivial⟩
set_option maxRecDepth 8000 in
theorem vc_X11_years : VC P_X11_years 3 Pre_X11_years Fn_X11_years := by
  rintro mm as hom hoa ⟨⟨F, eF, hF⟩, ⟨ns, nm, nt, na, hV⟩, x, rfl⟩
  refine ⟨Nat.le_of_ble_eq_true rfl, fun X h => ?_⟩
  obtain ⟨R, eR⟩ : ∃ R, R = cl_years mm x := ⟨_, rfl⟩
  replace h : RUN P_X11_years (fun r m' => (r, m') = cl_years mm x) X := h
  rw [← eR] at h
  unfold cl_years at eR
  have hz := vC_6 (mm.2.2 1) (mm.2.2 0) mm x
  have hdy := DY_vC (g := mm.2.2 1) (v := mm.2.2 0) (m := mm) (n := x)
  obtain ⟨q, hq⟩ : ∃ q, q = c10vC (mm.2.2 1) (mm.2.2 0) mm x := ⟨_, rfl⟩
  rw [← hq] at eR hz hdy
  have s39 : ∀ M, R = cl_ye3 M → X 39 [some (vR 11 0), some (vI (x)), some (vI (1))] [] (M) := by
    intro M hR
    show X 39 [some (vR 11 0), some (vI x), some (vI 1)] [] M
    refine h (fun _ => false) 3000 39 _ _ _ ?_
    refine And.intro (show Pre_X11_answer M [vR 11 0, vI (M.1 9 (M.2.2 0) 7)] from ⟨_, rfl⟩) ?_
    show ((some (vI (M.1 9 (M.2.2 0) 7)) : Option MV), stC M 0) = _
    exact hR.symm
  have s32 : ∀ M, ZZo M (M.2.2 1) → R = cl_ye2 M → X 32 [some (vR 11 0), some (vI (x)), some (vI (1))] [] (M) := by
    intro M hM hR
    have z := s39 _ hR
    show X 32 [some (vR 11 0), some (vI x), some (vI 1)] [] M
    refine h (fun i => Nat.beq i 39) 3000 32 _ _ _ ?_
    refine And.intro (show Pre_X9_copy M [vR 9 (M.2.2 0), vR 9 (M.2.2 1)] from ⟨_, _, hM, rfl⟩) ?_
    show X 39 [some (vR 11 0), some (vI x), some (vI 1)] [] (ycM M (M.2.2 0) (M.2.2 1))
    exact z
  have s23 : R = cl_ye1 q → X 23 [some (vR 11 0), some (vI (x)), none] [vI (bI (q.1 = true))] (q.2) := by
    intro hR
    unfold cl_ye1 at hR
    by_cases c : q.1 = true
    · rw [if_pos c] at hR
      have hk : ZZo (kfM q.2) ((kfM q.2).2.2 1) := by
        show ZZo (kfM q.2) (q.2.2.2 1)
        rw [hdy]
        exact hz
      have z := s32 _ hk hR
      rw [show bI (q.1 = true) = 1 from if_pos c]
      show X 23 [some (vR 11 0), some (vI x), none] [vI 1] q.2
      refine h (fun i => Nat.beq i 32) 3000 23 _ _ _ ?_
      refine And.intro (show Pre_X11_keepFault q.2 [vR 11 0] from rfl) ?_
      refine brn_t (show ¬ (1 = 0) from by decide) ?_
      show X 32 [some (vR 11 0), some (vI x), some (vI 1)] [] (kfM (q.2))
      exact z
    · rw [if_neg c] at hR
      rw [show bI (q.1 = true) = 0 from if_neg c]
      show X 23 [some (vR 11 0), some (vI x), none] [vI 0] q.2
      refine h (fun _ => false) 3000 23 _ _ _ ?_
      refine And.intro (show Pre_X11_keepFault q.2 [vR 11 0] from rfl) ?_
      refine brn_f (show 0 = 0 from by decide) ?_
      refine And.intro (show Pre_X11_refuse (kfM (q.2)) [vR 11 0, vI 9] from ⟨_, rfl⟩) ?_
      show ((some (vI (-1)) : Option MV), stC (kfM (q.2)) 9) = _
      rw [hR]
      rfl
  show X 0 [some (vR 11 0), some (vI x), none] [] mm
  refine h (fun i => Nat.beq i 23) 3000 0 _ _ _ ?_
  refine br_c (fun b1 => ?_) (fun b1 => ?_)
  · -- 1: x < 0 taken
    replace b1 : x < 0 := b1
    refine And.intro (show Pre_X11_refuse mm [vR 11 0, vI 1] from ⟨_, rfl⟩) ?_
    show ((some (vI (-1)) : Option MV), stC mm 1) = _
    rw [eR, if_pos b1]
    rfl
  · -- 1: x < 0 on
    replace b1 : ¬ (x < 0) := b1
    refine br_c (fun b6 => ?_) (fun b6 => ?_)
    · -- 6: mm.1 4 0 5 < x taken
      replace b6 : mm.1 4 0 5 < x := b6
      refine And.intro (show Pre_X11_refuse mm [vR 11 0, vI 1] from ⟨_, rfl⟩) ?_
      show ((some (vI (-1)) : Option MV), stC mm 1) = _
      rw [eR, if_neg b1, if_pos b6]
      rfl
    · -- 6: mm.1 4 0 5 < x on
      replace b6 : ¬ (mm.1 4 0 5 < x) := b6
      refine br_c (fun b9 => ?_) (fun b9 => ?_)
      · -- 9: x ≤ 300 taken
        replace b9 : x ≤ 300 := b9
        refine And.intro (show Pre_X10_take mm [vR 10 0, vR 9 (mm.2.2 1), vR 6 (mm.2.2 0), vI x] from (by obtain ⟨n, hn, en⟩ := arg_in (x := x) (n := F + 1) b1 (fun z => b6 (by rw [eF]; exact Int32.lt_of_lt_of_le (by rw [nI_ltI (by omega) (by omega)]; omega) z)) (by omega); exact ⟨_, _, n, F, ns, nm, nt, na, eF, hF, by omega, hV, by rw [en]⟩)) ?_
        show X 23 [some (vR 11 0), some (vI x), none] [vI (bI ((c10vC (mm.2.2 1) (mm.2.2 0) mm x).1 = true))] ((c10vC (mm.2.2 1) (mm.2.2 0) mm x).2)
        rw [← hq]
        rw [if_neg b1, if_neg b6, if_pos b9] at eR 
        exact s23 eR
      · -- 9: x ≤ 300 on
        replace b9 : ¬ (x ≤ 300) := b9
        refine And.intro (show Pre_X11_refuse mm [vR 11 0, vI 1] from ⟨_, rfl⟩) ?_
        show ((some (vI (-1)) : Option MV), stC mm 1) = _
        rw [eR, if_neg b1, if_neg b6, if_neg b9]
        rfl
theorem con_X11_years (l : Launch) : CON l y_X11_years prog_1_method_11_code 3 (some .int) rm_X11_years Pre_X11_years Fn_X11_years := CON_of (by decide) rfl rfl (sa_X11_years l) vc_X11_years
end
