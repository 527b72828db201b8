/-! PART 79: the class: years are taken -/

theorem c10M_ok {m : MM} {g v ns nm nt na o L S : Nat} (h : YK m g v ns nm nt na o L S) (ho : 0 < o) (hL : L < 60) : YK (c10M m g) g v ns nm nt na (o - 1) (L + 1) S := by
  have o3 := h.2.1.2.1.2
  refine ⟨⟨TXp_mk h.1.1 rfl rfl, h.1.2⟩, ⟨TXp_mk h.1.1 rfl rfl, ⟨?_, by omega⟩, ⟨?_, by omega⟩, ?_⟩, ?_, h.2.2.2⟩
  · show (mI m 10 0 2 (m.1 10 0 2 - 1)).1 10 0 2 = _
    rw [mI_eq2, h.2.1.2.1.1, show (1 : Int32) = nI 1 from rfl, nI_sb (by omega)]
  · unfold c10M
    rw [mI_eq2, h.2.1.2.2.1.1, nI_1]
  · intro i hi
    obtain ⟨j, ej, hj⟩ := h.2.1.2.2.2 i (by omega)
    exact ⟨j, ej, by omega⟩
  · unfold c10M
    rw [mI_ne (by decide)]
    exact h.2.2.1
theorem c10e_ok {m : MM} {g v : Nat} (h : YKx m g v) (t : (c10e g m).1 = true) : YKx (c10e g m).2 g v := by
  obtain ⟨ns, nm, nt, na, o, L, S, h⟩ := h
  have L60 := h.2.1.2.2.1.2
  have o3 := h.2.1.2.1.2
  unfold c10e at t ⊢
  by_cases d : 0 < m.1 10 0 2 ∧ m.1 9 g 8 < 60
  · rw [if_pos d] at t ⊢
    have e1 := pBd_in t
    rw [e1.2]
    have dL := d.2
    have dS := d.1
    rw [h.2.1.2.2.1.1, show (60 : Int32) = nI 60 from rfl, nI_ltI (by omega) (by omega)] at dL
    rw [h.2.1.2.1.1, show (0 : Int32) = nI 0 from rfl, nI_ltI (by omega) (by omega)] at dS
    have hM := YK_sk (k := 33) (YK_sp h)
    revert hM
    generalize (skC _ 33).2 = M
    intro hM
    exact ⟨_, _, _, _, _, _, _, c10M_ok hM dS dL⟩
  · rw [if_neg d] at t; exact absurd t Bool.false_ne_true
def c10v1 (g v : Nat) (m : MM) : PR := if m.1 4 0 6 = 28 then c10e g m else c10s g v m
theorem c10v1_ok {m : MM} {g v : Nat} (h : YKx m g v) (t : (c10v1 g v m).1 = true) : YKx (c10v1 g v m).2 g v := by
  unfold c10v1 at t ⊢
  by_cases d : m.1 4 0 6 = 28
  · rw [if_pos d] at t ⊢; exact c10e_ok h t
  · rw [if_neg d] at t ⊢; exact c10s_ok h t
def c10vL (g v : Nat) : Nat → MM → PR
  | 0, m => (true, m)
  | f + 1, m => if m.1 4 0 6 = 37 then (true, m) else pBd (c10v1 g v m) (c10vL g v f)
def c10v0 (g : Nat) (m : MM) (n : Int32) : MM := bgC (mI (ylM m g) 10 0 2 0) n
def c10vF (g : Nat) (p : PR) : PR := (p.1, mI p.2 9 g 6 (bI (p.1 = true)))
def c10vE (g : Nat) (p : PR) : PR := c10vF g (if p.1 = true ∧ 0 < p.2.1 10 0 2 then (false, miC p.2) else p)
def c10vC (g v : Nat) (m : MM) (n : Int32) : PR := c10vE g (c10vL g v 61 (c10v0 g m n))
/-- the names of a valley -/
def VNc (m : MM) (g ns nm nt na : Nat) : Prop := (m.1 6 g 13 = nI ns ∧ ns ≤ 4) ∧ (m.1 6 g 14 = nI nm ∧ nm ≤ 4) ∧ (m.1 6 g 15 = nI nt ∧ nt ≤ 12) ∧ (m.1 6 g 16 = nI na ∧ na ≤ 12)
theorem yl_n (m : MM) (g : Nat) : (ylM m g).1 9 g 7 = 0 ∧ (ylM m g).1 9 g 8 = 0 := by
  unfold ylM
  refine ⟨?_, mI_eq2⟩
  rw [mI_ne (by decide), mI_eq2]

--tpl ⟨_, _, _, _, _, _, _, _, by assumption, by assumption, by omega, by assumption, rfl⟩ || bI ((c10vC {g1} {g2} {m} {3}).1 = true) || (c10vC {g1} {g2} {m} {3}).2
def Pre_X10_take : PreT := fun m as => ∃ g v n F ns nm nt na : Nat, m.1 4 0 5 = nI F ∧ F ≤ 900 ∧ n < 2 ^ 31 ∧ VNc m v ns nm nt na ∧ as = [vR 10 0, vR 9 g, vR 6 v, vI (nI n)]
def Fn_X10_take : FnT := fun m as => match as with
  | [_, Sum.inr (Sum.inr q), Sum.inr (Sum.inr r), Sum.inl n] => (some (vI (bI ((c10vC q.2 r.2 m n).1 = true))), (c10vC q.2 r.2 m n).2)
  | _ => (none, m)
abbrev y_X10_take : MethodName := ⟨"GivenUp$YearsReader", "take", "(LGivenUp$Years;LGivenUp$Valley;I)Z"⟩
def P_X10_take : List StpT := [s_aload 1, s_callV 9 0 Pre_X9_clear Fn_X9_clear, s_aload 0, s_ic (0), s_putI 10 2, s_aload 0, s_getC 10 0 4 0, s_iload 3, s_callV 4 1 Pre_X4_begin Fn_X4_begin, s_ic (1), s_istore 4, s_ic (0), s_istore 5, s_iload 5, s_ic (60), s_icgt 39, s_iload 4, s_ifeq 39, s_aload 0, s_getC 10 0 4 0, s_getI 4 6, s_ic (37), s_iceq 39, s_aload 0, s_getC 10 0 4 0, s_getI 4 6, s_ic (28), s_icne 32, s_aload 0, s_aload 1, s_callV 10 1 Pre_X10_readEnd Fn_X10_readEnd, s_goto 36, s_aload 0, s_aload 1, s_aload 2, s_callV 10 2 Pre_X10_readStep Fn_X10_readStep, s_istore 4, s_iinc 5 (1), s_goto 13, s_iload 4, s_ifeq 48, s_aload 0, s_getI 10 2, s_ifle 48, s_aload 0, s_getC 10 0 4 0, s_callV 4 0 Pre_X4_misplaced Fn_X4_misplaced, s_istore 4, s_aload 1, s_iload 4, s_putZ 9 6, s_iload 4, s_zret]
def pc_X10_take : Nat → Nat := fun i => [0, 1, 4, 5, 6, 9, 10, 13, 14, 17, 18, 20, 21, 23, 25, 27, 30, 32, 35, 36, 39, 42, 44, 47, 48, 51, 54, 56, 59, 60, 61, 64, 67, 68, 69, 70, 73, 75, 78, 81, 83, 86, 87, 90, 93, 94, 97, 100, 102, 103, 105, 108, 110].getD i 0
def dl_X10_take : List (Nat × Instr × Nat) := [(0, .aload_n 1, 1), (1, .invokevirtual 23, 3), (4, .aload_n 0, 1), (5, .iconst 0, 1), (6, .putfield 15, 3), (9, .aload_n 0, 1), (10, .getfield 19, 3), (13, .iload_n 3, 1), (14, .invokevirtual 28, 3), (17, .iconst 1, 1), (18, .istore 4, 2), (20, .iconst 0, 1), (21, .istore 5, 2), (23, .iload 5, 2), (25, .bipush 60, 2), (27, .if_icmp .gt 54, 3), (30, .iload 4, 2), (32, .ifCond .eq 49, 3), (35, .aload_n 0, 1), (36, .getfield 19, 3), (39, .getfield 34, 3), (42, .bipush 37, 2), (44, .if_icmp .eq 37, 3), (47, .aload_n 0, 1), (48, .getfield 19, 3), (51, .getfield 34, 3), (54, .bipush 28, 2), (56, .if_icmp .ne 11, 3), (59, .aload_n 0, 1), (60, .aload_n 1, 1), (61, .invokevirtual 37, 3), (64, .goto 9, 3), (67, .aload_n 0, 1), (68, .aload_n 1, 1), (69, .aload_n 2, 1), (70, .invokevirtual 41, 3), (73, .istore 4, 2), (75, .iinc 5 1, 3), (78, .goto (-55), 3), (81, .iload 4, 2), (83, .ifCond .eq 19, 3), (86, .aload_n 0, 1), (87, .getfield 15, 3), (90, .ifCond .le 12, 3), (93, .aload_n 0, 1), (94, .getfield 19, 3), (97, .invokevirtual 45, 3), (100, .istore 4, 2), (102, .aload_n 1, 1), (103, .iload 4, 2), (105, .putfield 49, 3), (108, .iload 4, 2), (110, .ireturn, 1)]
theorem dc_X10_take : DEC prog_12_method_2_code pc_X10_take dl_X10_take := DEC_of (by decide +kernel)
abbrev rm_X10_take : Room := { frames := 6, cells := 0, slots := 0, locals := 137 }
set_option maxRecDepth 20000 in
theorem sa_X10_take (l : Launch) : SNDALL l prog_12_method_2_code "GivenUp$YearsReader" 6 (some .boolean) rm_X10_take P_X10_take pc_X10_take := fun p e s m args below meth c cells slots Q D dA ad A RR hC hR => by
  have hM := RTX_room (R := rm_X10_take) hR
  exact ⟨st_aload_n hC (n := 0) (k := 1) (dc_X10_take 0 (0, .aload_n 1, 1) rfl rfl) rfl rfl,
    st_callV hC (n := 1) (k := 9) (na := 0) (con_X9_clear l) (dc_X10_take 1 (1, .invokevirtual 23, 3) rfl rfl) rfl wd_574 wd_157 (by decide) ⟨rfl, rfl, by decide, by decide⟩ hM wd_976 wd_572 wd_573 clf_9,
    st_aload_n hC (n := 2) (k := 0) (dc_X10_take 2 (4, .aload_n 0, 1) rfl rfl) rfl rfl,
    st_iconst hC (n := 3) (x := 0) (dc_X10_take 3 (5, .iconst 0, 1) rfl rfl) rfl (by decide),
    st_putI hC (n := 4) (k := 10) (j := 2) (dc_X10_take 4 (6, .putfield 15, 3) rfl rfl) rfl clf_10 (by decide) rfl rfl rfl wd_295,
    st_aload_n hC (n := 5) (k := 0) (dc_X10_take 5 (9, .aload_n 0, 1) rfl rfl) rfl rfl,
    st_getC hC (n := 6) (k := 10) (j := 0) (dc_X10_take 6 (10, .getfield 19, 3) rfl rfl) rfl clf_10 (by decide) rfl (by decide) wd_293,
    st_iload_n hC (n := 7) (k := 3) (dc_X10_take 7 (13, .iload_n 3, 1) rfl rfl) rfl rfl,
    st_callV hC (n := 8) (k := 4) (na := 1) (con_X4_begin l) (dc_X10_take 8 (14, .invokevirtual 28, 3) rfl rfl) rfl wd_852 wd_144 (by decide) ⟨rfl, rfl, by decide, by decide⟩ hM wd_977 wd_850 wd_851 clf_4,
    st_iconst hC (n := 9) (x := 1) (dc_X10_take 9 (17, .iconst 1, 1) rfl rfl) rfl (by decide),
    st_istore hC (n := 10) (dc_X10_take 10 (18, .istore 4, 2) rfl rfl) rfl (by decide),
    st_iconst hC (n := 11) (x := 0) (dc_X10_take 11 (20, .iconst 0, 1) rfl rfl) rfl (by decide),
    st_istore hC (n := 12) (dc_X10_take 12 (21, .istore 5, 2) rfl rfl) rfl (by decide),
    st_iload hC (n := 13) (dc_X10_take 13 (23, .iload 5, 2) rfl rfl) rfl,
    st_bipush hC (n := 14) (x := 60) (dc_X10_take 14 (25, .bipush 60, 2) rfl rfl) rfl (by decide),
    st_icgt hC (n := 15) (dc_X10_take 15 (27, .if_icmp .gt 54, 3) rfl rfl) rfl (by decide),
    st_iload hC (n := 16) (dc_X10_take 16 (30, .iload 4, 2) rfl rfl) rfl,
    st_ifeq hC (n := 17) (dc_X10_take 17 (32, .ifCond .eq 49, 3) rfl rfl) rfl (by decide),
    st_aload_n hC (n := 18) (k := 0) (dc_X10_take 18 (35, .aload_n 0, 1) rfl rfl) rfl rfl,
    st_getC hC (n := 19) (k := 10) (j := 0) (dc_X10_take 19 (36, .getfield 19, 3) rfl rfl) rfl clf_10 (by decide) rfl (by decide) wd_293,
    st_getI hC (n := 20) (k := 4) (j := 6) (dc_X10_take 20 (39, .getfield 34, 3) rfl rfl) rfl clf_4 (by decide) rfl wd_238,
    st_bipush hC (n := 21) (x := 37) (dc_X10_take 21 (42, .bipush 37, 2) rfl rfl) rfl (by decide),
    st_iceq hC (n := 22) (dc_X10_take 22 (44, .if_icmp .eq 37, 3) rfl rfl) rfl (by decide),
    st_aload_n hC (n := 23) (k := 0) (dc_X10_take 23 (47, .aload_n 0, 1) rfl rfl) rfl rfl,
    st_getC hC (n := 24) (k := 10) (j := 0) (dc_X10_take 24 (48, .getfield 19, 3) rfl rfl) rfl clf_10 (by decide) rfl (by decide) wd_293,
    st_getI hC (n := 25) (k := 4) (j := 6) (dc_X10_take 25 (51, .getfield 34, 3) rfl rfl) rfl clf_4 (by decide) rfl wd_238,
    st_bipush hC (n := 26) (x := 28) (dc_X10_take 26 (54, .bipush 28, 2) rfl rfl) rfl (by decide),
    st_icne hC (n := 27) (dc_X10_take 27 (56, .if_icmp .ne 11, 3) rfl rfl) rfl (by decide),
    st_aload_n hC (n := 28) (k := 0) (dc_X10_take 28 (59, .aload_n 0, 1) rfl rfl) rfl rfl,
    st_aload_n hC (n := 29) (k := 1) (dc_X10_take 29 (60, .aload_n 1, 1) rfl rfl) rfl rfl,
    st_callV hC (n := 30) (k := 10) (na := 1) (con_X10_readEnd l) (dc_X10_take 30 (61, .invokevirtual 37, 3) rfl rfl) rfl wd_981 wd_150 (by decide) ⟨rfl, rfl, by decide, by decide⟩ hM wd_978 wd_980 wd_18 clf_10,
    st_goto hC (n := 31) (dc_X10_take 31 (64, .goto 9, 3) rfl rfl) (by decide),
    st_aload_n hC (n := 32) (k := 0) (dc_X10_take 32 (67, .aload_n 0, 1) rfl rfl) rfl rfl,
    st_aload_n hC (n := 33) (k := 1) (dc_X10_take 33 (68, .aload_n 1, 1) rfl rfl) rfl rfl,
    st_aload_n hC (n := 34) (k := 2) (dc_X10_take 34 (69, .aload_n 2, 1) rfl rfl) rfl rfl,
    st_callV hC (n := 35) (k := 10) (na := 2) (con_X10_readStep l) (dc_X10_take 35 (70, .invokevirtual 41, 3) rfl rfl) rfl wd_988 wd_150 (by decide) ⟨rfl, rfl, by decide, by decide⟩ hM wd_985 wd_987 wd_19 clf_10,
    st_istore hC (n := 36) (dc_X10_take 36 (73, .istore 4, 2) rfl rfl) rfl (by decide),
    st_iinc hC (n := 37) (x := 1) (dc_X10_take 37 (75, .iinc 5 1, 3) rfl rfl) rfl (by decide) (by decide),
    st_goto hC (n := 38) (dc_X10_take 38 (78, .goto (-55), 3) rfl rfl) (by decide),
    st_iload hC (n := 39) (dc_X10_take 39 (81, .iload 4, 2) rfl rfl) rfl,
    st_ifeq hC (n := 40) (dc_X10_take 40 (83, .ifCond .eq 19, 3) rfl rfl) rfl (by decide),
    st_aload_n hC (n := 41) (k := 0) (dc_X10_take 41 (86, .aload_n 0, 1) rfl rfl) rfl rfl,
    st_getI hC (n := 42) (k := 10) (j := 2) (dc_X10_take 42 (87, .getfield 15, 3) rfl rfl) rfl clf_10 (by decide) rfl wd_295,
    st_ifle hC (n := 43) (dc_X10_take 43 (90, .ifCond .le 12, 3) rfl rfl) rfl (by decide),
    st_aload_n hC (n := 44) (k := 0) (dc_X10_take 44 (93, .aload_n 0, 1) rfl rfl) rfl rfl,
    st_getC hC (n := 45) (k := 10) (j := 0) (dc_X10_take 45 (94, .getfield 19, 3) rfl rfl) rfl clf_10 (by decide) rfl (by decide) wd_293,
    st_callV hC (n := 46) (k := 4) (na := 0) (con_X4_misplaced l) (dc_X10_take 46 (97, .invokevirtual 45, 3) rfl rfl) rfl wd_887 wd_144 (by decide) ⟨rfl, rfl, by decide, by decide⟩ hM wd_982 wd_885 wd_886 clf_4,
    st_istore hC (n := 47) (dc_X10_take 47 (100, .istore 4, 2) rfl rfl) rfl (by decide),
    st_aload_n hC (n := 48) (k := 1) (dc_X10_take 48 (102, .aload_n 1, 1) rfl rfl) rfl rfl,
    st_iload hC (n := 49) (dc_X10_take 49 (103, .iload 4, 2) rfl rfl) rfl,
    st_putZ hC (n := 50) (k := 9) (j := 6) (dc_X10_take 50 (105, .putfield 49, 3) rfl rfl) rfl clf_9 (by decide) rfl rfl rfl wd_529,
    st_iload hC (n := 51) (dc_X10_take 51 (108, .iload 4, 2) rfl rfl) rfl,
    st_zret hC (n := 52) hR (dc_X10_take 52 (110, .ireturn, 1) rfl rfl), trivial⟩
set_option maxRecDepth 8000 in
theorem vc_X10_take : VC P_X10_take 6 Pre_X10_take Fn_X10_take := by
  rintro mm as hom hoa ⟨g, v, n, F, ns, nm, nt, na, hF, hF9, hn, hV, rfl⟩
  refine ⟨Nat.le_of_ble_eq_true rfl, fun X h => ?_⟩
  replace h : RUN P_X10_take (RT (c10vC g v mm (nI n))) X := h
  have hT0 : TXp (bg1 (mI (ylM mm g) 10 0 2 0) (nI n)) := TXp_b1 (F := F) hF hF9 hn
  have h0 : YKx (c10v0 g mm (nI n)) g v := by
    have hs := SMo_sp (bg1 (mI (ylM mm g) 10 0 2 0) (nI n))
    obtain ⟨a, b⟩ := yl_n mm g
    have hY : YK (bg1 (mI (ylM mm g) 10 0 2 0) (nI n)) g v ns nm nt na 0 0 0 := by
      refine ⟨⟨hT0, hV⟩, ⟨hT0, ?_, ?_, ?_⟩, ?_, by decide⟩
      · exact And.intro rfl (by decide)
      · exact And.intro b (by decide)
      · exact fun i hi => absurd hi (by omega)
      · exact a
    exact ⟨ns, nm, nt, na, 0, 0, 0, YK_sp hY⟩
  unfold c10vC at h
  obtain ⟨M0, e0⟩ : ∃ M0, M0 = c10v0 g mm (nI n) := ⟨_, rfl⟩
  rw [← e0] at h h0
  have s48 : ∀ P p' M i b, P = c10vF g p' → p' = (b, M) → RUN P_X10_take (RT P) X → X 48 [some (vR 10 0), some (vR 9 g), some (vR 6 v), some (vI (nI n)), some (vI (bI (b = true))), some (vI (i))] [] (M) := by
    intro P p' M i b hP hp h
    rw [hp] at hP
    unfold c10vF at hP
    show X 48 [some (vR 10 0), some (vR 9 g), some (vR 6 v), some (vI (nI n)), some (vI (bI (b = true))), some (vI i)] [] M
    refine h (fun _ => false) 3000 48 _ _ _ ?_
    refine And.intro bI_in ?_
    refine And.intro bI_in ?_
    show ((some (vI (bI (b = true))) : Option MV), mI M 9 g 6 (bI (b = true))) = _
    rw [hP]
  have out : ∀ P p' M i, P = c10vE g p' → p' = (true, M) → YKx M g v → RUN P_X10_take (RT P) X → X 39 [some (vR 10 0), some (vR 9 g), some (vR 6 v), some (vI (nI n)), some (vI (1)), some (vI (i))] [] (M) := by
    intro P p' M i hP hp hM h
    obtain ⟨ns, nm, nt, na, o, L, S, hM⟩ := hM
    rw [hp] at hP
    unfold c10vE at hP
    show X 39 [some (vR 10 0), some (vR 9 g), some (vR 6 v), some (vI (nI n)), some (vI 1), some (vI i)] [] M
    refine h (fun i => Nat.beq i 48) 3000 39 _ _ _ ?_
    refine br_f (show ¬ (1 = 0) from by decide) ?_
    refine br_c (fun b43 => ?_) (fun b43 => ?_)
    · -- 43: M.1 10 0 2 ≤ 0 taken
      replace b43 : M.1 10 0 2 ≤ 0 := b43
      show X 48 [some (vR 10 0), some (vR 9 g), some (vR 6 v), some (vI (nI n)), some (vI 1), some (vI i)] [] M
      rw [if_neg (fun z => Int32.not_lt.mpr b43 z.2)] at hP
      exact s48 _ _ _ _ true hP rfl h
    · -- 43: M.1 10 0 2 ≤ 0 on
      replace b43 : ¬ (M.1 10 0 2 ≤ 0) := b43
      refine And.intro (show Pre_X4_misplaced M [vR 4 0] from rfl) ?_
      show X 48 [some (vR 10 0), some (vR 9 g), some (vR 6 v), some (vI (nI n)), some (vI 0), some (vI i)] [] (miC M)
      exact s48 _ (false, miC M) _ _ false (hP.trans (congrArg (c10vF g) (if_pos (And.intro (rfl : ((true, M) : PR).1 = true) (Int32.not_le.mp b43))))) rfl h
  have bad : ∀ P p' M i, P = c10vE g p' → p' = (false, M) → RUN P_X10_take (RT P) X → X 13 [some (vR 10 0), some (vR 9 g), some (vR 6 v), some (vI (nI n)), some (vI (0)), some (vI (i))] [] (M) := by
    intro P p' M i hP hp h
    rw [hp] at hP
    unfold c10vE at hP
    rw [if_neg (fun z => Bool.false_ne_true z.1)] at hP
    have s39 : ∀ i, X 39 [some (vR 10 0), some (vR 9 g), some (vR 6 v), some (vI (nI n)), some (vI (0)), some (vI (i))] [] (M) := by
      intro i
      show X 39 [some (vR 10 0), some (vR 9 g), some (vR 6 v), some (vI (nI n)), some (vI 0), some (vI i)] [] M
      refine h (fun i => Nat.beq i 48) 3000 39 _ _ _ ?_
      refine br_t (show 0 = 0 from by decide) ?_
      show X 48 [some (vR 10 0), some (vR 9 g), some (vR 6 v), some (vI (nI n)), some (vI 0), some (vI i)] [] M
      exact s48 _ _ _ _ false hP rfl h
    show X 13 [some (vR 10 0), some (vR 9 g), some (vR 6 v), some (vI (nI n)), some (vI 0), some (vI i)] [] M
    refine h (fun i => Nat.beq i 39) 3000 13 _ _ _ ?_
    refine br_c (fun b15 => ?_) (fun b15 => ?_)
    · -- 15: 60 < i taken
      replace b15 : 60 < i := b15
      show X 39 [some (vR 10 0), some (vR 9 g), some (vR 6 v), some (vI (nI n)), some (vI 0), some (vI i)] [] M
      exact s39 _
    · -- 15: 60 < i on
      replace b15 : ¬ (60 < i) := b15
      refine br_t (show 0 = 0 from by decide) ?_
      show X 39 [some (vR 10 0), some (vR 9 g), some (vR 6 v), some (vI (nI n)), some (vI 0), some (vI i)] [] M
      exact s39 _
  have loop : ∀ i, i ≤ 61 → ∀ P p' M, YKx M g v → P = c10vE g p' → p' = c10vL g v (61 - i) M → RUN P_X10_take (RT P) X → X 13 [some (vR 10 0), some (vR 9 g), some (vR 6 v), some (vI (nI n)), some (vI (1)), some (vI (nI i))] [] (M) := by
    refine up_ind 61 ?_ (fun i hi ih => ?_)
    · intro P p' M hM hP hp h
      rw [Nat.sub_self] at hp
      show X 13 [some (vR 10 0), some (vR 9 g), some (vR 6 v), some (vI (nI n)), some (vI 1), some (vI (nI 61))] [] M
      refine h (fun i => Nat.beq i 39) 3000 13 _ _ _ ?_
      refine br_t (show 60 < nI 61 from by decide) ?_
      show X 39 [some (vR 10 0), some (vR 9 g), some (vR 6 v), some (vI (nI n)), some (vI 1), some (vI (nI 61))] [] M
      exact out _ _ _ _ hP hp hM h
    · intro P p' M hM hP hp h
      rw [show 61 - i = (61 - (i + 1)) + 1 by omega, c10vL] at hp
      have s36 : p' = pBd (c10v1 g v M) (c10vL g v (61 - (i + 1))) → X 36 [some (vR 10 0), some (vR 9 g), some (vR 6 v), some (vI (nI n)), some (vI (1)), some (vI (nI i))] [vI (bI ((c10v1 g v M).1 = true))] ((c10v1 g v M).2) := by
        intro hq
        by_cases c : (c10v1 g v M).1 = true
        · have hM' := c10v1_ok hM c
          rw [pBd_t c] at hq
          have z := ih P p' _ hM' hP hq h
          rw [show bI ((c10v1 g v M).1 = true) = 1 from if_pos c]
          revert z
          generalize (c10v1 g v M).2 = N
          intro z
          show X 36 [some (vR 10 0), some (vR 9 g), some (vR 6 v), some (vI (nI n)), some (vI 1), some (vI (nI i))] [vI 1] N
          refine h (fun i => Nat.beq i 13) 3000 36 _ _ _ ?_
          show X 13 [some (vR 10 0), some (vR 9 g), some (vR 6 v), some (vI (nI n)), some (vI 1), some (vI ((nI i) + 1))] [] N
          rw [nI_1]
          exact z
        · rw [pBd_f c] at hq
          have z := bad P p' _ (nI i + 1) hP hq h
          rw [show bI ((c10v1 g v M).1 = true) = 0 from if_neg c]
          revert z
          generalize (c10v1 g v M).2 = N
          intro z
          show X 36 [some (vR 10 0), some (vR 9 g), some (vR 6 v), some (vI (nI n)), some (vI 1), some (vI (nI i))] [vI 0] N
          refine h (fun i => Nat.beq i 13) 3000 36 _ _ _ ?_
          show X 13 [some (vR 10 0), some (vR 9 g), some (vR 6 v), some (vI (nI n)), some (vI 0), some (vI ((nI i) + 1))] [] N
          exact z
      have hM0 := hM
      obtain ⟨ns, nm, nt, na, o, L, S, hJ⟩ := hM
      unfold c10v1 at s36 hp
      show X 13 [some (vR 10 0), some (vR 9 g), some (vR 6 v), some (vI (nI n)), some (vI 1), some (vI (nI i))] [] M
      refine h (fun i => Nat.beq i 36 || Nat.beq i 39) 3000 13 _ _ _ ?_
      refine br_f (show ¬ (60 < nI i) from show ¬ nI 60 < nI i by rw [nI_ltI (by omega) (by omega)]; omega) ?_
      refine br_f (show ¬ (1 = 0) from by decide) ?_
      refine br_c (fun b22 => ?_) (fun b22 => ?_)
      · -- 22: M.1 4 0 6 = 37 taken
        replace b22 : M.1 4 0 6 = 37 := b22
        show X 39 [some (vR 10 0), some (vR 9 g), some (vR 6 v), some (vI (nI n)), some (vI 1), some (vI (nI i))] [] M
        rw [if_pos b22] at hp
        exact out _ _ _ _ hP hp hM0 h
      · -- 22: M.1 4 0 6 = 37 on
        replace b22 : ¬ (M.1 4 0 6 = 37) := b22
        refine brn_c (fun b27 => ?_) (fun b27 => ?_)
        · -- 27: M.1 4 0 6 = 28 taken
          replace b27 : ¬ (M.1 4 0 6 = 28) := b27
          refine And.intro (show Pre_X10_readStep M [vR 10 0, vR 9 g, vR 6 v] from ⟨g, v, hM0, rfl⟩) ?_
          show X 36 [some (vR 10 0), some (vR 9 g), some (vR 6 v), some (vI (nI n)), some (vI 1), some (vI (nI i))] [vI (bI ((c10s g v M).1 = true))] ((c10s g v M).2)
          rw [if_neg b22] at hp
          rw [if_neg b27] at s36 hp 
          exact s36 hp
        · -- 27: M.1 4 0 6 = 28 on
          replace b27 : M.1 4 0 6 = 28 := b27
          refine And.intro (show Pre_X10_readEnd M [vR 10 0, vR 9 g] from ⟨g, o, L, hJ.2.1, rfl⟩) ?_
          show X 36 [some (vR 10 0), some (vR 9 g), some (vR 6 v), some (vI (nI n)), some (vI 1), some (vI (nI i))] [vI (bI ((c10e g M).1 = true))] ((c10e g M).2)
          rw [if_neg b22] at hp
          rw [if_pos b27] at s36 hp 
          exact s36 hp
  have l0 := loop 0 (by omega) _ _ M0 h0 rfl rfl h
  rw [e0] at l0
  show X 0 [some (vR 10 0), some (vR 9 g), some (vR 6 v), some (vI (nI n)), none, none] [] mm
  refine h (fun i => Nat.beq i 13) 3000 0 _ _ _ ?_
  refine And.intro (show Pre_X9_clear mm [vR 9 g] from ⟨g, rfl⟩) ?_
  refine And.intro (show Pre_X4_begin (mI (ylM mm g) 10 0 2 0) [vR 4 0, vI (nI n)] from ⟨n, F, hF, hF9, hn, rfl⟩) ?_
  show X 13 [some (vR 10 0), some (vR 9 g), some (vR 6 v), some (vI (nI n)), some (vI 1), some (vI 0)] [] (bgC (mI (ylM mm g) 10 0 2 0) (nI n))
  exact l0
theorem con_X10_take (l : Launch) : CON l y_X10_take prog_12_method_2_code 6 (some .boolean) rm_X10_take Pre_X10_take Fn_X10_take := CON_of (by decide) rfl rfl (sa_X10_take l) vc_X10_take
