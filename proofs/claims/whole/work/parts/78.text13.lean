/-! PART 78: the class: a line of years -/

theorem CJ_pB {p : PR} {q : MM → PR} {v ns nm nt na : Nat} (h : CJ p.2 v ns nm nt na) (hq : ∀ m, CJ m v ns nm nt na → CJ (q m).2 v ns nm nt na) : CJ (pBd p q).2 v ns nm nt na := by
  by_cases c : p.1 = true
  · rw [pBd_t c]; exact hq _ h
  · rw [pBd_f c]; exact h
theorem CJ_cP {k g L : Nat} {p : Int32 × MM} {v ns nm nt na : Nat} (hk : k ≠ 4 ∧ k ≠ 6) (h : CJ p.2 v ns nm nt na) : CJ (c10P k g L p).2 v ns nm nt na := CJ_row hk h
theorem CJ_if {c : Prop} [Decidable c] {p q : PR} {v ns nm nt na : Nat} (h : CJ p.2 v ns nm nt na) (h' : CJ q.2 v ns nm nt na) : CJ (if c then p else q).2 v ns nm nt na := by
  by_cases z : c
  · rw [if_pos z]; exact h
  · rw [if_neg z]; exact h'
theorem c10d_ok {m : MM} {g v ns nm nt na : Nat} (h : CJ m v ns nm nt na) : CJ (c10d g v m).2 v ns nm nt na := by
  unfold c10d c10d1
  exact CJ_if (CJ_cP (by decide) (CJ_me h)) (CJ_if (CJ_cP (by decide) (CJ_me h)) (CJ_if (CJ_pB (CJ_cP (by decide) (CJ_me h)) (fun M hM => CJ_pB (CJ_sk hM) (fun N hN => CJ_cP (by decide) (CJ_me hN)))) (CJ_if (CJ_cP (by decide) (CJ_am h)) h)))
theorem c10t_ok {m : MM} {g v ns nm nt na : Nat} (h : CJ m v ns nm nt na) : CJ (c10t g v m).2 v ns nm nt na := by
  have hE : ∀ L M, CJ M v ns nm nt na → CJ (c10tE g L M).2 v ns nm nt na := fun L M hM => CJ_if (CJ_cP (by decide) (CJ_am (CJ_sp (CJ_row (by decide) hM)))) (CJ_mi hM)
  have hD : ∀ L t M, CJ M v ns nm nt na → CJ (c10tD g v L t M).2 v ns nm nt na := fun L t M hM => CJ_if (CJ_cP (by decide) (CJ_me hM)) (CJ_pB (CJ_cP (by decide) (CJ_me hM)) (hE L))
  have hB : ∀ L t M, CJ M v ns nm nt na → CJ (c10tB g v L t M).2 v ns nm nt na := fun L t M hM => CJ_pB (CJ_sk hM) (hD L t)
  have hA : ∀ L t M, CJ M v ns nm nt na → CJ (c10tA g v L t M).2 v ns nm nt na := fun L t M hM => CJ_if (CJ_cP (by decide) (CJ_me hM)) (CJ_pB (CJ_cP (by decide) (CJ_me hM)) (hB L t))
  exact CJ_if (hA _ _ _ (CJ_sp (CJ_row (by decide) h))) (CJ_mi h)
/-- nothing moved but the text and the columns of the lines -/
def SMy (m m' : MM) : Prop := ∀ k j, k ≠ 4 → (k < 43 ∨ 48 < k) → m'.1 k j = m.1 k j
theorem SMy_r (m : MM) : SMy m m := fun _ _ _ _ => rfl
theorem SMy_t {a b c : MM} (h : SMy a b) (h' : SMy b c) : SMy a c := fun k j z z' => (h' k j z z').trans (h k j z z')
theorem SMy_o {a b : MM} (h : SMo a b) : SMy a b := fun k j z _ => h.1 k j z
theorem SMy_R {a b : MM} {k g : Nat} {f : Nat → Int32} (hk : 43 ≤ k ∧ k ≤ 48) (h : SMy a b) : SMy a (mRow b k g f) := fun k' j z z' => (show (mRow b k g f).1 k' j = b.1 k' j from if_neg (fun y => by have e := y.1; omega)).trans (h k' j z z')
theorem SMy_pB {p : PR} {q : MM → PR} {m : MM} (h : SMy m p.2) (hq : ∀ M, SMy m M → SMy m (q M).2) : SMy m (pBd p q).2 := by
  by_cases c : p.1 = true
  · rw [pBd_t c]; exact hq _ h
  · rw [pBd_f c]; exact h
theorem SMy_cP {k g L : Nat} {p : Int32 × MM} {m : MM} (hk : 43 ≤ k ∧ k ≤ 48) (h : SMy m p.2) : SMy m (c10P k g L p).2 := SMy_R hk h
theorem SMy_if {c : Prop} [Decidable c] {p q : PR} {m : MM} (h : SMy m p.2) (h' : SMy m q.2) : SMy m (if c then p else q).2 := by
  by_cases z : c
  · rw [if_pos z]; exact h
  · rw [if_neg z]; exact h'
theorem c10d_sm (g v : Nat) (m : MM) : SMy m (c10d g v m).2 := by
  unfold c10d c10d1
  exact SMy_if (SMy_cP (by decide) (SMy_o (SMo_me _ _ _ _))) (SMy_if (SMy_cP (by decide) (SMy_o (SMo_me _ _ _ _))) (SMy_if (SMy_pB (SMy_cP (by decide) (SMy_o (SMo_me _ _ _ _))) (fun M hM => SMy_pB (SMy_t hM (SMy_o (SMo_sk _ _))) (fun N hN => SMy_cP (by decide) (SMy_t hN (SMy_o (SMo_me _ _ _ _)))))) (SMy_if (SMy_cP (by decide) (SMy_o (SMo_am _ _ _))) (SMy_r m))))
theorem c10t_sm (g v : Nat) (m : MM) : SMy m (c10t g v m).2 := by
  have hE : ∀ L M, SMy m M → SMy m (c10tE g L M).2 := fun L M hM => SMy_if (SMy_cP (by decide) (SMy_t (SMy_t (SMy_R (by decide) hM) (SMy_o (SMo_sp _))) (SMy_o (SMo_am _ _ _)))) (SMy_t hM (SMy_o (SMo_mi _)))
  have hD : ∀ L t M, SMy m M → SMy m (c10tD g v L t M).2 := fun L t M hM => SMy_if (SMy_cP (by decide) (SMy_t hM (SMy_o (SMo_me _ _ _ _)))) (SMy_pB (SMy_cP (by decide) (SMy_t hM (SMy_o (SMo_me _ _ _ _)))) (hE L))
  have hB : ∀ L t M, SMy m M → SMy m (c10tB g v L t M).2 := fun L t M hM => SMy_pB (SMy_t hM (SMy_o (SMo_sk _ _))) (hD L t)
  have hA : ∀ L t M, SMy m M → SMy m (c10tA g v L t M).2 := fun L t M hM => SMy_if (SMy_cP (by decide) (SMy_t hM (SMy_o (SMo_me _ _ _ _)))) (SMy_pB (SMy_cP (by decide) (SMy_t hM (SMy_o (SMo_me _ _ _ _)))) (hB L t))
  exact SMy_if (hA _ _ _ (SMy_t (SMy_R (by decide) (SMy_r m)) (SMy_o (SMo_sp _)))) (SMy_o (SMo_mi _))
/-- while years are read: the names of the valley stand, open whens and loops, lines, steps -/
def YK (m : MM) (g v ns nm nt na o L S : Nat) : Prop := CJ m v ns nm nt na ∧ YJc m g o L ∧ m.1 9 g 7 = nI S ∧ S ≤ 30
theorem YK_s {m m' : MM} {g v ns nm nt na o L S : Nat} (h : YK m g v ns nm nt na o L S) (hs : SMy m m') (hc : CJ m' v ns nm nt na) : YK m' g v ns nm nt na o L S := by
  unfold YK YJc
  rw [hs 10 0 (by decide) (by decide), hs 9 g (by decide) (by decide), hs 49 0 (by decide) (by decide)]
  exact ⟨hc, ⟨hc.1, h.2.1.2⟩, h.2.2⟩
theorem YK_sp {m : MM} {g v ns nm nt na o L S : Nat} (h : YK m g v ns nm nt na o L S) : YK (spM m) g v ns nm nt na o L S := YK_s h (SMy_o (SMo_sp _)) (CJ_sp h.1)
theorem YK_sk {m : MM} {g v ns nm nt na o L S : Nat} {k : Int32} (h : YK m g v ns nm nt na o L S) : YK (skC m k).2 g v ns nm nt na o L S := YK_s h (SMy_o (SMo_sk _ _)) (CJ_sk h.1)
theorem YK_43 {m : MM} {g v ns nm nt na o L S g' : Nat} {f : Nat → Int32} (h : YK m g v ns nm nt na o L S) : YK (mRow m 43 g' f) g v ns nm nt na o L S := YK_s h (SMy_R (by decide) (SMy_r m)) (CJ_row (by decide) h.1)
/-- one line more -/
def c10n (m : MM) (g : Nat) : MM := mI (mI m 9 g 8 (m.1 9 g 8 + 1)) 9 g 7 (m.1 9 g 7 + 1)
/-- one open line more -/
def c10o (m : MM) (g : Nat) : MM := mI (mRow m 49 0 (upd (m.1 49 0) (m.1 10 0 2).toNatClampNeg (m.1 9 g 8))) 10 0 2 (m.1 10 0 2 + 1)
def c10z (g : Nat) (b : Int32) (m : MM) : PR := (true, c10n (if b = 0 then m else c10o m g) g)
def c10y (g : Nat) (b : Int32) (m : MM) : PR := pBd (skC m 33) (c10z g b)
def c10x (g v L : Nat) (m : MM) : PR := if m.1 43 g L = 23 then c10t g v m else c10d g v m
def c10s2 (g v L : Nat) (b : Int32) (m : MM) : PR := pBd (c10x g v L (spM (mRow m 43 g (upd (m.1 43 g) L (m.1 4 0 6))))) (c10y g b)
def c10s1 (g v L : Nat) (b : Int32) (m : MM) : PR := if ¬ b = 0 ∧ 3 ≤ m.1 10 0 2 then (false, faC m 7) else c10s2 g v L b m
def c10b (m : MM) : Int32 := if m.1 4 0 6 = 23 ∨ m.1 4 0 6 = 27 then 1 else 0
def c10s (g v : Nat) (m : MM) : PR := if c10S (m.1 4 0 6) then if m.1 9 g 7 < 30 ∧ m.1 9 g 8 < 60 then c10s1 g v (m.1 9 g 8).toNatClampNeg (c10b m) m else (false, faC m 6) else (false, miC m)
theorem c10x_ok {m : MM} {g v ns nm nt na o L S L' : Nat} (h : YK m g v ns nm nt na o L S) : YK (c10x g v L' m).2 g v ns nm nt na o L S := by
  unfold c10x
  by_cases c : m.1 43 g L' = 23
  · rw [if_pos c]; exact YK_s h (c10t_sm _ _ _) (c10t_ok h.1)
  · rw [if_neg c]; exact YK_s h (c10d_sm _ _ _) (c10d_ok h.1)
theorem c10o_ok {m : MM} {g v ns nm nt na o L S : Nat} (h : YK m g v ns nm nt na o L S) (ho : o < 3) : (CJ (c10o m g) v ns nm nt na) ∧ (c10o m g).1 9 g 8 = nI L ∧ (c10o m g).1 9 g 7 = nI S ∧ (c10o m g).1 10 0 2 = nI (o + 1) ∧ ∀ i, i < o + 1 → ∃ j, (c10o m g).1 49 0 i = nI j ∧ j < L + 1 := by
  obtain ⟨hC, hY, e7, hS⟩ := h
  refine ⟨⟨TXp_mk hC.1 rfl rfl, hC.2⟩, hY.2.2.1.1, e7, ?_, ?_⟩
  · show (mI _ 10 0 2 (m.1 10 0 2 + 1)).1 10 0 2 = _
    rw [mI_eq2, hY.2.1.1, nI_1]
  · intro i hi
    show ∃ j, (upd (m.1 49 0) (m.1 10 0 2).toNatClampNeg (m.1 9 g 8)) i = nI j ∧ j < L + 1
    rw [hY.2.1.1, nI_clamp (by omega), hY.2.2.1.1]
    by_cases c : i = o
    · rw [c, upd_eq]; exact ⟨L, rfl, by omega⟩
    · rw [upd_ne c]
      obtain ⟨j, e, hj⟩ := hY.2.2.2 i (by omega)
      exact ⟨j, e, by omega⟩
theorem c10n_ok {m : MM} {g v ns nm nt na o L S : Nat} (hC : CJ m v ns nm nt na) (e8 : m.1 9 g 8 = nI L) (e7 : m.1 9 g 7 = nI S) (e2 : m.1 10 0 2 = nI o) (ho : o ≤ 3) (hL : L < 60) (hS : S < 30) (hq : ∀ i, i < o → ∃ j, m.1 49 0 i = nI j ∧ j < L + 1) : YK (c10n m g) g v ns nm nt na o (L + 1) (S + 1) := by
  refine ⟨⟨TXp_mk hC.1 rfl rfl, hC.2⟩, ⟨TXp_mk hC.1 rfl rfl, ⟨e2, ho⟩, ⟨?_, by omega⟩, hq⟩, ?_, by omega⟩
  · unfold c10n
    rw [mI_ne (by decide), mI_eq2, e8, nI_1]
  · unfold c10n
    rw [mI_eq2, e7, nI_1]
def YKx (m : MM) (g v : Nat) : Prop := ∃ ns nm nt na o L S, YK m g v ns nm nt na o L S
theorem c10s_ok {m : MM} {g v : Nat} (h : YKx m g v) (t : (c10s g v m).1 = true) : YKx (c10s g v m).2 g v := by
  obtain ⟨ns, nm, nt, na, o, L, S, h⟩ := h
  unfold c10s at t ⊢
  by_cases c : c10S (m.1 4 0 6)
  · rw [if_pos c] at t ⊢
    by_cases d : m.1 9 g 7 < 30 ∧ m.1 9 g 8 < 60
    · rw [if_pos d] at t ⊢
      have L60 := h.2.1.2.2.1.2
      have o3 := h.2.1.2.1.2
      have dL := d.2
      have dS := d.1
      rw [h.2.1.2.2.1.1, show (60 : Int32) = nI 60 from rfl, nI_ltI (by omega) (by omega)] at dL
      rw [h.2.2.1, show (30 : Int32) = nI 30 from rfl, nI_ltI (by have z := h.2.2.2; omega) (by omega)] at dS
      unfold c10s1 at t ⊢
      by_cases e : ¬ c10b m = 0 ∧ 3 ≤ m.1 10 0 2
      · rw [if_pos e] at t; exact absurd t Bool.false_ne_true
      · rw [if_neg e] at t ⊢
        unfold c10s2 at t ⊢
        have e1 := pBd_in t
        rw [e1.2] at t ⊢
        unfold c10y at t ⊢
        have e2 := pBd_in t
        rw [e2.2]
        have hM := YK_sk (k := 33) (c10x_ok (L' := (m.1 9 g 8).toNatClampNeg) (YK_sp (YK_43 (g' := g) (f := upd (m.1 43 g) (m.1 9 g 8).toNatClampNeg (m.1 4 0 6)) h)))
        revert hM
        generalize (skC _ 33).2 = M
        intro hM
        unfold c10z
        by_cases k : c10b m = 0
        · rw [if_pos k]
          exact ⟨_, _, _, _, _, _, _, c10n_ok hM.1 hM.2.1.2.2.1.1 hM.2.2.1 hM.2.1.2.1.1 o3 dL dS (fun i hi => by obtain ⟨j, ej, hj⟩ := hM.2.1.2.2.2 i hi; exact ⟨j, ej, by omega⟩)⟩
        · rw [if_neg k]
          have o4 : o < 3 := by
            rcases Nat.lt_or_ge o 3 with z | z
            · exact z
            · exact absurd ⟨k, by rw [h.2.1.2.1.1, show (3 : Int32) = nI 3 from rfl, nI_leI (by omega) (by omega)]; exact z⟩ e
          have q := c10o_ok hM o4
          exact ⟨_, _, _, _, _, _, _, c10n_ok q.1 q.2.1 q.2.2.1 q.2.2.2.1 o4 dL dS q.2.2.2.2⟩
    · rw [if_neg d] at t; exact absurd t Bool.false_ne_true
  · rw [if_neg c] at t; exact absurd t Bool.false_ne_true

--tpl ⟨_, _, by assumption, rfl⟩ || bI ((c10s {g1} {g2} {m}).1 = true) || (c10s {g1} {g2} {m}).2
def Pre_X10_readStep : PreT := fun m as => ∃ g v : Nat, YKx m g v ∧ as = [vR 10 0, vR 9 g, vR 6 v]
def Fn_X10_readStep : FnT := fun m as => match as with
  | [_, Sum.inr (Sum.inr q), Sum.inr (Sum.inr r)] => (some (vI (bI ((c10s q.2 r.2 m).1 = true))), (c10s q.2 r.2 m).2)
  | _ => (none, m)
abbrev y_X10_readStep : MethodName := ⟨"GivenUp$YearsReader", "readStep", "(LGivenUp$Years;LGivenUp$Valley;)Z"⟩
def P_X10_readStep : List StpT := [s_aload 0, s_getC 10 0 4 0, s_getI 4 6, s_callS 1 Pre_X10_isStep Fn_X10_isStep, s_ifne 9, s_aload 0, s_getC 10 0 4 0, s_callV 4 0 Pre_X4_misplaced Fn_X4_misplaced, s_zret, s_aload 1, s_getI 9 7, s_ic (30), s_icge 17, s_aload 1, s_getI 9 8, s_ic (60), s_iclt 22, s_aload 0, s_getC 10 0 4 0, s_ic (6), s_callV 4 1 Pre_X4_fail Fn_X4_fail, s_zret, s_aload 0, s_getC 10 0 4 0, s_getI 4 6, s_ic (23), s_iceq 32, s_aload 0, s_getC 10 0 4 0, s_getI 4 6, s_ic (27), s_icne 34, s_ic (1), s_goto 35, s_ic (0), s_istore 3, s_iload 3, s_ifeq 47, s_aload 0, s_getI 10 2, s_ic (3), s_iclt 47, s_aload 0, s_getC 10 0 4 0, s_ic (7), s_callV 4 1 Pre_X4_fail Fn_X4_fail, s_zret, s_aload 1, s_getR 9 0 43, s_aload 1, s_getI 9 8, s_aload 0, s_getC 10 0 4 0, s_getI 4 6, s_iast, s_aload 0, s_getC 10 0 4 0, s_callV 4 0 Pre_X4_step Fn_X4_step, s_aload 1, s_getR 9 0 43, s_aload 1, s_getI 9 8, s_iald, s_ic (23), s_icne 70, s_aload 0, s_aload 1, s_aload 2, s_callV 10 2 Pre_X10_readTest Fn_X10_readTest, s_goto 74, s_aload 0, s_aload 1, s_aload 2, s_callV 10 2 Pre_X10_readDeed Fn_X10_readDeed, s_istore 4, s_iload 4, s_ifeq 82, s_aload 0, s_getC 10 0 4 0, s_ic (33), s_callV 4 1 Pre_X4_skip Fn_X4_skip, s_ifne 84, s_ic (0), s_zret, s_iload 3, s_ifeq 99, s_aload 0, s_getR 10 1 49, s_aload 0, s_getI 10 2, s_aload 1, s_getI 9 8, s_iast, s_aload 0, s_dup, s_getI 10 2, s_ic (1), s_iadd, s_putI 10 2, s_aload 1, s_dup, s_getI 9 8, s_ic (1), s_iadd, s_putI 9 8, s_aload 1, s_dup, s_getI 9 7, s_ic (1), s_iadd, s_putI 9 7, s_ic (1), s_zret]
def pc_X10_readStep : Nat → Nat := fun i => [0, 1, 4, 7, 10, 13, 14, 17, 20, 21, 22, 25, 27, 30, 31, 34, 36, 39, 40, 43, 45, 48, 49, 50, 53, 56, 58, 61, 62, 65, 68, 70, 73, 74, 77, 78, 79, 80, 83, 84, 87, 88, 91, 92, 95, 97, 100, 101, 102, 105, 106, 109, 110, 113, 116, 117, 118, 121, 124, 125, 128, 129, 132, 133, 135, 138, 139, 140, 141, 144, 147, 148, 149, 150, 153, 155, 157, 160, 161, 164, 166, 169, 172, 173, 174, 175, 178, 179, 182, 183, 186, 187, 190, 191, 192, 193, 196, 197, 198, 201, 202, 203, 206, 207, 208, 211, 212, 213, 216, 217, 218, 221, 222].getD i 0
def dl_X10_readStep : List (Nat × Instr × Nat) := [(0, .aload_n 0, 1), (1, .getfield 19, 3), (4, .getfield 34, 3), (7, .invokestatic 69, 3), (10, .ifCond .ne 11, 3), (13, .aload_n 0, 1), (14, .getfield 19, 3), (17, .invokevirtual 45, 3), (20, .ireturn, 1), (21, .aload_n 1, 1), (22, .getfield 72, 3), (25, .bipush 30, 2), (27, .if_icmp .ge 12, 3), (30, .aload_n 1, 1), (31, .getfield 53, 3), (34, .bipush 60, 2), (36, .if_icmp .lt 13, 3), (39, .aload_n 0, 1), (40, .getfield 19, 3), (43, .bipush 6, 2), (45, .invokevirtual 75, 3), (48, .ireturn, 1), (49, .aload_n 0, 1), (50, .getfield 19, 3), (53, .getfield 34, 3), (56, .bipush 23, 2), (58, .if_icmp .eq 15, 3), (61, .aload_n 0, 1), (62, .getfield 19, 3), (65, .getfield 34, 3), (68, .bipush 27, 2), (70, .if_icmp .ne 7, 3), (73, .iconst 1, 1), (74, .goto 4, 3), (77, .iconst 0, 1), (78, .istore_n 3, 1), (79, .iload_n 3, 1), (80, .ifCond .eq 21, 3), (83, .aload_n 0, 1), (84, .getfield 15, 3), (87, .iconst 3, 1), (88, .if_icmp .lt 13, 3), (91, .aload_n 0, 1), (92, .getfield 19, 3), (95, .bipush 7, 2), (97, .invokevirtual 75, 3), (100, .ireturn, 1), (101, .aload_n 1, 1), (102, .getfield 63, 3), (105, .aload_n 1, 1), (106, .getfield 53, 3), (109, .aload_n 0, 1), (110, .getfield 19, 3), (113, .getfield 34, 3), (116, .iastore, 1), (117, .aload_n 0, 1), (118, .getfield 19, 3), (121, .invokevirtual 56, 3), (124, .aload_n 1, 1), (125, .getfield 63, 3), (128, .aload_n 1, 1), (129, .getfield 53, 3), (132, .iaload, 1), (133, .bipush 23, 2), (135, .if_icmp .ne 12, 3), (138, .aload_n 0, 1), (139, .aload_n 1, 1), (140, .aload_n 2, 1), (141, .invokevirtual 78, 3), (144, .goto 9, 3), (147, .aload_n 0, 1), (148, .aload_n 1, 1), (149, .aload_n 2, 1), (150, .invokevirtual 81, 3), (153, .istore 4, 2), (155, .iload 4, 2), (157, .ifCond .eq 15, 3), (160, .aload_n 0, 1), (161, .getfield 19, 3), (164, .bipush 33, 2), (166, .invokevirtual 59, 3), (169, .ifCond .ne 5, 3), (172, .iconst 0, 1), (173, .ireturn, 1), (174, .iload_n 3, 1), (175, .ifCond .eq 26, 3), (178, .aload_n 0, 1), (179, .getfield 9, 3), (182, .aload_n 0, 1), (183, .getfield 15, 3), (186, .aload_n 1, 1), (187, .getfield 53, 3), (190, .iastore, 1), (191, .aload_n 0, 1), (192, .dup, 1), (193, .getfield 15, 3), (196, .iconst 1, 1), (197, .iadd, 1), (198, .putfield 15, 3), (201, .aload_n 1, 1), (202, .dup, 1), (203, .getfield 53, 3), (206, .iconst 1, 1), (207, .iadd, 1), (208, .putfield 53, 3), (211, .aload_n 1, 1), (212, .dup, 1), (213, .getfield 72, 3), (216, .iconst 1, 1), (217, .iadd, 1), (218, .putfield 72, 3), (221, .iconst 1, 1), (222, .ireturn, 1)]
theorem dc_X10_readStep : DEC prog_12_method_4_code pc_X10_readStep dl_X10_readStep := DEC_of (by decide +kernel)
abbrev rm_X10_readStep : Room := { frames := 5, cells := 0, slots := 0, locals := 113 }
set_option maxRecDepth 20000 in
theorem sa_X10_readStep (l : Launch) : SNDALL l prog_12_method_4_code "GivenUp$YearsReader" 5 (some .boolean) rm_X10_readStep P_X10_readStep pc_X10_readStep := fun p e s m args below meth c cells slots Q D dA ad A RR hC hR => by
  have hM := RTX_room (R := rm_X10_readStep) hR
  exact ⟨st_aload_n hC (n := 0) (k := 0) (dc_X10_readStep 0 (0, .aload_n 0, 1) rfl rfl) rfl rfl,
    st_getC hC (n := 1) (k := 10) (j := 0) (dc_X10_readStep 1 (1, .getfield 19, 3) rfl rfl) rfl clf_10 (by decide) rfl (by decide) wd_293,
    st_getI hC (n := 2) (k := 4) (j := 6) (dc_X10_readStep 2 (4, .getfield 34, 3) rfl rfl) rfl clf_4 (by decide) rfl wd_238,
    st_callS hC (n := 3) (na := 1) (con_X10_isStep l) (dc_X10_readStep 3 (7, .invokestatic 69, 3) rfl rfl) rfl wd_991 wd_150 (by decide) ⟨rfl, rfl, by decide, by decide⟩ hM wd_989 wd_990,
    st_ifne hC (n := 4) (dc_X10_readStep 4 (10, .ifCond .ne 11, 3) rfl rfl) rfl (by decide),
    st_aload_n hC (n := 5) (k := 0) (dc_X10_readStep 5 (13, .aload_n 0, 1) rfl rfl) rfl rfl,
    st_getC hC (n := 6) (k := 10) (j := 0) (dc_X10_readStep 6 (14, .getfield 19, 3) rfl rfl) rfl clf_10 (by decide) rfl (by decide) wd_293,
    st_callV hC (n := 7) (k := 4) (na := 0) (con_X4_misplaced l) (dc_X10_readStep 7 (17, .invokevirtual 45, 3) rfl rfl) rfl wd_887 wd_144 (by decide) ⟨rfl, rfl, by decide, by decide⟩ hM wd_982 wd_885 wd_886 clf_4,
    st_zret hC (n := 8) hR (dc_X10_readStep 8 (20, .ireturn, 1) rfl rfl),
    st_aload_n hC (n := 9) (k := 1) (dc_X10_readStep 9 (21, .aload_n 1, 1) rfl rfl) rfl rfl,
    st_getI hC (n := 10) (k := 9) (j := 7) (dc_X10_readStep 10 (22, .getfield 72, 3) rfl rfl) rfl clf_9 (by decide) rfl wd_532,
    st_bipush hC (n := 11) (x := 30) (dc_X10_readStep 11 (25, .bipush 30, 2) rfl rfl) rfl (by decide),
    st_icge hC (n := 12) (dc_X10_readStep 12 (27, .if_icmp .ge 12, 3) rfl rfl) rfl (by decide),
    st_aload_n hC (n := 13) (k := 1) (dc_X10_readStep 13 (30, .aload_n 1, 1) rfl rfl) rfl rfl,
    st_getI hC (n := 14) (k := 9) (j := 8) (dc_X10_readStep 14 (31, .getfield 53, 3) rfl rfl) rfl clf_9 (by decide) rfl wd_536,
    st_bipush hC (n := 15) (x := 60) (dc_X10_readStep 15 (34, .bipush 60, 2) rfl rfl) rfl (by decide),
    st_iclt hC (n := 16) (dc_X10_readStep 16 (36, .if_icmp .lt 13, 3) rfl rfl) rfl (by decide),
    st_aload_n hC (n := 17) (k := 0) (dc_X10_readStep 17 (39, .aload_n 0, 1) rfl rfl) rfl rfl,
    st_getC hC (n := 18) (k := 10) (j := 0) (dc_X10_readStep 18 (40, .getfield 19, 3) rfl rfl) rfl clf_10 (by decide) rfl (by decide) wd_293,
    st_bipush hC (n := 19) (x := 6) (dc_X10_readStep 19 (43, .bipush 6, 2) rfl rfl) rfl (by decide),
    st_callV hC (n := 20) (k := 4) (na := 1) (con_X4_fail l) (dc_X10_readStep 20 (45, .invokevirtual 75, 3) rfl rfl) rfl wd_878 wd_144 (by decide) ⟨rfl, rfl, by decide, by decide⟩ hM wd_992 wd_876 wd_877 clf_4,
    st_zret hC (n := 21) hR (dc_X10_readStep 21 (48, .ireturn, 1) rfl rfl),
    st_aload_n hC (n := 22) (k := 0) (dc_X10_readStep 22 (49, .aload_n 0, 1) rfl rfl) rfl rfl,
    st_getC hC (n := 23) (k := 10) (j := 0) (dc_X10_readStep 23 (50, .getfield 19, 3) rfl rfl) rfl clf_10 (by decide) rfl (by decide) wd_293,
    st_getI hC (n := 24) (k := 4) (j := 6) (dc_X10_readStep 24 (53, .getfield 34, 3) rfl rfl) rfl clf_4 (by decide) rfl wd_238,
    st_bipush hC (n := 25) (x := 23) (dc_X10_readStep 25 (56, .bipush 23, 2) rfl rfl) rfl (by decide),
    st_iceq hC (n := 26) (dc_X10_readStep 26 (58, .if_icmp .eq 15, 3) rfl rfl) rfl (by decide),
    st_aload_n hC (n := 27) (k := 0) (dc_X10_readStep 27 (61, .aload_n 0, 1) rfl rfl) rfl rfl,
    st_getC hC (n := 28) (k := 10) (j := 0) (dc_X10_readStep 28 (62, .getfield 19, 3) rfl rfl) rfl clf_10 (by decide) rfl (by decide) wd_293,
    st_getI hC (n := 29) (k := 4) (j := 6) (dc_X10_readStep 29 (65, .getfield 34, 3) rfl rfl) rfl clf_4 (by decide) rfl wd_238,
    st_bipush hC (n := 30) (x := 27) (dc_X10_readStep 30 (68, .bipush 27, 2) rfl rfl) rfl (by decide),
    st_icne hC (n := 31) (dc_X10_readStep 31 (70, .if_icmp .ne 7, 3) rfl rfl) rfl (by decide),
    st_iconst hC (n := 32) (x := 1) (dc_X10_readStep 32 (73, .iconst 1, 1) rfl rfl) rfl (by decide),
    st_goto hC (n := 33) (dc_X10_readStep 33 (74, .goto 4, 3) rfl rfl) (by decide),
    st_iconst hC (n := 34) (x := 0) (dc_X10_readStep 34 (77, .iconst 0, 1) rfl rfl) rfl (by decide),
    st_istore_n hC (n := 35) (k := 3) (dc_X10_readStep 35 (78, .istore_n 3, 1) rfl rfl) rfl rfl (by decide),
    st_iload_n hC (n := 36) (k := 3) (dc_X10_readStep 36 (79, .iload_n 3, 1) rfl rfl) rfl rfl,
    st_ifeq hC (n := 37) (dc_X10_readStep 37 (80, .ifCond .eq 21, 3) rfl rfl) rfl (by decide),
    st_aload_n hC (n := 38) (k := 0) (dc_X10_readStep 38 (83, .aload_n 0, 1) rfl rfl) rfl rfl,
    st_getI hC (n := 39) (k := 10) (j := 2) (dc_X10_readStep 39 (84, .getfield 15, 3) rfl rfl) rfl clf_10 (by decide) rfl wd_295,
    st_iconst hC (n := 40) (x := 3) (dc_X10_readStep 40 (87, .iconst 3, 1) rfl rfl) rfl (by decide),
    st_iclt hC (n := 41) (dc_X10_readStep 41 (88, .if_icmp .lt 13, 3) rfl rfl) rfl (by decide),
    st_aload_n hC (n := 42) (k := 0) (dc_X10_readStep 42 (91, .aload_n 0, 1) rfl rfl) rfl rfl,
    st_getC hC (n := 43) (k := 10) (j := 0) (dc_X10_readStep 43 (92, .getfield 19, 3) rfl rfl) rfl clf_10 (by decide) rfl (by decide) wd_293,
    st_bipush hC (n := 44) (x := 7) (dc_X10_readStep 44 (95, .bipush 7, 2) rfl rfl) rfl (by decide),
    st_callV hC (n := 45) (k := 4) (na := 1) (con_X4_fail l) (dc_X10_readStep 45 (97, .invokevirtual 75, 3) rfl rfl) rfl wd_878 wd_144 (by decide) ⟨rfl, rfl, by decide, by decide⟩ hM wd_992 wd_876 wd_877 clf_4,
    st_zret hC (n := 46) hR (dc_X10_readStep 46 (100, .ireturn, 1) rfl rfl),
    st_aload_n hC (n := 47) (k := 1) (dc_X10_readStep 47 (101, .aload_n 1, 1) rfl rfl) rfl rfl,
    st_getR hC (n := 48) (k := 9) (j := 0) (dc_X10_readStep 48 (102, .getfield 63, 3) rfl rfl) rfl clf_9 (by decide) rfl (by decide) wd_512,
    st_aload_n hC (n := 49) (k := 1) (dc_X10_readStep 49 (105, .aload_n 1, 1) rfl rfl) rfl rfl,
    st_getI hC (n := 50) (k := 9) (j := 8) (dc_X10_readStep 50 (106, .getfield 53, 3) rfl rfl) rfl clf_9 (by decide) rfl wd_536,
    st_aload_n hC (n := 51) (k := 0) (dc_X10_readStep 51 (109, .aload_n 0, 1) rfl rfl) rfl rfl,
    st_getC hC (n := 52) (k := 10) (j := 0) (dc_X10_readStep 52 (110, .getfield 19, 3) rfl rfl) rfl clf_10 (by decide) rfl (by decide) wd_293,
    st_getI hC (n := 53) (k := 4) (j := 6) (dc_X10_readStep 53 (113, .getfield 34, 3) rfl rfl) rfl clf_4 (by decide) rfl wd_238,
    st_iast hC (n := 54) (dc_X10_readStep 54 (116, .iastore, 1) rfl rfl) rfl,
    st_aload_n hC (n := 55) (k := 0) (dc_X10_readStep 55 (117, .aload_n 0, 1) rfl rfl) rfl rfl,
    st_getC hC (n := 56) (k := 10) (j := 0) (dc_X10_readStep 56 (118, .getfield 19, 3) rfl rfl) rfl clf_10 (by decide) rfl (by decide) wd_293,
    st_callV hC (n := 57) (k := 4) (na := 0) (con_X4_step l) (dc_X10_readStep 57 (121, .invokevirtual 56, 3) rfl rfl) rfl wd_859 wd_144 (by decide) ⟨rfl, rfl, by decide, by decide⟩ hM wd_983 wd_857 wd_858 clf_4,
    st_aload_n hC (n := 58) (k := 1) (dc_X10_readStep 58 (124, .aload_n 1, 1) rfl rfl) rfl rfl,
    st_getR hC (n := 59) (k := 9) (j := 0) (dc_X10_readStep 59 (125, .getfield 63, 3) rfl rfl) rfl clf_9 (by decide) rfl (by decide) wd_512,
    st_aload_n hC (n := 60) (k := 1) (dc_X10_readStep 60 (128, .aload_n 1, 1) rfl rfl) rfl rfl,
    st_getI hC (n := 61) (k := 9) (j := 8) (dc_X10_readStep 61 (129, .getfield 53, 3) rfl rfl) rfl clf_9 (by decide) rfl wd_536,
    st_iald hC (n := 62) (dc_X10_readStep 62 (132, .iaload, 1) rfl rfl) rfl,
    st_bipush hC (n := 63) (x := 23) (dc_X10_readStep 63 (133, .bipush 23, 2) rfl rfl) rfl (by decide),
    st_icne hC (n := 64) (dc_X10_readStep 64 (135, .if_icmp .ne 12, 3) rfl rfl) rfl (by decide),
    st_aload_n hC (n := 65) (k := 0) (dc_X10_readStep 65 (138, .aload_n 0, 1) rfl rfl) rfl rfl,
    st_aload_n hC (n := 66) (k := 1) (dc_X10_readStep 66 (139, .aload_n 1, 1) rfl rfl) rfl rfl,
    st_aload_n hC (n := 67) (k := 2) (dc_X10_readStep 67 (140, .aload_n 2, 1) rfl rfl) rfl rfl,
    st_callV hC (n := 68) (k := 10) (na := 2) (con_X10_readTest l) (dc_X10_readStep 68 (141, .invokevirtual 78, 3) rfl rfl) rfl wd_996 wd_150 (by decide) ⟨rfl, rfl, by decide, by decide⟩ hM wd_993 wd_995 wd_20 clf_10,
    st_goto hC (n := 69) (dc_X10_readStep 69 (144, .goto 9, 3) rfl rfl) (by decide),
    st_aload_n hC (n := 70) (k := 0) (dc_X10_readStep 70 (147, .aload_n 0, 1) rfl rfl) rfl rfl,
    st_aload_n hC (n := 71) (k := 1) (dc_X10_readStep 71 (148, .aload_n 1, 1) rfl rfl) rfl rfl,
    st_aload_n hC (n := 72) (k := 2) (dc_X10_readStep 72 (149, .aload_n 2, 1) rfl rfl) rfl rfl,
    st_callV hC (n := 73) (k := 10) (na := 2) (con_X10_readDeed l) (dc_X10_readStep 73 (150, .invokevirtual 81, 3) rfl rfl) rfl wd_1002 wd_150 (by decide) ⟨rfl, rfl, by decide, by decide⟩ hM wd_999 wd_1001 wd_21 clf_10,
    st_istore hC (n := 74) (dc_X10_readStep 74 (153, .istore 4, 2) rfl rfl) rfl (by decide),
    st_iload hC (n := 75) (dc_X10_readStep 75 (155, .iload 4, 2) rfl rfl) rfl,
    st_ifeq hC (n := 76) (dc_X10_readStep 76 (157, .ifCond .eq 15, 3) rfl rfl) rfl (by decide),
    st_aload_n hC (n := 77) (k := 0) (dc_X10_readStep 77 (160, .aload_n 0, 1) rfl rfl) rfl rfl,
    st_getC hC (n := 78) (k := 10) (j := 0) (dc_X10_readStep 78 (161, .getfield 19, 3) rfl rfl) rfl clf_10 (by decide) rfl (by decide) wd_293,
    st_bipush hC (n := 79) (x := 33) (dc_X10_readStep 79 (164, .bipush 33, 2) rfl rfl) rfl (by decide),
    st_callV hC (n := 80) (k := 4) (na := 1) (con_X4_skip l) (dc_X10_readStep 80 (166, .invokevirtual 59, 3) rfl rfl) rfl wd_900 wd_144 (by decide) ⟨rfl, rfl, by decide, by decide⟩ hM wd_984 wd_898 wd_899 clf_4,
    st_ifne hC (n := 81) (dc_X10_readStep 81 (169, .ifCond .ne 5, 3) rfl rfl) rfl (by decide),
    st_iconst hC (n := 82) (x := 0) (dc_X10_readStep 82 (172, .iconst 0, 1) rfl rfl) rfl (by decide),
    st_zret hC (n := 83) hR (dc_X10_readStep 83 (173, .ireturn, 1) rfl rfl),
    st_iload_n hC (n := 84) (k := 3) (dc_X10_readStep 84 (174, .iload_n 3, 1) rfl rfl) rfl rfl,
    st_ifeq hC (n := 85) (dc_X10_readStep 85 (175, .ifCond .eq 26, 3) rfl rfl) rfl (by decide),
    st_aload_n hC (n := 86) (k := 0) (dc_X10_readStep 86 (178, .aload_n 0, 1) rfl rfl) rfl rfl,
    st_getR hC (n := 87) (k := 10) (j := 1) (dc_X10_readStep 87 (179, .getfield 9, 3) rfl rfl) rfl clf_10 (by decide) rfl (by decide) wd_294,
    st_aload_n hC (n := 88) (k := 0) (dc_X10_readStep 88 (182, .aload_n 0, 1) rfl rfl) rfl rfl,
    st_getI hC (n := 89) (k := 10) (j := 2) (dc_X10_readStep 89 (183, .getfield 15, 3) rfl rfl) rfl clf_10 (by decide) rfl wd_295,
    st_aload_n hC (n := 90) (k := 1) (dc_X10_readStep 90 (186, .aload_n 1, 1) rfl rfl) rfl rfl,
    st_getI hC (n := 91) (k := 9) (j := 8) (dc_X10_readStep 91 (187, .getfield 53, 3) rfl rfl) rfl clf_9 (by decide) rfl wd_536,
    st_iast hC (n := 92) (dc_X10_readStep 92 (190, .iastore, 1) rfl rfl) rfl,
    st_aload_n hC (n := 93) (k := 0) (dc_X10_readStep 93 (191, .aload_n 0, 1) rfl rfl) rfl rfl,
    st_dup hC (n := 94) (dc_X10_readStep 94 (192, .dup, 1) rfl rfl) rfl,
    st_getI hC (n := 95) (k := 10) (j := 2) (dc_X10_readStep 95 (193, .getfield 15, 3) rfl rfl) rfl clf_10 (by decide) rfl wd_295,
    st_iconst hC (n := 96) (x := 1) (dc_X10_readStep 96 (196, .iconst 1, 1) rfl rfl) rfl (by decide),
    st_iadd hC (n := 97) (dc_X10_readStep 97 (197, .iadd, 1) rfl rfl) rfl,
    st_putI hC (n := 98) (k := 10) (j := 2) (dc_X10_readStep 98 (198, .putfield 15, 3) rfl rfl) rfl clf_10 (by decide) rfl rfl rfl wd_295,
    st_aload_n hC (n := 99) (k := 1) (dc_X10_readStep 99 (201, .aload_n 1, 1) rfl rfl) rfl rfl,
    st_dup hC (n := 100) (dc_X10_readStep 100 (202, .dup, 1) rfl rfl) rfl,
    st_getI hC (n := 101) (k := 9) (j := 8) (dc_X10_readStep 101 (203, .getfield 53, 3) rfl rfl) rfl clf_9 (by decide) rfl wd_536,
    st_iconst hC (n := 102) (x := 1) (dc_X10_readStep 102 (206, .iconst 1, 1) rfl rfl) rfl (by decide),
    st_iadd hC (n := 103) (dc_X10_readStep 103 (207, .iadd, 1) rfl rfl) rfl,
    st_putI hC (n := 104) (k := 9) (j := 8) (dc_X10_readStep 104 (208, .putfield 53, 3) rfl rfl) rfl clf_9 (by decide) rfl rfl rfl wd_536,
    st_aload_n hC (n := 105) (k := 1) (dc_X10_readStep 105 (211, .aload_n 1, 1) rfl rfl) rfl rfl,
    st_dup hC (n := 106) (dc_X10_readStep 106 (212, .dup, 1) rfl rfl) rfl,
    st_getI hC (n := 107) (k := 9) (j := 7) (dc_X10_readStep 107 (213, .getfield 72, 3) rfl rfl) rfl clf_9 (by decide) rfl wd_532,
    st_iconst hC (n := 108) (x := 1) (dc_X10_readStep 108 (216, .iconst 1, 1) rfl rfl) rfl (by decide),
    st_iadd hC (n := 109) (dc_X10_readStep 109 (217, .iadd, 1) rfl rfl) rfl,
    st_putI hC (n := 110) (k := 9) (j := 7) (dc_X10_readStep 110 (218, .putfield 72, 3) rfl rfl) rfl clf_9 (by decide) rfl rfl rfl wd_532,
    st_iconst hC (n := 111) (x := 1) (dc_X10_readStep 111 (221, .iconst 1, 1) rfl rfl) rfl (by decide),
    st_zret hC (n := 112) hR (dc_X10_readStep 112 (222, .ireturn, 1) rfl rfl), trivial⟩
set_option maxRecDepth 8000 in
theorem vc_X10_readStep : VC P_X10_readStep 5 Pre_X10_readStep Fn_X10_readStep := by
  rintro mm as hom hoa ⟨g, v, ⟨ns, nm, nt, na, o, L, S, hJ⟩, rfl⟩
  refine ⟨Nat.le_of_ble_eq_true rfl, fun X h => ?_⟩
  replace h : RUN P_X10_readStep (RT (c10s g v mm)) X := h
  have L60 := hJ.2.1.2.2.1.2
  have o3 := hJ.2.1.2.1.2
  have S30 := hJ.2.2.2
  have e8 : mm.1 9 g 8 = nI L := hJ.2.1.2.2.1.1
  have e7 : mm.1 9 g 7 = nI S := hJ.2.2.1
  have e2 : mm.1 10 0 2 = nI o := hJ.2.1.2.1.1
  have s99 : ∀ M p b x, YK M g v ns nm nt na o L S → p = (true, c10n M g) → RUN P_X10_readStep (RT p) X → X 99 [some (vR 10 0), some (vR 9 g), some (vR 6 v), some (vI (b)), some (vI (x))] [] (M) := by
    intro M p b x hM hp h
    show X 99 [some (vR 10 0), some (vR 9 g), some (vR 6 v), some (vI b), some (vI x)] [] M
    refine h (fun _ => false) 3000 99 _ _ _ ?_
    refine And.intro (Or.inr rfl) ?_
    show ((some (vI 1) : Option MV), mI (mI M 9 g 8 ((M.1 9 g 8) + 1)) 9 g 7 (((mI M 9 g 8 ((M.1 9 g 8) + 1)).1 9 g 7) + 1)) = _
    exact PR_t (by rw [hp]; unfold c10n; rw [mI_ne (by decide)])
  have s99o : ∀ M p b x, YK M g v ns nm nt na o L S → p = (true, c10n (c10o M g) g) → RUN P_X10_readStep (RT p) X → X 99 [some (vR 10 0), some (vR 9 g), some (vR 6 v), some (vI (b)), some (vI (x))] [] (c10o M g) := by
    intro M p b x hM hp h
    show X 99 [some (vR 10 0), some (vR 9 g), some (vR 6 v), some (vI b), some (vI x)] [] (c10o M g)
    refine h (fun _ => false) 3000 99 _ _ _ ?_
    refine And.intro (Or.inr rfl) ?_
    show ((some (vI 1) : Option MV), mI (mI (c10o M g) 9 g 8 (((c10o M g).1 9 g 8) + 1)) 9 g 7 (((mI (c10o M g) 9 g 8 (((c10o M g).1 9 g 8) + 1)).1 9 g 7) + 1)) = _
    exact PR_t (by rw [hp]; unfold c10n; rw [mI_ne (by decide)])
  have s84 : ∀ M p b x, YK M g v ns nm nt na o L S → L < 60 → (¬ b = 0 → o < 3) → p = c10z g b M → RUN P_X10_readStep (RT p) X → X 84 [some (vR 10 0), some (vR 9 g), some (vR 6 v), some (vI (b)), some (vI (x))] [] (M) := by
    intro M p b x hM hL ho hp h
    unfold c10z at hp
    show X 84 [some (vR 10 0), some (vR 9 g), some (vR 6 v), some (vI b), some (vI x)] [] M
    refine h (fun i => Nat.beq i 99) 3000 84 _ _ _ ?_
    refine br_c (fun b85 => ?_) (fun b85 => ?_)
    · -- 85: b = 0 taken
      replace b85 : b = 0 := b85
      show X 99 [some (vR 10 0), some (vR 9 g), some (vR 6 v), some (vI b), some (vI x)] [] M
      rw [if_pos b85] at hp
      exact s99 _ _ _ _ hM hp h
    · -- 85: b = 0 on
      replace b85 : ¬ (b = 0) := b85
      refine And.intro (show inb (M.1 10 0 2) (alen 49) = true from (inb_o 3 rfl rfl hM.2.1.2.1.1 (ho b85))) ?_
      show X 99 [some (vR 10 0), some (vR 9 g), some (vR 6 v), some (vI b), some (vI x)] [] (mI (mRow M 49 0 (upd (M.1 49 0) (M.1 10 0 2).toNatClampNeg (M.1 9 g 8))) 10 0 2 ((M.1 10 0 2) + 1))
      rw [if_neg b85] at hp
      exact s99o _ _ _ _ hM hp h
  have s74 : ∀ q p b, YK q.2 g v ns nm nt na o L S → L < 60 → (¬ b = 0 → o < 3) → p = pBd q (c10y g b) → RUN P_X10_readStep (RT p) X → X 74 [some (vR 10 0), some (vR 9 g), some (vR 6 v), some (vI (b)), none] [vI (bI (q.1 = true))] (q.2) := by
    intro q p b hM hL ho hp h
    by_cases c : q.1 = true
    · rw [pBd_t c] at hp
      unfold c10y at hp
      rw [show bI (q.1 = true) = 1 from if_pos c]
      show X 74 [some (vR 10 0), some (vR 9 g), some (vR 6 v), some (vI b), none] [vI 1] q.2
      refine h (fun i => Nat.beq i 84) 3000 74 _ _ _ ?_
      refine br_f (show ¬ (1 = 0) from by decide) ?_
      refine And.intro (show Pre_X4_skip q.2 [vR 4 0, vI 33] from ⟨hM.1.1, _, rfl⟩) ?_
      refine brn_c (fun b81 => ?_) (fun b81 => ?_)
      · -- 81: bI ((skC (q.2) 33).1 = true) = 0 taken
        replace b81 : (skC (q.2) 33).1 = true := bI_n0.mp b81
        show X 84 [some (vR 10 0), some (vR 9 g), some (vR 6 v), some (vI b), some (vI 1)] [] ((skC (q.2) 33).2)
        exact s84 _ _ _ _ (YK_sk hM) hL ho (by rw [hp, pBd_t b81]) h
      · -- 81: bI ((skC (q.2) 33).1 = true) = 0 on
        replace b81 : ¬ ((skC (q.2) 33).1 = true) := bI_0.mp b81
        refine And.intro (Or.inl rfl) ?_
        show ((some (vI 0) : Option MV), (skC (q.2) 33).2) = _
        exact PR_f (by rw [hp, pBd_f b81])
    · rw [pBd_f c] at hp
      rw [show bI (q.1 = true) = 0 from if_neg c]
      show X 74 [some (vR 10 0), some (vR 9 g), some (vR 6 v), some (vI b), none] [vI 0] q.2
      refine h (fun _ => false) 3000 74 _ _ _ ?_
      refine br_t (show 0 = 0 from by decide) ?_
      refine And.intro (Or.inl rfl) ?_
      show ((some (vI 0) : Option MV), q.2) = _
      exact PR_f hp
  have eL : (nI L).toNatClampNeg = L := nI_clamp (by omega)
  have s58 : ∀ M p b, YK M g v ns nm nt na o L S → L < 60 → (¬ b = 0 → o < 3) → p = pBd (c10x g v L M) (c10y g b) → RUN P_X10_readStep (RT p) X → X 58 [some (vR 10 0), some (vR 9 g), some (vR 6 v), some (vI (b)), none] [] (M) := by
    intro M p b hM hL ho hp h
    have z := s74 (c10x g v L M) p b
    unfold c10x at z hp
    have z' := c10x_ok (L' := L) hM
    unfold c10x at z'
    show X 58 [some (vR 10 0), some (vR 9 g), some (vR 6 v), some (vI b), none] [] M
    refine h (fun i => Nat.beq i 74) 3000 58 _ _ _ ?_
    refine And.intro (show inb (M.1 9 g 8) (alen 43) = true from (inb_o 60 rfl rfl hM.2.1.2.2.1.1 hL)) ?_
    refine brn_c (fun b64 => ?_) (fun b64 => ?_)
    · -- 64: M.1 43 g ((M.1 9 g 8).toNatClampNeg) = 23 taken
      replace b64 : ¬ (M.1 43 g ((M.1 9 g 8).toNatClampNeg) = 23) := b64
      (try simp only [show M.1 9 g 8 = nI L from hM.2.1.2.2.1.1, eL] at b64)
      refine And.intro (show Pre_X10_readDeed M [vR 10 0, vR 9 g, vR 6 v] from ⟨g, v, ns, nm, nt, na, L, hM.1, hM.2.1.2.2.1.1, hL, rfl⟩) ?_
      show X 74 [some (vR 10 0), some (vR 9 g), some (vR 6 v), some (vI b), none] [vI (bI ((c10d g v M).1 = true))] ((c10d g v M).2)
      (try simp only [show M.1 9 g 8 = nI L from hM.2.1.2.2.1.1, eL])
      rw [if_neg b64] at z z' hp
      exact z z' hL ho hp h
    · -- 64: M.1 43 g ((M.1 9 g 8).toNatClampNeg) = 23 on
      replace b64 : M.1 43 g ((M.1 9 g 8).toNatClampNeg) = 23 := b64
      (try simp only [show M.1 9 g 8 = nI L from hM.2.1.2.2.1.1, eL] at b64)
      refine And.intro (show Pre_X10_readTest M [vR 10 0, vR 9 g, vR 6 v] from ⟨g, v, ns, nm, nt, na, L, hM.1, hM.2.1.2.2.1.1, hL, rfl⟩) ?_
      show X 74 [some (vR 10 0), some (vR 9 g), some (vR 6 v), some (vI b), none] [vI (bI ((c10t g v M).1 = true))] ((c10t g v M).2)
      (try simp only [show M.1 9 g 8 = nI L from hM.2.1.2.2.1.1, eL])
      rw [if_pos b64] at z z' hp
      exact z z' hL ho hp h
  have s47 : ∀ p b, L < 60 → (¬ b = 0 → o < 3) → p = c10s2 g v L b mm → RUN P_X10_readStep (RT p) X → X 47 [some (vR 10 0), some (vR 9 g), some (vR 6 v), some (vI (b)), none] [] mm := by
    intro p b hL ho hp h
    unfold c10s2 at hp
    show X 47 [some (vR 10 0), some (vR 9 g), some (vR 6 v), some (vI b), none] [] mm
    refine h (fun i => Nat.beq i 58) 3000 47 _ _ _ ?_
    refine And.intro (show inb (mm.1 9 g 8) (alen 43) = true from (inb_o 60 rfl rfl e8 hL)) ?_
    refine And.intro (show Pre_X4_step (mRow mm 43 g (upd (mm.1 43 g) (mm.1 9 g 8).toNatClampNeg (mm.1 4 0 6))) [vR 4 0] from ⟨TXp_mk hJ.1.1 rfl rfl, rfl⟩) ?_
    show X 58 [some (vR 10 0), some (vR 9 g), some (vR 6 v), some (vI b), none] [] (spM (mRow mm 43 g (upd (mm.1 43 g) (mm.1 9 g 8).toNatClampNeg (mm.1 4 0 6))))
    rw [e8, eL]
    exact s58 _ _ _ (YK_sp (YK_43 hJ)) hL ho hp h
  have s35 : ∀ p b, L < 60 → p = c10s1 g v L b mm → RUN P_X10_readStep (RT p) X → X 35 [some (vR 10 0), some (vR 9 g), some (vR 6 v), none, none] [vI (b)] mm := by
    intro p b hL hp h
    unfold c10s1 at hp
    show X 35 [some (vR 10 0), some (vR 9 g), some (vR 6 v), none, none] [vI b] mm
    refine h (fun i => Nat.beq i 47) 3000 35 _ _ _ ?_
    refine br_c (fun b37 => ?_) (fun b37 => ?_)
    · -- 37: b = 0 taken
      replace b37 : b = 0 := b37
      show X 47 [some (vR 10 0), some (vR 9 g), some (vR 6 v), some (vI b), none] [] mm
      rw [if_neg (fun z => z.1 b37)] at hp
      exact s47 _ _ hL (fun z => absurd b37 z) hp h
    · -- 37: b = 0 on
      replace b37 : ¬ (b = 0) := b37
      refine br_c (fun b41 => ?_) (fun b41 => ?_)
      · -- 41: mm.1 10 0 2 < 3 taken
        replace b41 : mm.1 10 0 2 < 3 := b41
        show X 47 [some (vR 10 0), some (vR 9 g), some (vR 6 v), some (vI b), none] [] mm
        rw [if_neg (fun z => Int32.not_lt.mpr z.2 b41)] at hp
        rw [e2, show (3 : Int32) = nI 3 from rfl, nI_ltI (by omega) (by omega)] at b41 
        exact s47 _ _ hL (fun _ => b41) hp h
      · -- 41: mm.1 10 0 2 < 3 on
        replace b41 : ¬ (mm.1 10 0 2 < 3) := b41
        refine And.intro (show Pre_X4_fail mm [vR 4 0, vI 7] from ⟨_, rfl⟩) ?_
        refine And.intro (Or.inl rfl) ?_
        show ((some (vI 0) : Option MV), faC mm 7) = _
        exact PR_f (by rw [hp, if_pos ⟨b37, Int32.not_lt.mp b41⟩])
  have s22 : ∀ p, L < 60 → p = c10s1 g v L (c10b mm) mm → RUN P_X10_readStep (RT p) X → X 22 [some (vR 10 0), some (vR 9 g), some (vR 6 v), none, none] [] mm := by
    intro p hL hp h
    unfold c10b at hp
    show X 22 [some (vR 10 0), some (vR 9 g), some (vR 6 v), none, none] [] mm
    refine h (fun i => Nat.beq i 35) 3000 22 _ _ _ ?_
    refine br_c (fun b26 => ?_) (fun b26 => ?_)
    · -- 26: mm.1 4 0 6 = 23 taken
      replace b26 : mm.1 4 0 6 = 23 := b26
      show X 35 [some (vR 10 0), some (vR 9 g), some (vR 6 v), none, none] [vI 1] mm
      rw [if_pos (Or.inl b26)] at hp
      exact s35 _ _ hL hp h
    · -- 26: mm.1 4 0 6 = 23 on
      replace b26 : ¬ (mm.1 4 0 6 = 23) := b26
      refine brn_c (fun b31 => ?_) (fun b31 => ?_)
      · -- 31: mm.1 4 0 6 = 27 taken
        replace b31 : ¬ (mm.1 4 0 6 = 27) := b31
        show X 35 [some (vR 10 0), some (vR 9 g), some (vR 6 v), none, none] [vI 0] mm
        rw [if_neg (fun z => z.elim b26 b31)] at hp
        exact s35 _ _ hL hp h
      · -- 31: mm.1 4 0 6 = 27 on
        replace b31 : mm.1 4 0 6 = 27 := b31
        show X 35 [some (vR 10 0), some (vR 9 g), some (vR 6 v), none, none] [vI 1] mm
        rw [if_pos (Or.inr b31)] at hp
        exact s35 _ _ hL hp h
  obtain ⟨p, hp⟩ : ∃ p, p = c10s g v mm := ⟨_, rfl⟩
  rw [← hp] at h
  unfold c10s at hp
  show X 0 [some (vR 10 0), some (vR 9 g), some (vR 6 v), none, none] [] mm
  refine h (fun i => Nat.beq i 22) 3000 0 _ _ _ ?_
  refine And.intro (show Pre_X10_isStep mm [vI (mm.1 4 0 6)] from ⟨_, rfl⟩) ?_
  refine brn_c (fun b4 => ?_) (fun b4 => ?_)
  · -- 4: bI (c10S (mm.1 4 0 6)) = 0 taken
    replace b4 : c10S (mm.1 4 0 6) := bI_n0.mp b4
    refine br_c (fun b12 => ?_) (fun b12 => ?_)
    · -- 12: 30 ≤ mm.1 9 g 7 taken
      replace b12 : 30 ≤ mm.1 9 g 7 := b12
      refine And.intro (show Pre_X4_fail mm [vR 4 0, vI 6] from ⟨_, rfl⟩) ?_
      refine And.intro (Or.inl rfl) ?_
      show ((some (vI 0) : Option MV), faC mm 6) = _
      exact PR_f (by rw [hp, if_pos b4, if_neg (fun z => Int32.not_lt.mpr b12 z.1)])
    · -- 12: 30 ≤ mm.1 9 g 7 on
      replace b12 : ¬ (30 ≤ mm.1 9 g 7) := b12
      refine br_c (fun b16 => ?_) (fun b16 => ?_)
      · -- 16: mm.1 9 g 8 < 60 taken
        replace b16 : mm.1 9 g 8 < 60 := b16
        show X 22 [some (vR 10 0), some (vR 9 g), some (vR 6 v), none, none] [] mm
        rw [if_pos b4, if_pos ⟨Int32.not_le.mp b12, b16⟩, e8, eL] at hp
        rw [e8, show (60 : Int32) = nI 60 from rfl, nI_ltI (by omega) (by omega)] at b16 
        exact s22 _ b16 hp h
      · -- 16: mm.1 9 g 8 < 60 on
        replace b16 : ¬ (mm.1 9 g 8 < 60) := b16
        refine And.intro (show Pre_X4_fail mm [vR 4 0, vI 6] from ⟨_, rfl⟩) ?_
        refine And.intro (Or.inl rfl) ?_
        show ((some (vI 0) : Option MV), faC mm 6) = _
        exact PR_f (by rw [hp, if_pos b4, if_neg (fun z => b16 z.2)])
  · -- 4: bI (c10S (mm.1 4 0 6)) = 0 on
    replace b4 : ¬ (c10S (mm.1 4 0 6)) := bI_0.mp b4
    refine And.intro (show Pre_X4_misplaced mm [vR 4 0] from rfl) ?_
    refine And.intro (Or.inl rfl) ?_
    show ((some (vI 0) : Option MV), miC mm) = _
    exact PR_f (by rw [hp, if_neg b4])
theorem con_X10_readStep (l : Launch) : CON l y_X10_readStep prog_12_method_4_code 5 (some .boolean) rm_X10_readStep Pre_X10_readStep Fn_X10_readStep := CON_of (by decide) rfl rfl (sa_X10_readStep l) vc_X10_readStep
