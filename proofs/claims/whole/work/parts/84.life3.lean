/-! PART 84: the class: living through the years -/

def c2E (m : MM) (g k : Nat) : Int32 × MM := if m.1 43 g (m.1 48 g k).toNatClampNeg = 27 ∧ ¬ m.1 20 0 (m.1 48 g k).toNatClampNeg ≤ 1 then (m.1 48 g k + 1, mRow m 20 0 (upd (m.1 20 0) (m.1 48 g k).toNatClampNeg (m.1 20 0 (m.1 48 g k).toNatClampNeg - 1))) else (nI k + 1, m)

--tpl ⟨_, {2N}, _, by assumption, by omega, by omega, rfl⟩ || (c2E {m} {g1} {2n}).1 || (c2E {m} {g1} {2n}).2
def Pre_X2_behindEnd : PreT := fun m as => ∃ g k o : Nat, m.1 48 g k = nI o ∧ o < k ∧ k < 60 ∧ as = [vR 2 0, vR 9 g, vI (nI k)]
def Fn_X2_behindEnd : FnT := fun m as => match as with
  | [_, Sum.inr (Sum.inr q), Sum.inl k] => (some (vI (c2E m q.2 k.toNatClampNeg).1), (c2E m q.2 k.toNatClampNeg).2)
  | _ => (none, m)
abbrev y_X2_behindEnd : MethodName := ⟨"GivenUp$Life", "behindEnd", "(LGivenUp$Years;I)I"⟩
def P_X2_behindEnd : List StpT := [s_aload 1, s_getR 9 5 48, s_iload 2, s_iald, s_istore 3, s_aload 1, s_getR 9 0 43, s_iload 3, s_iald, s_ic (27), s_icne 17, s_aload 0, s_getR 2 0 20, s_iload 3, s_iald, s_ic (1), s_icgt 21, s_iload 2, s_ic (1), s_iadd, s_iret, s_aload 0, s_getR 2 0 20, s_iload 3, s_dup2, s_iald, s_ic (1), s_isub, s_iast, s_iload 3, s_ic (1), s_iadd, s_iret]
def pc_X2_behindEnd : Nat → Nat := fun i => [0, 1, 4, 5, 6, 7, 8, 11, 12, 13, 15, 18, 19, 22, 23, 24, 25, 28, 29, 30, 31, 32, 33, 36, 37, 38, 39, 40, 41, 42, 43, 44, 45].getD i 0
def dl_X2_behindEnd : List (Nat × Instr × Nat) := [(0, .aload_n 1, 1), (1, .getfield 54, 3), (4, .iload_n 2, 1), (5, .iaload, 1), (6, .istore_n 3, 1), (7, .aload_n 1, 1), (8, .getfield 43, 3), (11, .iload_n 3, 1), (12, .iaload, 1), (13, .bipush 27, 2), (15, .if_icmp .ne 13, 3), (18, .aload_n 0, 1), (19, .getfield 9, 3), (22, .iload_n 3, 1), (23, .iaload, 1), (24, .iconst 1, 1), (25, .if_icmp .gt 7, 3), (28, .iload_n 2, 1), (29, .iconst 1, 1), (30, .iadd, 1), (31, .ireturn, 1), (32, .aload_n 0, 1), (33, .getfield 9, 3), (36, .iload_n 3, 1), (37, .dup2, 1), (38, .iaload, 1), (39, .iconst 1, 1), (40, .isub, 1), (41, .iastore, 1), (42, .iload_n 3, 1), (43, .iconst 1, 1), (44, .iadd, 1), (45, .ireturn, 1)]
theorem dc_X2_behindEnd : DEC prog_4_method_3_code pc_X2_behindEnd dl_X2_behindEnd := DEC_of (by decide +kernel)
abbrev rm_X2_behindEnd : Room := { frames := 0, cells := 0, slots := 0, locals := 0 }
set_option maxRecDepth 20000 in
theorem sa_X2_behindEnd (l : Launch) : SNDALL l prog_4_method_3_code "GivenUp$Life" 4 (some .int) rm_X2_behindEnd P_X2_behindEnd pc_X2_behindEnd := fun p e s m args below meth c cells slots Q D dA ad A RR hC hR => by
  have hM := RTX_room (R := rm_X2_behindEnd) hR
  exact ⟨st_aload_n hC (n := 0) (k := 1) (dc_X2_behindEnd 0 (0, .aload_n 1, 1) rfl rfl) rfl rfl,
    st_getR hC (n := 1) (k := 9) (j := 5) (dc_X2_behindEnd 1 (1, .getfield 54, 3) rfl rfl) rfl clf_9 (by decide) rfl (by decide) wd_526,
    st_iload_n hC (n := 2) (k := 2) (dc_X2_behindEnd 2 (4, .iload_n 2, 1) rfl rfl) rfl rfl,
    st_iald hC (n := 3) (dc_X2_behindEnd 3 (5, .iaload, 1) rfl rfl) rfl,
    st_istore_n hC (n := 4) (k := 3) (dc_X2_behindEnd 4 (6, .istore_n 3, 1) rfl rfl) rfl rfl (by decide),
    st_aload_n hC (n := 5) (k := 1) (dc_X2_behindEnd 5 (7, .aload_n 1, 1) rfl rfl) rfl rfl,
    st_getR hC (n := 6) (k := 9) (j := 0) (dc_X2_behindEnd 6 (8, .getfield 43, 3) rfl rfl) rfl clf_9 (by decide) rfl (by decide) wd_511,
    st_iload_n hC (n := 7) (k := 3) (dc_X2_behindEnd 7 (11, .iload_n 3, 1) rfl rfl) rfl rfl,
    st_iald hC (n := 8) (dc_X2_behindEnd 8 (12, .iaload, 1) rfl rfl) rfl,
    st_bipush hC (n := 9) (x := 27) (dc_X2_behindEnd 9 (13, .bipush 27, 2) rfl rfl) rfl (by decide),
    st_icne hC (n := 10) (dc_X2_behindEnd 10 (15, .if_icmp .ne 13, 3) rfl rfl) rfl (by decide),
    st_aload_n hC (n := 11) (k := 0) (dc_X2_behindEnd 11 (18, .aload_n 0, 1) rfl rfl) rfl rfl,
    st_getR hC (n := 12) (k := 2) (j := 0) (dc_X2_behindEnd 12 (19, .getfield 9, 3) rfl rfl) rfl clf_2 (by decide) rfl (by decide) wd_437,
    st_iload_n hC (n := 13) (k := 3) (dc_X2_behindEnd 13 (22, .iload_n 3, 1) rfl rfl) rfl rfl,
    st_iald hC (n := 14) (dc_X2_behindEnd 14 (23, .iaload, 1) rfl rfl) rfl,
    st_iconst hC (n := 15) (x := 1) (dc_X2_behindEnd 15 (24, .iconst 1, 1) rfl rfl) rfl (by decide),
    st_icgt hC (n := 16) (dc_X2_behindEnd 16 (25, .if_icmp .gt 7, 3) rfl rfl) rfl (by decide),
    st_iload_n hC (n := 17) (k := 2) (dc_X2_behindEnd 17 (28, .iload_n 2, 1) rfl rfl) rfl rfl,
    st_iconst hC (n := 18) (x := 1) (dc_X2_behindEnd 18 (29, .iconst 1, 1) rfl rfl) rfl (by decide),
    st_iadd hC (n := 19) (dc_X2_behindEnd 19 (30, .iadd, 1) rfl rfl) rfl,
    st_iret hC (n := 20) hR (dc_X2_behindEnd 20 (31, .ireturn, 1) rfl rfl),
    st_aload_n hC (n := 21) (k := 0) (dc_X2_behindEnd 21 (32, .aload_n 0, 1) rfl rfl) rfl rfl,
    st_getR hC (n := 22) (k := 2) (j := 0) (dc_X2_behindEnd 22 (33, .getfield 9, 3) rfl rfl) rfl clf_2 (by decide) rfl (by decide) wd_437,
    st_iload_n hC (n := 23) (k := 3) (dc_X2_behindEnd 23 (36, .iload_n 3, 1) rfl rfl) rfl rfl,
    st_dup2 hC (n := 24) (dc_X2_behindEnd 24 (37, .dup2, 1) rfl rfl) rfl,
    st_iald hC (n := 25) (dc_X2_behindEnd 25 (38, .iaload, 1) rfl rfl) rfl,
    st_iconst hC (n := 26) (x := 1) (dc_X2_behindEnd 26 (39, .iconst 1, 1) rfl rfl) rfl (by decide),
    st_isub hC (n := 27) (dc_X2_behindEnd 27 (40, .isub, 1) rfl rfl) rfl,
    st_iast hC (n := 28) (dc_X2_behindEnd 28 (41, .iastore, 1) rfl rfl) rfl,
    st_iload_n hC (n := 29) (k := 3) (dc_X2_behindEnd 29 (42, .iload_n 3, 1) rfl rfl) rfl rfl,
    st_iconst hC (n := 30) (x := 1) (dc_X2_behindEnd 30 (43, .iconst 1, 1) rfl rfl) rfl (by decide),
    st_iadd hC (n := 31) (dc_X2_behindEnd 31 (44, .iadd, 1) rfl rfl) rfl,
    st_iret hC (n := 32) hR (dc_X2_behindEnd 32 (45, .ireturn, 1) rfl rfl), trivial⟩
set_option maxRecDepth 8000 in
theorem vc_X2_behindEnd : VC P_X2_behindEnd 4 Pre_X2_behindEnd Fn_X2_behindEnd := by
  rintro mm as hom hoa ⟨g, k, o, eo, ho, hk, rfl⟩
  refine ⟨Nat.le_of_ble_eq_true rfl, fun X h => ?_⟩
  have ek : (nI k).toNatClampNeg = k := nI_clamp (by omega)
  have eoc : (nI o).toNatClampNeg = o := nI_clamp (by omega)
  replace h : RUN P_X2_behindEnd (RI (c2E mm g (nI k).toNatClampNeg)) X := h
  rw [ek] at h
  obtain ⟨p, hp⟩ : ∃ p, p = c2E mm g k := ⟨_, rfl⟩
  rw [← hp] at h
  unfold c2E at hp
  rw [eo, eoc] at hp
  have s5 : X 5 [some (vR 2 0), some (vR 9 g), some (vI (nI k)), some (vI (nI o))] [] mm := by
    show X 5 [some (vR 2 0), some (vR 9 g), some (vI (nI k)), some (vI (nI o))] [] mm
    refine h (fun _ => false) 3000 5 _ _ _ ?_
    refine And.intro (show inb (nI o) (alen 43) = true from (inb_o 60 rfl rfl rfl (by omega))) ?_
    refine brn_c (fun b10 => ?_) (fun b10 => ?_)
    · -- 10: mm.1 43 g ((nI o).toNatClampNeg) = 27 taken
      replace b10 : ¬ (mm.1 43 g ((nI o).toNatClampNeg) = 27) := b10
      (try simp only [eoc] at b10)
      show ((some (vI ((nI k) + 1)) : Option MV), mm) = _
      (try simp only [eoc])
      exact pI_q (by rw [hp, if_neg (fun z => b10 z.1)])
    · -- 10: mm.1 43 g ((nI o).toNatClampNeg) = 27 on
      replace b10 : mm.1 43 g ((nI o).toNatClampNeg) = 27 := b10
      (try simp only [eoc] at b10)
      refine And.intro (show inb (nI o) (alen 20) = true from (inb_o 60 rfl rfl rfl (by omega))) ?_
      refine br_c (fun b16 => ?_) (fun b16 => ?_)
      · -- 16: 1 < mm.1 20 0 ((nI o).toNatClampNeg) taken
        replace b16 : 1 < mm.1 20 0 ((nI o).toNatClampNeg) := b16
        (try simp only [eoc] at b16)
        refine And.intro (show inb (nI o) (alen 20) = true from (inb_o 60 rfl rfl rfl (by omega))) ?_
        refine And.intro (show inb (nI o) (alen 20) = true from (inb_o 60 rfl rfl rfl (by omega))) ?_
        show ((some (vI ((nI o) + 1)) : Option MV), mRow mm 20 0 (upd (mm.1 20 0) (nI o).toNatClampNeg ((mm.1 20 0 ((nI o).toNatClampNeg)) - 1))) = _
        (try simp only [eoc])
        exact pI_q (by rw [hp, if_pos ⟨b10, Int32.not_le.mpr b16⟩])
      · -- 16: 1 < mm.1 20 0 ((nI o).toNatClampNeg) on
        replace b16 : ¬ (1 < mm.1 20 0 ((nI o).toNatClampNeg)) := b16
        (try simp only [eoc] at b16)
        show ((some (vI ((nI k) + 1)) : Option MV), mm) = _
        (try simp only [eoc])
        exact pI_q (by rw [hp, if_neg (fun z => z.2 (Int32.not_lt.mp b16))])
  show X 0 [some (vR 2 0), some (vR 9 g), some (vI (nI k)), none] [] mm
  refine h (fun i => Nat.beq i 5) 3000 0 _ _ _ ?_
  refine And.intro (show inb (nI k) (alen 48) = true from (inb_o 60 rfl rfl rfl (by omega))) ?_
  show X 5 [some (vR 2 0), some (vR 9 g), some (vI (nI k)), some (vI (mm.1 48 g ((nI k).toNatClampNeg)))] [] mm
  rw [ek, eo]
  exact s5
theorem con_X2_behindEnd (l : Launch) : CON l y_X2_behindEnd prog_4_method_3_code 4 (some .int) rm_X2_behindEnd Pre_X2_behindEnd Fn_X2_behindEnd := CON_of (by decide) rfl rfl (sa_X2_behindEnd l) vc_X2_behindEnd
def c2K (m : MM) (g k : Nat) : Int32 × MM := (nI k + 1, if (c2d m g k).1 = true then (c2d m g k).2 else mRow (c2d m g k).2 21 0 (upd ((c2d m g k).2.1 21 0) 0 ((c2d m g k).2.1 21 0 0 + 1)))
def c2Q (m : MM) (g k : Nat) (c : Int32) : Int32 × MM := if c = 29 then (m.1 9 g 8, m) else if c = 27 then (nI k + 1, mRow m 20 0 (upd (m.1 20 0) k (m.1 47 g k))) else if c = 24 ∨ c = 25 ∨ c = 26 then (if c2t m g k then nI k + 1 else m.1 48 g k + 1, m) else c2K m g k
theorem c2Q_29 {m : MM} {g k : Nat} : c2Q m g k 29 = (m.1 9 g 8, m) := rfl
theorem c2Q_27 {m : MM} {g k : Nat} : c2Q m g k 27 = (nI k + 1, mRow m 20 0 (upd (m.1 20 0) k (m.1 47 g k))) := rfl
theorem c2Q_t {m : MM} {g k : Nat} {c : Int32} (h : c = 24 ∨ c = 25 ∨ c = 26) : c2Q m g k c = (if c2t m g k then nI k + 1 else m.1 48 g k + 1, m) := by
  unfold c2Q
  rw [if_neg (by rcases h with e | e | e <;> rw [e] <;> decide), if_neg (by rcases h with e | e | e <;> rw [e] <;> decide), if_pos h]
theorem c2Q_o {m : MM} {g k : Nat} {c : Int32} (h : ¬ c = 29) (h' : ¬ c = 27) (n : ¬ (c = 24 ∨ c = 25 ∨ c = 26)) : c2Q m g k c = c2K m g k := by
  unfold c2Q
  rw [if_neg h, if_neg h', if_neg n]
/-- while the class lives -/
def LVc (m : MM) (g ns nm nt L : Nat) : Prop := VC2 m g ns nm nt ∧ (m.1 9 g 8 = nI L ∧ L ≤ 60) ∧ (∀ k, k < L → YLc m g ns nm nt L k) ∧ ∃ d, d < 65536 ∧ m.1 2 0 3 = nI d
theorem YLc_s {m m' : MM} {g ns nm nt L k : Nat} (h : YLc m g ns nm nt L k) (hs : SML m m') : YLc m' g ns nm nt L k := by
  unfold YLc
  rw [hs 43 g (by decide), hs 44 g (by decide), hs 45 g (by decide), hs 48 g (by decide)]
  exact h
theorem LVc_s {m m' : MM} {g ns nm nt L : Nat} (h : LVc m g ns nm nt L) (hq : LQ m m' g) : LVc m' g ns nm nt L := by
  obtain ⟨h1, h2, h3, h4⟩ := h
  refine ⟨VC2_d h1 hq.1 hq.2.1, ?_, fun k hk => YLc_s (h3 k hk) hq.1, hq.2.2⟩
  rw [hq.1 9 g (by decide)]
  exact h2
theorem LQ_R {m m' : MM} {g k j : Nat} {f : Nat → Int32} (hk : k = 20 ∨ k = 21) (h : LQ m m' g) : LQ m (mRow m' k j f) g := by
  obtain ⟨h1, h2, h3⟩ := h
  rcases hk with rfl | rfl
  · exact ⟨SML_R (by decide) h1, h2, h3⟩
  · exact ⟨SML_R (by decide) h1, h2, h3⟩
theorem LQ_n {m : MM} {g w : Nat} {p : PR} (h : LQ m p.2 g) : LQ m (c2n w p).2 g := LQ_R (Or.inr rfl) h
theorem LQ_r {m : MM} {g ns nm nt L : Nat} (h : LVc m g ns nm nt L) : LQ m m g := ⟨SML_r m, DDo_of h.1, h.2.2.2⟩
theorem c2g_ok {m : MM} {g ns nm nt L : Nat} {s : Int32} (h : LVc m g ns nm nt L) : LQ m (c2g m g s).2 g := by
  unfold c2g
  split
  · exact LQ_r h
  · have hM : LQ m (c2gM m) g := ⟨SML_R (by decide) (SML_r m), DDo_of h.1, _, Nat.mod_lt _ (by omega), mI_eq2⟩
    revert hM
    generalize c2gM m = M
    intro hM
    unfold c2gO
    split
    · exact LQ_pM (fun _ => ⟨SML_t hM.1 (SML_cg _ _ _ _), DDo_cg hM.2.1 (by decide), hM.2.2⟩) hM
    · exact hM
theorem c2d_ok {m : MM} {g ns nm nt L k : Nat} (h : LVc m g ns nm nt L) (hk : k < L) : LQ m (c2d m g k).2 g := by
  have hr := LQ_r h
  have cgq : ∀ f t, f ≠ 4 → LQ m (cgM m g f t) g := fun f t hf => ⟨SML_cg _ _ _ _, DDo_cg hr.2.1 hf, hr.2.2⟩
  obtain ⟨y1, y2, y3, y4, y5⟩ := h.2.2.1 k hk
  have ns4 := h.1.1.1.2
  have nm4 := h.1.1.2.1.2
  unfold c2d c2dQ
  split
  · exact LQ_n (LQ_pM (fun _ => cgq _ _ (by decide)) hr)
  split
  · exact LQ_pM (fun _ => cgq _ _ (by decide)) hr
  split
  · exact LQ_n (c2g_ok h)
  split
  · exact LQ_pM (fun _ => ⟨SML_fe _ _ _, DDo_fe hr.2.1, hr.2.2⟩) hr
  split
  · exact LQ_n (LQ_pM (fun c => ⟨SML_pw _ _, DDo_pw hr.2.1 c, hr.2.2⟩) hr)
  split
  · rename_i e
    obtain ⟨s, hs, es⟩ := y2 (Or.inr (Or.inl e))
    obtain ⟨d, hd, ed⟩ := y3 (Or.inl e)
    rw [es, ed, nI_clamp (show s < 2 ^ 31 by omega), nI_clamp (show d < 2 ^ 31 by omega)]
    exact LQ_n (LQ_pM (fun _ => ⟨SML_mr _ _ _ _, DDo_mr hr.2.1 (by omega) (by omega), hr.2.2⟩) hr)
  · exact hr

--tpl ⟨_, _, _, _, _, {3N}, by assumption, by omega, rfl⟩ || (c2Q {m} {g1} {3n} ({m}.1 43 {g1} {3n})).1 || (c2Q {m} {g1} {3n} ({m}.1 43 {g1} {3n})).2
def Pre_X2_behindStep : PreT := fun m as => ∃ g ns nm nt L k : Nat, LVc m g ns nm nt L ∧ k < L ∧ as = [vR 2 0, vR 6 g, vR 9 g, vI (nI k)]
def Fn_X2_behindStep : FnT := fun m as => match as with
  | [_, Sum.inr (Sum.inr q), _, Sum.inl k] => (some (vI (c2Q m q.2 k.toNatClampNeg (m.1 43 q.2 k.toNatClampNeg)).1), (c2Q m q.2 k.toNatClampNeg (m.1 43 q.2 k.toNatClampNeg)).2)
  | _ => (none, m)
abbrev y_X2_behindStep : MethodName := ⟨"GivenUp$Life", "behindStep", "(LGivenUp$Valley;LGivenUp$Years;I)I"⟩
def P_X2_behindStep : List StpT := [s_aload 2, s_getR 9 0 43, s_iload 3, s_iald, s_sw (tsw (24) [20, 20, 20, 8, 36, 5]) 36, s_aload 2, s_getI 9 8, s_iret, s_aload 0, s_getR 2 0 20, s_iload 3, s_aload 2, s_getR 9 4 47, s_iload 3, s_iald, s_iast, s_iload 3, s_ic (1), s_iadd, s_iret, s_aload 1, s_aload 2, s_iload 3, s_callS 3 Pre_X2_isTrue Fn_X2_isTrue, s_ifeq 29, s_iload 3, s_ic (1), s_iadd, s_goto 35, s_aload 2, s_getR 9 5 48, s_iload 3, s_iald, s_ic (1), s_iadd, s_iret, s_aload 0, s_aload 1, s_aload 2, s_iload 3, s_callV 2 3 Pre_X2_isDone Fn_X2_isDone, s_ifne 50, s_aload 0, s_getR 2 1 21, s_ic (0), s_dup2, s_iald, s_ic (1), s_iadd, s_iast, s_iload 3, s_ic (1), s_iadd, s_iret]
def pc_X2_behindStep : Nat → Nat := fun i => [0, 1, 4, 5, 6, 44, 45, 48, 49, 50, 53, 54, 55, 58, 59, 60, 61, 62, 63, 64, 65, 66, 67, 68, 71, 74, 75, 76, 77, 80, 81, 84, 85, 86, 87, 88, 89, 90, 91, 92, 93, 96, 99, 100, 103, 104, 105, 106, 107, 108, 109, 110, 111, 112].getD i 0
def dl_X2_behindStep : List (Nat × Instr × Nat) := [(0, .aload_n 2, 1), (1, .getfield 43, 3), (4, .iload_n 3, 1), (5, .iaload, 1), (6, .tableswitch 83 24 29 #[59, 59, 59, 43, 83, 38], 38), (44, .aload_n 2, 1), (45, .getfield 38, 3), (48, .ireturn, 1), (49, .aload_n 0, 1), (50, .getfield 9, 3), (53, .iload_n 3, 1), (54, .aload_n 2, 1), (55, .getfield 57, 3), (58, .iload_n 3, 1), (59, .iaload, 1), (60, .iastore, 1), (61, .iload_n 3, 1), (62, .iconst 1, 1), (63, .iadd, 1), (64, .ireturn, 1), (65, .aload_n 1, 1), (66, .aload_n 2, 1), (67, .iload_n 3, 1), (68, .invokestatic 60, 3), (71, .ifCond .eq 9, 3), (74, .iload_n 3, 1), (75, .iconst 1, 1), (76, .iadd, 1), (77, .goto 11, 3), (80, .aload_n 2, 1), (81, .getfield 54, 3), (84, .iload_n 3, 1), (85, .iaload, 1), (86, .iconst 1, 1), (87, .iadd, 1), (88, .ireturn, 1), (89, .aload_n 0, 1), (90, .aload_n 1, 1), (91, .aload_n 2, 1), (92, .iload_n 3, 1), (93, .invokevirtual 64, 3), (96, .ifCond .ne 13, 3), (99, .aload_n 0, 1), (100, .getfield 15, 3), (103, .iconst 0, 1), (104, .dup2, 1), (105, .iaload, 1), (106, .iconst 1, 1), (107, .iadd, 1), (108, .iastore, 1), (109, .iload_n 3, 1), (110, .iconst 1, 1), (111, .iadd, 1), (112, .ireturn, 1)]
theorem dc_X2_behindStep : DEC prog_4_method_4_code pc_X2_behindStep dl_X2_behindStep := DEC_of (by decide +kernel)
abbrev rm_X2_behindStep : Room := { frames := 5, cells := 0, slots := 0, locals := 115 }
set_option maxRecDepth 20000 in
theorem sa_X2_behindStep (l : Launch) : SNDALL l prog_4_method_4_code "GivenUp$Life" 4 (some .int) rm_X2_behindStep P_X2_behindStep pc_X2_behindStep := fun p e s m args below meth c cells slots Q D dA ad A RR hC hR => by
  have hM := RTX_room (R := rm_X2_behindStep) hR
  exact ⟨st_aload_n hC (n := 0) (k := 2) (dc_X2_behindStep 0 (0, .aload_n 2, 1) rfl rfl) rfl rfl,
    st_getR hC (n := 1) (k := 9) (j := 0) (dc_X2_behindStep 1 (1, .getfield 43, 3) rfl rfl) rfl clf_9 (by decide) rfl (by decide) wd_511,
    st_iload_n hC (n := 2) (k := 3) (dc_X2_behindStep 2 (4, .iload_n 3, 1) rfl rfl) rfl rfl,
    st_iald hC (n := 3) (dc_X2_behindStep 3 (5, .iaload, 1) rfl rfl) rfl,
    st_table hC (n := 4) (ts := [20, 20, 20, 8, 36, 5]) (dc_X2_behindStep 4 (6, .tableswitch 83 24 29 #[59, 59, 59, 43, 83, 38], 38) rfl rfl) (by decide) (by decide) (by decide) (by decide) (swt_of _ _ _ (by decide +kernel)),
    st_aload_n hC (n := 5) (k := 2) (dc_X2_behindStep 5 (44, .aload_n 2, 1) rfl rfl) rfl rfl,
    st_getI hC (n := 6) (k := 9) (j := 8) (dc_X2_behindStep 6 (45, .getfield 38, 3) rfl rfl) rfl clf_9 (by decide) rfl wd_535,
    st_iret hC (n := 7) hR (dc_X2_behindStep 7 (48, .ireturn, 1) rfl rfl),
    st_aload_n hC (n := 8) (k := 0) (dc_X2_behindStep 8 (49, .aload_n 0, 1) rfl rfl) rfl rfl,
    st_getR hC (n := 9) (k := 2) (j := 0) (dc_X2_behindStep 9 (50, .getfield 9, 3) rfl rfl) rfl clf_2 (by decide) rfl (by decide) wd_437,
    st_iload_n hC (n := 10) (k := 3) (dc_X2_behindStep 10 (53, .iload_n 3, 1) rfl rfl) rfl rfl,
    st_aload_n hC (n := 11) (k := 2) (dc_X2_behindStep 11 (54, .aload_n 2, 1) rfl rfl) rfl rfl,
    st_getR hC (n := 12) (k := 9) (j := 4) (dc_X2_behindStep 12 (55, .getfield 57, 3) rfl rfl) rfl clf_9 (by decide) rfl (by decide) wd_523,
    st_iload_n hC (n := 13) (k := 3) (dc_X2_behindStep 13 (58, .iload_n 3, 1) rfl rfl) rfl rfl,
    st_iald hC (n := 14) (dc_X2_behindStep 14 (59, .iaload, 1) rfl rfl) rfl,
    st_iast hC (n := 15) (dc_X2_behindStep 15 (60, .iastore, 1) rfl rfl) rfl,
    st_iload_n hC (n := 16) (k := 3) (dc_X2_behindStep 16 (61, .iload_n 3, 1) rfl rfl) rfl rfl,
    st_iconst hC (n := 17) (x := 1) (dc_X2_behindStep 17 (62, .iconst 1, 1) rfl rfl) rfl (by decide),
    st_iadd hC (n := 18) (dc_X2_behindStep 18 (63, .iadd, 1) rfl rfl) rfl,
    st_iret hC (n := 19) hR (dc_X2_behindStep 19 (64, .ireturn, 1) rfl rfl),
    st_aload_n hC (n := 20) (k := 1) (dc_X2_behindStep 20 (65, .aload_n 1, 1) rfl rfl) rfl rfl,
    st_aload_n hC (n := 21) (k := 2) (dc_X2_behindStep 21 (66, .aload_n 2, 1) rfl rfl) rfl rfl,
    st_iload_n hC (n := 22) (k := 3) (dc_X2_behindStep 22 (67, .iload_n 3, 1) rfl rfl) rfl rfl,
    st_callS hC (n := 23) (na := 3) (con_X2_isTrue l) (dc_X2_behindStep 23 (68, .invokestatic 60, 3) rfl rfl) rfl wd_1487 wd_154 (by decide) ⟨rfl, rfl, by decide, by decide⟩ hM wd_1485 wd_1486,
    st_ifeq hC (n := 24) (dc_X2_behindStep 24 (71, .ifCond .eq 9, 3) rfl rfl) rfl (by decide),
    st_iload_n hC (n := 25) (k := 3) (dc_X2_behindStep 25 (74, .iload_n 3, 1) rfl rfl) rfl rfl,
    st_iconst hC (n := 26) (x := 1) (dc_X2_behindStep 26 (75, .iconst 1, 1) rfl rfl) rfl (by decide),
    st_iadd hC (n := 27) (dc_X2_behindStep 27 (76, .iadd, 1) rfl rfl) rfl,
    st_goto hC (n := 28) (dc_X2_behindStep 28 (77, .goto 11, 3) rfl rfl) (by decide),
    st_aload_n hC (n := 29) (k := 2) (dc_X2_behindStep 29 (80, .aload_n 2, 1) rfl rfl) rfl rfl,
    st_getR hC (n := 30) (k := 9) (j := 5) (dc_X2_behindStep 30 (81, .getfield 54, 3) rfl rfl) rfl clf_9 (by decide) rfl (by decide) wd_526,
    st_iload_n hC (n := 31) (k := 3) (dc_X2_behindStep 31 (84, .iload_n 3, 1) rfl rfl) rfl rfl,
    st_iald hC (n := 32) (dc_X2_behindStep 32 (85, .iaload, 1) rfl rfl) rfl,
    st_iconst hC (n := 33) (x := 1) (dc_X2_behindStep 33 (86, .iconst 1, 1) rfl rfl) rfl (by decide),
    st_iadd hC (n := 34) (dc_X2_behindStep 34 (87, .iadd, 1) rfl rfl) rfl,
    st_iret hC (n := 35) hR (dc_X2_behindStep 35 (88, .ireturn, 1) rfl rfl),
    st_aload_n hC (n := 36) (k := 0) (dc_X2_behindStep 36 (89, .aload_n 0, 1) rfl rfl) rfl rfl,
    st_aload_n hC (n := 37) (k := 1) (dc_X2_behindStep 37 (90, .aload_n 1, 1) rfl rfl) rfl rfl,
    st_aload_n hC (n := 38) (k := 2) (dc_X2_behindStep 38 (91, .aload_n 2, 1) rfl rfl) rfl rfl,
    st_iload_n hC (n := 39) (k := 3) (dc_X2_behindStep 39 (92, .iload_n 3, 1) rfl rfl) rfl rfl,
    st_callV hC (n := 40) (k := 2) (na := 3) (con_X2_isDone l) (dc_X2_behindStep 40 (93, .invokevirtual 64, 3) rfl rfl) rfl wd_1494 wd_154 (by decide) ⟨rfl, rfl, by decide, by decide⟩ hM wd_1491 wd_1493 wd_46 clf_2,
    st_ifne hC (n := 41) (dc_X2_behindStep 41 (96, .ifCond .ne 13, 3) rfl rfl) rfl (by decide),
    st_aload_n hC (n := 42) (k := 0) (dc_X2_behindStep 42 (99, .aload_n 0, 1) rfl rfl) rfl rfl,
    st_getR hC (n := 43) (k := 2) (j := 1) (dc_X2_behindStep 43 (100, .getfield 15, 3) rfl rfl) rfl clf_2 (by decide) rfl (by decide) wd_438,
    st_iconst hC (n := 44) (x := 0) (dc_X2_behindStep 44 (103, .iconst 0, 1) rfl rfl) rfl (by decide),
    st_dup2 hC (n := 45) (dc_X2_behindStep 45 (104, .dup2, 1) rfl rfl) rfl,
    st_iald hC (n := 46) (dc_X2_behindStep 46 (105, .iaload, 1) rfl rfl) rfl,
    st_iconst hC (n := 47) (x := 1) (dc_X2_behindStep 47 (106, .iconst 1, 1) rfl rfl) rfl (by decide),
    st_iadd hC (n := 48) (dc_X2_behindStep 48 (107, .iadd, 1) rfl rfl) rfl,
    st_iast hC (n := 49) (dc_X2_behindStep 49 (108, .iastore, 1) rfl rfl) rfl,
    st_iload_n hC (n := 50) (k := 3) (dc_X2_behindStep 50 (109, .iload_n 3, 1) rfl rfl) rfl rfl,
    st_iconst hC (n := 51) (x := 1) (dc_X2_behindStep 51 (110, .iconst 1, 1) rfl rfl) rfl (by decide),
    st_iadd hC (n := 52) (dc_X2_behindStep 52 (111, .iadd, 1) rfl rfl) rfl,
    st_iret hC (n := 53) hR (dc_X2_behindStep 53 (112, .ireturn, 1) rfl rfl), trivial⟩
set_option maxRecDepth 8000 in
theorem vc_X2_behindStep : VC P_X2_behindStep 4 Pre_X2_behindStep Fn_X2_behindStep := by
  rintro mm as hom hoa ⟨g, ns, nm, nt, L, k, hV, hk, rfl⟩
  refine ⟨Nat.le_of_ble_eq_true rfl, fun X h => ?_⟩
  have L60 := hV.2.1.2
  have ek : (nI k).toNatClampNeg = k := nI_clamp (by omega)
  replace h : RUN P_X2_behindStep (RI (c2Q mm g (nI k).toNatClampNeg (mm.1 43 g (nI k).toNatClampNeg))) X := h
  rw [ek] at h
  obtain ⟨c, ec⟩ : ∃ c, mm.1 43 g k = c := ⟨_, rfl⟩
  rw [ec] at h
  obtain ⟨p, hp⟩ : ∃ p, p = c2Q mm g k c := ⟨_, rfl⟩
  rw [← hp] at h
  obtain ⟨hVC, hL, hY, d, hd2, hd⟩ := hV
  have tst : (c = 24 ∨ c = 25 ∨ c = 26) → X 20 [some (vR 2 0), some (vR 6 g), some (vR 9 g), some (vI (nI k))] [] mm := by
    intro e
    rw [c2Q_t e] at hp
    show X 20 [some (vR 2 0), some (vR 6 g), some (vR 9 g), some (vI (nI k))] [] mm
    refine h (fun _ => false) 3000 20 _ _ _ ?_
    refine And.intro (show Pre_X2_isTrue mm [vR 6 g, vR 9 g, vI (nI k)] from ⟨g, ns, nm, nt, L, k, hVC, hY k hk, by omega, by rw [ec]; exact e, rfl⟩) ?_
    refine br_c (fun b24 => ?_) (fun b24 => ?_)
    · -- 24: bI (c2t mm g (nI k).toNatClampNeg) = 0 taken
      replace b24 : ¬ (c2t mm g (nI k).toNatClampNeg) := bI_0.mp b24
      (try simp only [ek] at b24)
      refine And.intro (show inb (nI k) (alen 48) = true from (inb_o 60 rfl rfl rfl (by omega))) ?_
      show ((some (vI ((mm.1 48 g ((nI k).toNatClampNeg)) + 1)) : Option MV), mm) = _
      (try simp only [ek])
      exact pI_q (by rw [hp, if_neg b24])
    · -- 24: bI (c2t mm g (nI k).toNatClampNeg) = 0 on
      replace b24 : c2t mm g (nI k).toNatClampNeg := bI_n0.mp b24
      (try simp only [ek] at b24)
      show ((some (vI ((nI k) + 1)) : Option MV), mm) = _
      (try simp only [ek])
      exact pI_q (by rw [hp, if_pos b24])
  have oth : ¬ c = 29 → ¬ c = 27 → ¬ (c = 24 ∨ c = 25 ∨ c = 26) → X 36 [some (vR 2 0), some (vR 6 g), some (vR 9 g), some (vI (nI k))] [] mm := by
    intro n1 n2 n3
    rw [c2Q_o n1 n2 n3] at hp
    unfold c2K at hp
    obtain ⟨q, hq⟩ : ∃ q, q = c2d mm g k := ⟨_, rfl⟩
    rw [← hq] at hp
    have s41 : X 41 [some (vR 2 0), some (vR 6 g), some (vR 9 g), some (vI (nI k))] [vI (bI (q.1 = true))] (q.2) := by
      by_cases b : q.1 = true
      · rw [if_pos b] at hp
        rw [show bI (q.1 = true) = 1 from if_pos b]
        revert hp
        generalize q.2 = M
        intro hp
        show X 41 [some (vR 2 0), some (vR 6 g), some (vR 9 g), some (vI (nI k))] [vI 1] M
        refine h (fun _ => false) 3000 41 _ _ _ ?_
        refine brn_t (show ¬ (1 = 0) from by decide) ?_
        show ((some (vI ((nI k) + 1)) : Option MV), M) = _
        exact pI_q hp
      · rw [if_neg b] at hp
        rw [show bI (q.1 = true) = 0 from if_neg b]
        revert hp
        generalize q.2 = M
        intro hp
        show X 41 [some (vR 2 0), some (vR 6 g), some (vR 9 g), some (vI (nI k))] [vI 0] M
        refine h (fun _ => false) 3000 41 _ _ _ ?_
        refine brn_f (show 0 = 0 from by decide) ?_
        refine And.intro (show inb 0 (alen 21) = true from rfl) ?_
        refine And.intro (show inb 0 (alen 21) = true from rfl) ?_
        show ((some (vI ((nI k) + 1)) : Option MV), mRow M 21 0 (upd (M.1 21 0) 0 ((M.1 21 0 0) + 1))) = _
        exact pI_q hp
    show X 36 [some (vR 2 0), some (vR 6 g), some (vR 9 g), some (vI (nI k))] [] mm
    refine h (fun i => Nat.beq i 41) 3000 36 _ _ _ ?_
    refine And.intro (show Pre_X2_isDone mm [vR 2 0, vR 6 g, vR 9 g, vI (nI k)] from ⟨g, ns, nm, nt, L, k, d, hVC, hY k hk, by omega, hd, hd2, rfl⟩) ?_
    show X 41 [some (vR 2 0), some (vR 6 g), some (vR 9 g), some (vI (nI k))] [vI (bI ((c2d mm g (nI k).toNatClampNeg).1 = true))] ((c2d mm g (nI k).toNatClampNeg).2)
    rw [ek, ← hq]
    exact s41
  have a29 : c = 29 → p = (mm.1 9 g 8, mm) := fun e => by rw [hp, e]; rfl
  have a27 : c = 27 → p = (nI k + 1, mRow mm 20 0 (upd (mm.1 20 0) k (mm.1 47 g k))) := fun e => by rw [hp, e]; rfl
  show X 0 [some (vR 2 0), some (vR 6 g), some (vR 9 g), some (vI (nI k))] [] mm
  refine h (fun i => Nat.beq i 20 || Nat.beq i 36) 3000 0 _ _ _ ?_
  refine And.intro (show inb (nI k) (alen 43) = true from (inb_o 60 rfl rfl rfl (by omega))) ?_
  refine And.intro ⟨fun b4 => ?_, fun b4 => ?_, fun b4 => ?_, fun b4 => ?_, fun b4 => ?_, fun b4 => ?_, trivial⟩ ?_
  · replace b4 : mm.1 43 g ((nI k).toNatClampNeg) = 24 := b4
    (try simp only [ek, ec] at b4)
    show X 20 [some (vR 2 0), some (vR 6 g), some (vR 9 g), some (vI (nI k))] [] mm
    (try simp only [ek, ec])
    exact tst (by rw [b4]; decide)
  · replace b4 : mm.1 43 g ((nI k).toNatClampNeg) = 25 := b4
    (try simp only [ek, ec] at b4)
    show X 20 [some (vR 2 0), some (vR 6 g), some (vR 9 g), some (vI (nI k))] [] mm
    (try simp only [ek, ec])
    exact tst (by rw [b4]; decide)
  · replace b4 : mm.1 43 g ((nI k).toNatClampNeg) = 26 := b4
    (try simp only [ek, ec] at b4)
    show X 20 [some (vR 2 0), some (vR 6 g), some (vR 9 g), some (vI (nI k))] [] mm
    (try simp only [ek, ec])
    exact tst (by rw [b4]; decide)
  · replace b4 : mm.1 43 g ((nI k).toNatClampNeg) = 27 := b4
    (try simp only [ek, ec] at b4)
    refine And.intro (show inb (nI k) (alen 47) = true from (inb_o 60 rfl rfl rfl (by omega))) ?_
    refine And.intro (show inb (nI k) (alen 20) = true from (inb_o 60 rfl rfl rfl (by omega))) ?_
    show ((some (vI ((nI k) + 1)) : Option MV), mRow mm 20 0 (upd (mm.1 20 0) (nI k).toNatClampNeg (mm.1 47 g ((nI k).toNatClampNeg)))) = _
    (try simp only [ek, ec])
    exact pI_q (a27 b4)
  · replace b4 : mm.1 43 g ((nI k).toNatClampNeg) = 28 := b4
    (try simp only [ek, ec] at b4)
    show X 36 [some (vR 2 0), some (vR 6 g), some (vR 9 g), some (vI (nI k))] [] mm
    (try simp only [ek, ec])
    exact oth (by rw [b4]; decide) (by rw [b4]; decide) (by rw [b4]; decide)
  · replace b4 : mm.1 43 g ((nI k).toNatClampNeg) = 29 := b4
    (try simp only [ek, ec] at b4)
    show ((some (vI (mm.1 9 g 8)) : Option MV), mm) = _
    (try simp only [ek, ec])
    exact pI_q (a29 b4)
  · intro b4
    have n4_24 : ¬ mm.1 43 g ((nI k).toNatClampNeg) = 24 := b4 (24, 20) (by decide)
    have n4_25 : ¬ mm.1 43 g ((nI k).toNatClampNeg) = 25 := b4 (25, 20) (by decide)
    have n4_26 : ¬ mm.1 43 g ((nI k).toNatClampNeg) = 26 := b4 (26, 20) (by decide)
    have n4_27 : ¬ mm.1 43 g ((nI k).toNatClampNeg) = 27 := b4 (27, 8) (by decide)
    have n4_28 : ¬ mm.1 43 g ((nI k).toNatClampNeg) = 28 := b4 (28, 36) (by decide)
    have n4_29 : ¬ mm.1 43 g ((nI k).toNatClampNeg) = 29 := b4 (29, 5) (by decide)
    (try simp only [ek, ec] at n4_24)
    (try simp only [ek, ec] at n4_25)
    (try simp only [ek, ec] at n4_26)
    (try simp only [ek, ec] at n4_27)
    (try simp only [ek, ec] at n4_28)
    (try simp only [ek, ec] at n4_29)
    show X 36 [some (vR 2 0), some (vR 6 g), some (vR 9 g), some (vI (nI k))] [] mm
    (try simp only [ek, ec])
    exact oth n4_29 n4_27 (fun z => z.elim n4_24 (fun z => z.elim n4_25 n4_26))
theorem con_X2_behindStep (l : Launch) : CON l y_X2_behindStep prog_4_method_4_code 4 (some .int) rm_X2_behindStep Pre_X2_behindStep Fn_X2_behindStep := CON_of (by decide) rfl rfl (sa_X2_behindStep l) vc_X2_behindStep
def c2R (g : Nat) : Nat → MM → Int32 → MM
  | 0, m, _ => m
  | f + 1, m, k => if k < m.1 9 g 8 then (if m.1 43 g k.toNatClampNeg = 28 then c2R g f (c2E m g k.toNatClampNeg).2 (c2E m g k.toNatClampNeg).1 else if 300 ≤ m.1 2 0 2 then mRow m 21 0 (upd (m.1 21 0) 4 1) else c2R g f (c2Q (mI m 2 0 2 (m.1 2 0 2 + 1)) g k.toNatClampNeg (m.1 43 g k.toNatClampNeg)).2 (c2Q (mI m 2 0 2 (m.1 2 0 2 + 1)) g k.toNatClampNeg (m.1 43 g k.toNatClampNeg)).1) else m
def c20 (m : MM) (seed : Int32) : MM := mI (mI (mRow m 21 0 (flR (m.1 21 0) 0 (alen 21))) 2 0 2 0) 2 0 3 seed
def c2M (m : MM) (g : Nat) (seed : Int32) : MM := c2R g 100000 (c20 m seed) 0
theorem c2E_ok {m : MM} {g ns nm nt L k : Nat} (h : LVc m g ns nm nt L) (hk : k < L) (e : m.1 43 g k = 28) : LVc (c2E m g k).2 g ns nm nt L ∧ ∃ j, j ≤ L ∧ (c2E m g k).1 = nI j := by
  obtain ⟨o, ho, eo⟩ := (h.2.2.1 k hk).2.2.2.1 e
  unfold c2E
  split
  · refine ⟨LVc_s h (LQ_R (Or.inl rfl) (LQ_r h)), o + 1, by omega, ?_⟩
    rw [eo, nI_1]
  · exact ⟨h, k + 1, by omega, nI_1 k⟩
theorem c2Q_ok {m : MM} {g ns nm nt L k : Nat} (h : LVc m g ns nm nt L) (hk : k < L) : LVc (c2Q m g k (m.1 43 g k)).2 g ns nm nt L ∧ ∃ j, j ≤ L ∧ (c2Q m g k (m.1 43 g k)).1 = nI j := by
  by_cases c1 : m.1 43 g k = 29
  · rw [c1, c2Q_29]
    exact ⟨h, L, Nat.le_refl _, h.2.1.1⟩
  by_cases c2 : m.1 43 g k = 27
  · rw [c2, c2Q_27]
    exact ⟨LVc_s h (LQ_R (Or.inl rfl) (LQ_r h)), k + 1, by omega, nI_1 k⟩
  by_cases c3 : m.1 43 g k = 24 ∨ m.1 43 g k = 25 ∨ m.1 43 g k = 26
  · rw [c2Q_t c3]
    refine ⟨h, ?_⟩
    obtain ⟨e, he, ee⟩ := (h.2.2.1 k hk).2.2.2.2 c3
    split
    · exact ⟨k + 1, by omega, nI_1 k⟩
    · exact ⟨e + 1, by omega, by rw [ee, nI_1]⟩
  · rw [c2Q_o c1 c2 c3]
    have hq := c2d_ok h hk
    unfold c2K
    refine ⟨?_, k + 1, by omega, nI_1 k⟩
    split
    · exact LVc_s h hq
    · exact LVc_s h (LQ_R (Or.inr rfl) hq)

--tpl ⟨_, _, _, _, _, {2N}, by assumption, by assumption, by assumption, by omega, rfl⟩ ||  || c2M {m} {g1} {2}
def Pre_X2_run : PreT := fun m as => ∃ g ns nm nt L d : Nat, VC2 m g ns nm nt ∧ (m.1 9 g 8 = nI L ∧ L ≤ 60) ∧ (∀ k, k < L → YLc m g ns nm nt L k) ∧ d < 65536 ∧ as = [vR 2 0, vR 6 g, vI (nI d)]
def Fn_X2_run : FnT := fun m as => match as with
  | [_, Sum.inr (Sum.inr q), Sum.inl d] => (none, c2M m q.2 d)
  | _ => (none, m)
abbrev y_X2_run : MethodName := ⟨"GivenUp$Life", "run", "(LGivenUp$Valley;I)V"⟩
def P_X2_run : List StpT := [s_aload 1, s_getR 6 12 9, s_astore 3, s_aload 0, s_getR 2 1 21, s_ic (0), s_callS 2 Pre_J7_fill_53178 Fn_J7_fill_53178, s_aload 0, s_ic (0), s_putI 2 2, s_aload 0, s_iload 2, s_putI 2 3, s_ic (0), s_istore 4, s_ic (0), s_istore 5, s_iload 5, s_ic (100000), s_icge 60, s_iload 4, s_aload 3, s_getI 9 8, s_icge 60, s_aload 3, s_getR 9 0 43, s_iload 4, s_iald, s_ic (28), s_icne 36, s_aload 0, s_aload 3, s_iload 4, s_callV 2 2 Pre_X2_behindEnd Fn_X2_behindEnd, s_istore 4, s_goto 58, s_aload 0, s_getI 2 2, s_ic (300), s_iclt 46, s_aload 0, s_getR 2 1 21, s_ic (4), s_ic (1), s_iast, s_vret, s_aload 0, s_dup, s_getI 2 2, s_ic (1), s_iadd, s_putI 2 2, s_aload 0, s_aload 1, s_aload 3, s_iload 4, s_callV 2 3 Pre_X2_behindStep Fn_X2_behindStep, s_istore 4, s_iinc 5 (1), s_goto 17, s_vret]
def pc_X2_run : Nat → Nat := fun i => [0, 1, 4, 5, 6, 9, 10, 13, 14, 15, 18, 19, 20, 23, 24, 26, 27, 29, 31, 33, 36, 38, 39, 42, 45, 46, 49, 51, 52, 54, 57, 58, 59, 61, 64, 66, 69, 70, 73, 76, 79, 80, 83, 84, 85, 86, 87, 88, 89, 92, 93, 94, 97, 98, 99, 100, 102, 105, 107, 110, 113].getD i 0
def dl_X2_run : List (Nat × Instr × Nat) := [(0, .aload_n 1, 1), (1, .getfield 25, 3), (4, .astore_n 3, 1), (5, .aload_n 0, 1), (6, .getfield 15, 3), (9, .iconst 0, 1), (10, .invokestatic 31, 3), (13, .aload_n 0, 1), (14, .iconst 0, 1), (15, .putfield 18, 3), (18, .aload_n 0, 1), (19, .iload_n 2, 1), (20, .putfield 22, 3), (23, .iconst 0, 1), (24, .istore 4, 2), (26, .iconst 0, 1), (27, .istore 5, 2), (29, .iload 5, 2), (31, .ldc 37, 2), (33, .if_icmp .ge 80, 3), (36, .iload 4, 2), (38, .aload_n 3, 1), (39, .getfield 38, 3), (42, .if_icmp .ge 71, 3), (45, .aload_n 3, 1), (46, .getfield 43, 3), (49, .iload 4, 2), (51, .iaload, 1), (52, .bipush 28, 2), (54, .if_icmp .ne 15, 3), (57, .aload_n 0, 1), (58, .aload_n 3, 1), (59, .iload 4, 2), (61, .invokevirtual 46, 3), (64, .istore 4, 2), (66, .goto 41, 3), (69, .aload_n 0, 1), (70, .getfield 18, 3), (73, .sipush 300, 3), (76, .if_icmp .lt 11, 3), (79, .aload_n 0, 1), (80, .getfield 15, 3), (83, .iconst 4, 1), (84, .iconst 1, 1), (85, .iastore, 1), (86, .return_, 1), (87, .aload_n 0, 1), (88, .dup, 1), (89, .getfield 18, 3), (92, .iconst 1, 1), (93, .iadd, 1), (94, .putfield 18, 3), (97, .aload_n 0, 1), (98, .aload_n 1, 1), (99, .aload_n 3, 1), (100, .iload 4, 2), (102, .invokevirtual 50, 3), (105, .istore 4, 2), (107, .iinc 5 1, 3), (110, .goto (-81), 3), (113, .return_, 1)]
theorem dc_X2_run : DEC prog_4_method_2_code pc_X2_run dl_X2_run := DEC_of (by decide +kernel)
abbrev rm_X2_run : Room := { frames := 6, cells := 0, slots := 0, locals := 138 }
set_option maxRecDepth 20000 in
theorem sa_X2_run (l : Launch) : SNDALL l prog_4_method_2_code "GivenUp$Life" 6 none rm_X2_run P_X2_run pc_X2_run := fun p e s m args below meth c cells slots Q D dA ad A RR hC hR => by
  have hM := RTX_room (R := rm_X2_run) hR
  exact ⟨st_aload_n hC (n := 0) (k := 1) (dc_X2_run 0 (0, .aload_n 1, 1) rfl rfl) rfl rfl,
    st_getR hC (n := 1) (k := 6) (j := 12) (dc_X2_run 1 (1, .getfield 25, 3) rfl rfl) rfl clf_6 (by decide) rfl (by decide) wd_615,
    st_astore_n hC (n := 2) (k := 3) (dc_X2_run 2 (4, .astore_n 3, 1) rfl rfl) rfl rfl (by decide),
    st_aload_n hC (n := 3) (k := 0) (dc_X2_run 3 (5, .aload_n 0, 1) rfl rfl) rfl rfl,
    st_getR hC (n := 4) (k := 2) (j := 1) (dc_X2_run 4 (6, .getfield 15, 3) rfl rfl) rfl clf_2 (by decide) rfl (by decide) wd_438,
    st_iconst hC (n := 5) (x := 0) (dc_X2_run 5 (9, .iconst 0, 1) rfl rfl) rfl (by decide),
    st_callS hC (n := 6) (na := 2) (con_J7_fill_53178 l) (dc_X2_run 6 (10, .invokestatic 31, 3) rfl rfl) rfl wd_565 wd_158 (by decide) ⟨rfl, rfl, by decide, by decide⟩ hM wd_1475 wd_564,
    st_aload_n hC (n := 7) (k := 0) (dc_X2_run 7 (13, .aload_n 0, 1) rfl rfl) rfl rfl,
    st_iconst hC (n := 8) (x := 0) (dc_X2_run 8 (14, .iconst 0, 1) rfl rfl) rfl (by decide),
    st_putI hC (n := 9) (k := 2) (j := 2) (dc_X2_run 9 (15, .putfield 18, 3) rfl rfl) rfl clf_2 (by decide) rfl rfl rfl wd_440,
    st_aload_n hC (n := 10) (k := 0) (dc_X2_run 10 (18, .aload_n 0, 1) rfl rfl) rfl rfl,
    st_iload_n hC (n := 11) (k := 2) (dc_X2_run 11 (19, .iload_n 2, 1) rfl rfl) rfl rfl,
    st_putI hC (n := 12) (k := 2) (j := 3) (dc_X2_run 12 (20, .putfield 22, 3) rfl rfl) rfl clf_2 (by decide) rfl rfl rfl wd_442,
    st_iconst hC (n := 13) (x := 0) (dc_X2_run 13 (23, .iconst 0, 1) rfl rfl) rfl (by decide),
    st_istore hC (n := 14) (dc_X2_run 14 (24, .istore 4, 2) rfl rfl) rfl (by decide),
    st_iconst hC (n := 15) (x := 0) (dc_X2_run 15 (26, .iconst 0, 1) rfl rfl) rfl (by decide),
    st_istore hC (n := 16) (dc_X2_run 16 (27, .istore 5, 2) rfl rfl) rfl (by decide),
    st_iload hC (n := 17) (dc_X2_run 17 (29, .iload 5, 2) rfl rfl) rfl,
    st_ldc hC (n := 18) (x := 100000) (dc_X2_run 18 (31, .ldc 37, 2) rfl rfl) rfl wd_1476,
    st_icge hC (n := 19) (dc_X2_run 19 (33, .if_icmp .ge 80, 3) rfl rfl) rfl (by decide),
    st_iload hC (n := 20) (dc_X2_run 20 (36, .iload 4, 2) rfl rfl) rfl,
    st_aload_n hC (n := 21) (k := 3) (dc_X2_run 21 (38, .aload_n 3, 1) rfl rfl) rfl rfl,
    st_getI hC (n := 22) (k := 9) (j := 8) (dc_X2_run 22 (39, .getfield 38, 3) rfl rfl) rfl clf_9 (by decide) rfl wd_535,
    st_icge hC (n := 23) (dc_X2_run 23 (42, .if_icmp .ge 71, 3) rfl rfl) rfl (by decide),
    st_aload_n hC (n := 24) (k := 3) (dc_X2_run 24 (45, .aload_n 3, 1) rfl rfl) rfl rfl,
    st_getR hC (n := 25) (k := 9) (j := 0) (dc_X2_run 25 (46, .getfield 43, 3) rfl rfl) rfl clf_9 (by decide) rfl (by decide) wd_511,
    st_iload hC (n := 26) (dc_X2_run 26 (49, .iload 4, 2) rfl rfl) rfl,
    st_iald hC (n := 27) (dc_X2_run 27 (51, .iaload, 1) rfl rfl) rfl,
    st_bipush hC (n := 28) (x := 28) (dc_X2_run 28 (52, .bipush 28, 2) rfl rfl) rfl (by decide),
    st_icne hC (n := 29) (dc_X2_run 29 (54, .if_icmp .ne 15, 3) rfl rfl) rfl (by decide),
    st_aload_n hC (n := 30) (k := 0) (dc_X2_run 30 (57, .aload_n 0, 1) rfl rfl) rfl rfl,
    st_aload_n hC (n := 31) (k := 3) (dc_X2_run 31 (58, .aload_n 3, 1) rfl rfl) rfl rfl,
    st_iload hC (n := 32) (dc_X2_run 32 (59, .iload 4, 2) rfl rfl) rfl,
    st_callV hC (n := 33) (k := 2) (na := 2) (con_X2_behindEnd l) (dc_X2_run 33 (61, .invokevirtual 46, 3) rfl rfl) rfl wd_1480 wd_154 (by decide) ⟨rfl, rfl, by decide, by decide⟩ hM wd_1477 wd_1479 wd_44 clf_2,
    st_istore hC (n := 34) (dc_X2_run 34 (64, .istore 4, 2) rfl rfl) rfl (by decide),
    st_goto hC (n := 35) (dc_X2_run 35 (66, .goto 41, 3) rfl rfl) (by decide),
    st_aload_n hC (n := 36) (k := 0) (dc_X2_run 36 (69, .aload_n 0, 1) rfl rfl) rfl rfl,
    st_getI hC (n := 37) (k := 2) (j := 2) (dc_X2_run 37 (70, .getfield 18, 3) rfl rfl) rfl clf_2 (by decide) rfl wd_440,
    st_sipush hC (n := 38) (x := 300) (dc_X2_run 38 (73, .sipush 300, 3) rfl rfl) rfl (by decide),
    st_iclt hC (n := 39) (dc_X2_run 39 (76, .if_icmp .lt 11, 3) rfl rfl) rfl (by decide),
    st_aload_n hC (n := 40) (k := 0) (dc_X2_run 40 (79, .aload_n 0, 1) rfl rfl) rfl rfl,
    st_getR hC (n := 41) (k := 2) (j := 1) (dc_X2_run 41 (80, .getfield 15, 3) rfl rfl) rfl clf_2 (by decide) rfl (by decide) wd_438,
    st_iconst hC (n := 42) (x := 4) (dc_X2_run 42 (83, .iconst 4, 1) rfl rfl) rfl (by decide),
    st_iconst hC (n := 43) (x := 1) (dc_X2_run 43 (84, .iconst 1, 1) rfl rfl) rfl (by decide),
    st_iast hC (n := 44) (dc_X2_run 44 (85, .iastore, 1) rfl rfl) rfl,
    st_vret hC (n := 45) hR (dc_X2_run 45 (86, .return_, 1) rfl rfl),
    st_aload_n hC (n := 46) (k := 0) (dc_X2_run 46 (87, .aload_n 0, 1) rfl rfl) rfl rfl,
    st_dup hC (n := 47) (dc_X2_run 47 (88, .dup, 1) rfl rfl) rfl,
    st_getI hC (n := 48) (k := 2) (j := 2) (dc_X2_run 48 (89, .getfield 18, 3) rfl rfl) rfl clf_2 (by decide) rfl wd_440,
    st_iconst hC (n := 49) (x := 1) (dc_X2_run 49 (92, .iconst 1, 1) rfl rfl) rfl (by decide),
    st_iadd hC (n := 50) (dc_X2_run 50 (93, .iadd, 1) rfl rfl) rfl,
    st_putI hC (n := 51) (k := 2) (j := 2) (dc_X2_run 51 (94, .putfield 18, 3) rfl rfl) rfl clf_2 (by decide) rfl rfl rfl wd_440,
    st_aload_n hC (n := 52) (k := 0) (dc_X2_run 52 (97, .aload_n 0, 1) rfl rfl) rfl rfl,
    st_aload_n hC (n := 53) (k := 1) (dc_X2_run 53 (98, .aload_n 1, 1) rfl rfl) rfl rfl,
    st_aload_n hC (n := 54) (k := 3) (dc_X2_run 54 (99, .aload_n 3, 1) rfl rfl) rfl rfl,
    st_iload hC (n := 55) (dc_X2_run 55 (100, .iload 4, 2) rfl rfl) rfl,
    st_callV hC (n := 56) (k := 2) (na := 3) (con_X2_behindStep l) (dc_X2_run 56 (102, .invokevirtual 50, 3) rfl rfl) rfl wd_1484 wd_154 (by decide) ⟨rfl, rfl, by decide, by decide⟩ hM wd_1481 wd_1483 wd_45 clf_2,
    st_istore hC (n := 57) (dc_X2_run 57 (105, .istore 4, 2) rfl rfl) rfl (by decide),
    st_iinc hC (n := 58) (x := 1) (dc_X2_run 58 (107, .iinc 5 1, 3) rfl rfl) rfl (by decide) (by decide),
    st_goto hC (n := 59) (dc_X2_run 59 (110, .goto (-81), 3) rfl rfl) (by decide),
    st_vret hC (n := 60) hR (dc_X2_run 60 (113, .return_, 1) rfl rfl), trivial⟩
set_option maxRecDepth 8000 in
theorem vc_X2_run : VC P_X2_run 6 Pre_X2_run Fn_X2_run := by
  rintro mm as hom hoa ⟨g, ns, nm, nt, L, d, hV, hL, hY, hd, rfl⟩
  refine ⟨Nat.le_of_ble_eq_true rfl, fun X h => ?_⟩
  replace h : RUN P_X2_run (fun r m' => (r, m') = (none, c2M mm g (nI d))) X := h
  have L60 := hL.2
  unfold c2M at h
  obtain ⟨N, hN⟩ : ∃ N, N = 100000 := ⟨_, rfl⟩
  rw [← hN] at h
  obtain ⟨M0, e0⟩ : ∃ M0, M0 = c20 mm (nI d) := ⟨_, rfl⟩
  rw [← e0] at h
  have s0 : SML mm (c20 mm (nI d)) := SML_R (by decide) (SML_R (by decide) (SML_R (by decide) (SML_r mm)))
  have h0 : LVc M0 g ns nm nt L := by
    rw [e0]
    refine ⟨VC2_d hV s0 (DDo_of hV), ?_, fun k hk => YLc_s (hY k hk) s0, d, hd, mI_eq2⟩
    rw [s0 9 g (by decide)]
    exact hL
  obtain ⟨R, eR⟩ : ∃ R, R = c2R g N M0 0 := ⟨_, rfl⟩
  rw [← eR] at h
  have eN : (100000 : Int32) = nI N := by rw [hN]; rfl
  have hN2 : N < 2 ^ 31 := by omega
  have loop : ∀ f i M j, i + f = N → LVc M g ns nm nt L → j ≤ L → R = c2R g f M (nI j) → X 17 [some (vR 2 0), some (vR 6 g), some (vI (nI d)), some (vR 9 g), some (vI (nI j)), some (vI (nI i))] [] (M) := by
    intro f
    induction f with
    | zero =>
      intro i M j hi hM hj hR
      have hi2 : i = N := by omega
      rw [c2R] at hR
      show X 17 [some (vR 2 0), some (vR 6 g), some (vI (nI d)), some (vR 9 g), some (vI (nI j)), some (vI (nI i))] [] M
      refine h (fun _ => false) 3000 17 _ _ _ ?_
      refine br_t (show 100000 ≤ nI i from by rw [hi2, eN]; exact Int32.le_refl _) ?_
      show ((none : Option MV), M) = _
      rw [hR]
    | succ f ih =>
      intro i M j hi hM hj hR
      have ej : (nI j).toNatClampNeg = j := nI_clamp (by omega)
      have e8 : M.1 9 g 8 = nI L := hM.2.1.1
      rw [c2R, e8, ej] at hR
      have n19 : ¬ (100000 : Int32) ≤ nI i := by rw [eN]; exact nI_ge (by omega) (by omega)
      have s58 : ∀ M' (v : Int32), LVc M' g ns nm nt L → (∃ q, q ≤ L ∧ v = nI q) → R = c2R g f M' v → X 58 [some (vR 2 0), some (vR 6 g), some (vI (nI d)), some (vR 9 g), some (vI (v)), some (vI (nI i))] [] (M') := by
        intro M' v hM' ⟨q, hq, ev⟩ hR'
        rw [ev] at hR' ⊢
        have z := ih (i + 1) M' q (by omega) hM' hq hR'
        show X 58 [some (vR 2 0), some (vR 6 g), some (vI (nI d)), some (vR 9 g), some (vI (nI q)), some (vI (nI i))] [] M'
        refine h (fun i => Nat.beq i 17) 3000 58 _ _ _ ?_
        show X 17 [some (vR 2 0), some (vR 6 g), some (vI (nI d)), some (vR 9 g), some (vI (nI q)), some (vI ((nI i) + 1))] [] M'
        rw [nI_1]
        exact z
      have s24 : j < L → X 24 [some (vR 2 0), some (vR 6 g), some (vI (nI d)), some (vR 9 g), some (vI (nI j)), some (vI (nI i))] [] (M) := by
        intro hjL
        have c1 : nI j < nI L := by rw [nI_ltI (by omega) (by omega)]; exact hjL
        rw [if_pos c1] at hR
        have st : ¬ M.1 43 g j = 28 → ¬ 300 ≤ M.1 2 0 2 → X 46 [some (vR 2 0), some (vR 6 g), some (vI (nI d)), some (vR 9 g), some (vI (nI j)), some (vI (nI i))] [] (M) := by
          intro n1 n2
          rw [if_neg n1, if_neg n2] at hR
          obtain ⟨M', eM'⟩ : ∃ M', M' = mI M 2 0 2 (M.1 2 0 2 + 1) := ⟨_, rfl⟩
          have e43 : M.1 43 g j = M'.1 43 g j := by rw [eM']; rfl
          rw [← eM', e43] at hR
          have q0 : LVc M' g ns nm nt L := by
            rw [eM']
            obtain ⟨a1, a2, a3, d', a4, a5⟩ := hM
            exact ⟨a1, a2, a3, d', a4, by rw [mI_ne (by decide)]; exact a5⟩
          have q1 := c2Q_ok q0 hjL
          have z := s58 _ _ q1.1 q1.2 hR
          have s52 : X 52 [some (vR 2 0), some (vR 6 g), some (vI (nI d)), some (vR 9 g), some (vI (nI j)), some (vI (nI i))] [] (M') := by
            show X 52 [some (vR 2 0), some (vR 6 g), some (vI (nI d)), some (vR 9 g), some (vI (nI j)), some (vI (nI i))] [] M'
            refine h (fun i => Nat.beq i 58) 3000 52 _ _ _ ?_
            refine And.intro (show Pre_X2_behindStep M' [vR 2 0, vR 6 g, vR 9 g, vI (nI j)] from ⟨g, ns, nm, nt, L, j, q0, hjL, rfl⟩) ?_
            show X 58 [some (vR 2 0), some (vR 6 g), some (vI (nI d)), some (vR 9 g), some (vI ((c2Q (M') g (nI j).toNatClampNeg ((M').1 43 g (nI j).toNatClampNeg)).1)), some (vI (nI i))] [] ((c2Q (M') g (nI j).toNatClampNeg ((M').1 43 g (nI j).toNatClampNeg)).2)
            rw [ej]
            exact z
          show X 46 [some (vR 2 0), some (vR 6 g), some (vI (nI d)), some (vR 9 g), some (vI (nI j)), some (vI (nI i))] [] M
          refine h (fun i => Nat.beq i 52) 3000 46 _ _ _ ?_
          show X 52 [some (vR 2 0), some (vR 6 g), some (vI (nI d)), some (vR 9 g), some (vI (nI j)), some (vI (nI i))] [] (mI M 2 0 2 ((M.1 2 0 2) + 1))
          rw [← eM']
          exact s52
        have en : M.1 43 g j = 28 → X 30 [some (vR 2 0), some (vR 6 g), some (vI (nI d)), some (vR 9 g), some (vI (nI j)), some (vI (nI i))] [] (M) := by
          intro c2
          rw [if_pos c2] at hR
          have q1 := c2E_ok hM hjL c2
          have z := s58 _ _ q1.1 q1.2 hR
          show X 30 [some (vR 2 0), some (vR 6 g), some (vI (nI d)), some (vR 9 g), some (vI (nI j)), some (vI (nI i))] [] M
          refine h (fun i => Nat.beq i 58) 3000 30 _ _ _ ?_
          refine And.intro (show Pre_X2_behindEnd M [vR 2 0, vR 9 g, vI (nI j)] from (by obtain ⟨o, ho, eo⟩ := (hM.2.2.1 j hjL).2.2.2.1 c2; exact ⟨g, j, o, eo, ho, by omega, rfl⟩)) ?_
          show X 58 [some (vR 2 0), some (vR 6 g), some (vI (nI d)), some (vR 9 g), some (vI ((c2E M g (nI j).toNatClampNeg).1)), some (vI (nI i))] [] ((c2E M g (nI j).toNatClampNeg).2)
          rw [ej]
          exact z
        show X 24 [some (vR 2 0), some (vR 6 g), some (vI (nI d)), some (vR 9 g), some (vI (nI j)), some (vI (nI i))] [] M
        refine h (fun i => Nat.beq i 30 || Nat.beq i 46) 3000 24 _ _ _ ?_
        refine And.intro (show inb (nI j) (alen 43) = true from (inb_o 60 rfl rfl rfl (by omega))) ?_
        refine brn_c (fun b29 => ?_) (fun b29 => ?_)
        · -- 29: M.1 43 g ((nI j).toNatClampNeg) = 28 taken
          replace b29 : ¬ (M.1 43 g ((nI j).toNatClampNeg) = 28) := b29
          (try simp only [ej] at b29)
          refine br_c (fun b39 => ?_) (fun b39 => ?_)
          · -- 39: M.1 2 0 2 < 300 taken
            replace b39 : M.1 2 0 2 < 300 := b39
            (try simp only [ej] at b39)
            show X 46 [some (vR 2 0), some (vR 6 g), some (vI (nI d)), some (vR 9 g), some (vI (nI j)), some (vI (nI i))] [] M
            (try simp only [ej])
            exact st b29 (Int32.not_le.mpr b39)
          · -- 39: M.1 2 0 2 < 300 on
            replace b39 : ¬ (M.1 2 0 2 < 300) := b39
            (try simp only [ej] at b39)
            refine And.intro (show inb 4 (alen 21) = true from rfl) ?_
            show ((none : Option MV), mRow M 21 0 (upd (M.1 21 0) 4 1)) = _
            (try simp only [ej])
            rw [hR, if_neg b29, if_pos (Int32.not_lt.mp b39)]
        · -- 29: M.1 43 g ((nI j).toNatClampNeg) = 28 on
          replace b29 : M.1 43 g ((nI j).toNatClampNeg) = 28 := b29
          (try simp only [ej] at b29)
          show X 30 [some (vR 2 0), some (vR 6 g), some (vI (nI d)), some (vR 9 g), some (vI (nI j)), some (vI (nI i))] [] M
          (try simp only [ej])
          exact en b29
      show X 17 [some (vR 2 0), some (vR 6 g), some (vI (nI d)), some (vR 9 g), some (vI (nI j)), some (vI (nI i))] [] M
      refine h (fun i => Nat.beq i 24) 3000 17 _ _ _ ?_
      refine br_f (show ¬ (100000 ≤ nI i) from n19) ?_
      refine br_c (fun b23 => ?_) (fun b23 => ?_)
      · -- 23: M.1 9 g 8 ≤ nI j taken
        replace b23 : M.1 9 g 8 ≤ nI j := b23
        (try simp only [e8] at b23)
        show ((none : Option MV), M) = _
        (try simp only [e8])
        rw [hR, if_neg (Int32.not_lt.mpr b23)]
      · -- 23: M.1 9 g 8 ≤ nI j on
        replace b23 : ¬ (M.1 9 g 8 ≤ nI j) := b23
        (try simp only [e8] at b23)
        show X 24 [some (vR 2 0), some (vR 6 g), some (vI (nI d)), some (vR 9 g), some (vI (nI j)), some (vI (nI i))] [] M
        (try simp only [e8])
        exact s24 (by rw [nI_leI (by omega) (by omega)] at b23; omega)
  have l0 := loop N 0 M0 0 (by omega) h0 (by omega) eR
  rw [e0] at l0
  show X 0 [some (vR 2 0), some (vR 6 g), some (vI (nI d)), none, none, none] [] mm
  refine h (fun i => Nat.beq i 17) 3000 0 _ _ _ ?_
  refine And.intro (show Pre_J7_fill_53178 mm [vR 21 0, vI 0] from ⟨_, _, by decide, _, rfl⟩) ?_
  show X 17 [some (vR 2 0), some (vR 6 g), some (vI (nI d)), some (vR 9 g), some (vI 0), some (vI 0)] [] (mI (mI (mRow mm 21 0 (flR (mm.1 21 0) 0 (alen 21))) 2 0 2 0) 2 0 3 (nI d))
  exact l0
theorem con_X2_run (l : Launch) : CON l y_X2_run prog_4_method_2_code 6 none rm_X2_run Pre_X2_run Fn_X2_run := CON_of (by decide) rfl rfl (sa_X2_run l) vc_X2_run
