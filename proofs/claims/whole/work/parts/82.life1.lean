/-! PART 82: the class: what living keeps; draws -/

theorem abV_k {M m : MM} {g : Nat} (h6 : M.1 6 g = m.1 6 g) (h : ∀ k, 31 ≤ k → k < 40 → M.1 k g = m.1 k g) : ∀ j, j = 0 ∨ j = 1 ∨ j = 2 ∨ j = 4 ∨ j = 5 ∨ 44 ≤ j → abV M g j = abV m g j := by
  intro j hj
  unfold abV lay
  by_cases h12 : j < 12
  · rw [if_pos h12, if_pos h12]
    rcases hj with rfl | rfl | rfl | rfl | rfl | hj
    · show M.1 6 g 13 = _; rw [h6]; rfl
    · show M.1 6 g 14 = _; rw [h6]; rfl
    · show M.1 6 g 15 = _; rw [h6]; rfl
    · show M.1 6 g 17 = _; rw [h6]; rfl
    · show M.1 6 g 18 = _; rw [h6]; rfl
    · omega
  · have hj : 44 ≤ j := by omega
    have t : thF M g = thF m g := by
      funext j
      unfold thF
      simp only [h 35 (by decide) (by decide), h 36 (by decide) (by decide), h 37 (by decide) (by decide)]
    rw [if_neg h12, if_neg (show ¬ j < 28 by omega), if_neg (show ¬ j < 44 by omega), if_neg h12, if_neg (show ¬ j < 28 by omega), if_neg (show ¬ j < 44 by omega), t, h 39 (by decide) (by decide), h 31 (by decide) (by decide)]
/-- while one lives all but the deeds stands -/
def SML (m m' : MM) : Prop := ∀ k j, (k = 6 ∨ k = 9 ∨ (29 < k ∧ k < 50)) → m'.1 k j = m.1 k j
theorem SML_r (m : MM) : SML m m := fun _ _ _ => rfl
theorem SML_t {a b c : MM} (h : SML a b) (h' : SML b c) : SML a c := fun k j z => (h' k j z).trans (h k j z)
theorem SML_R {a b : MM} {k g : Nat} {f : Nat → Int32} (hk : ¬ (k = 6 ∨ k = 9 ∨ (29 < k ∧ k < 50))) (h : SML a b) : SML a (mRow b k g f) := fun k' j z => (show (mRow b k g f).1 k' j = b.1 k' j from if_neg (fun y : k' = k ∧ j = g => hk (y.1 ▸ z))).trans (h k' j z)
/-- the deeds are sound -/
def DDo (m : MM) (g : Nat) : Prop := (∀ s, s < 4 → m.1 18 g s = -1 ∨ ∃ d, d < 4 ∧ m.1 18 g s = nI d) ∧ (∀ d, d < 4 → m.1 19 g d = -1 ∨ ∃ s, s < 4 ∧ m.1 19 g d = nI s) ∧ ∃ w, w ≤ 999 ∧ m.1 1 g 4 = nI w
theorem DDo_of {m : MM} {g ns nm nt : Nat} (h : VC2 m g ns nm nt) : DDo m g := by
  obtain ⟨-, h1, h2, h3⟩ := h
  refine ⟨fun s hs => ?_, fun d hd => ?_, h3⟩
  · have := h1 s hs; rw [ab_mai hs] at this; exact this
  · have := h2 d hd; rw [ab_sui hd] at this; exact this
theorem VC2_d {M m : MM} {g ns nm nt : Nat} (h : VC2 m g ns nm nt) (hs : SML m M) (hd : DDo M g) : VC2 M g ns nm nt := by
  refine ⟨VA_keep h.1 (abV_k (hs 6 g (by decide)) (fun k h1 h2 => hs k g (by omega))), fun s hs => ?_, fun d hd' => ?_, hd.2.2⟩
  · rw [ab_mai hs]; exact hd.1 s hs
  · rw [ab_sui hd']; exact hd.2.1 d hd'
theorem DDo_c {M m : MM} {g : Nat} (h : DDo m g) (h18 : M.1 18 g = m.1 18 g) (h19 : M.1 19 g = m.1 19 g) (h4 : M.1 1 g 4 = m.1 1 g 4) : DDo M g := by
  unfold DDo
  rw [h18, h19, h4]
  exact h
theorem DDo_cg {m : MM} {g f t : Nat} (h : DDo m g) (hf : f ≠ 4) : DDo (cgM m g f t) g := by
  refine DDo_c h rfl rfl ?_
  unfold cgM
  exact mI_ne (by omega)
theorem SML_cg (m : MM) (g f t : Nat) : SML m (cgM m g f t) := SML_R (by decide) (SML_R (by decide) (SML_r m))
theorem DDo_pw {m : MM} {g : Nat} (h : DDo m g) (hw : ¬ m.1 1 g 4 = 999) : DDo (pwM m g) g := by
  obtain ⟨h1, h2, w, h9, e⟩ := h
  refine ⟨h1, h2, w + 1, ?_, ?_⟩
  · have : w ≠ 999 := fun z => hw (by rw [e, z]; rfl)
    omega
  · unfold pwM
    show (mI m 1 g 4 (m.1 1 g 4 + 1)).1 1 g 4 = _
    rw [mI_eq2, e, nI_1]
theorem SML_pw (m : MM) (g : Nat) : SML m (pwM m g) := SML_R (by decide) (SML_R (by decide) (SML_r m))
theorem DDo_mr {m : MM} {g s d : Nat} (h : DDo m g) (hs : s < 4) (hd : d < 4) : DDo (mrM m g s d) g := by
  obtain ⟨h1, h2, h3⟩ := h
  have e18 : (mrM m g s d).1 18 g = upd (m.1 18 g) s (nI d) := by
    rw [show (mrM m g s d).1 18 g = (mRow (mRow m 16 g (upd (m.1 16 g) s (m.1 16 g s - m.1 34 g d))) 18 g (upd (m.1 18 g) s (nI d))).1 18 g from rfl]
    exact mRow_row _ _ _ _
  have e19 : (mrM m g s d).1 19 g = upd (m.1 19 g) d (nI s) := mRow_row _ _ _ _
  refine ⟨fun i hi => ?_, fun i hi => ?_, h3⟩
  · rw [e18]
    by_cases e : i = s
    · rw [e, upd_eq]; exact Or.inr ⟨d, hd, rfl⟩
    · rw [upd_ne e]; exact h1 i hi
  · rw [e19]
    by_cases e : i = d
    · rw [e, upd_eq]; exact Or.inr ⟨s, hs, rfl⟩
    · rw [upd_ne e]; exact h2 i hi
theorem SML_mr (m : MM) (g s d : Nat) : SML m (mrM m g s d) := SML_R (by decide) (SML_R (by decide) (SML_R (by decide) (SML_r m)))
theorem DDo_fe {m : MM} {g t : Nat} (h : DDo m g) : DDo (feM m g t) g := by
  refine DDo_c h rfl rfl ?_
  unfold feM
  exact mI_ne (by decide)
theorem SML_fe (m : MM) (g t : Nat) : SML m (feM m g t) := SML_R (by decide) (SML_R (by decide) (SML_r m))
/-- while one lives: the valley, the draws -/
def LQ (m m' : MM) (g : Nat) : Prop := SML m m' ∧ DDo m' g ∧ ∃ d, d < 65536 ∧ m'.1 2 0 3 = nI d
theorem LQ_pM {p : Prop} [Decidable p] {m a b : MM} {g : Nat} (ha : p → LQ m a g) (hb : LQ m b g) : LQ m (pMi p a b).2 g := by
  unfold pMi
  by_cases h : p
  · rw [if_pos h]; exact ha h
  · rw [if_neg h]; exact hb

--tpl ⟨_, _, by assumption, by omega, by omega, by omega, rfl⟩ || nI (drN ({r 1 2 0 3}).toNatClampNeg / 8 % {1n}) || mI {m} 2 0 3 (nI (drN ({r 1 2 0 3}).toNatClampNeg))
def Pre_X2_draw : PreT := fun m as => ∃ d b : Nat, m.1 2 0 3 = nI d ∧ d < 65536 ∧ 1 ≤ b ∧ b ≤ 12 ∧ as = [vR 2 0, vI (nI b)]
def Fn_X2_draw : FnT := fun m as => match as with
  | [_, Sum.inl b] => (some (vI (nI (drN (m.1 2 0 3).toNatClampNeg / 8 % b.toNatClampNeg))), mI m 2 0 3 (nI (drN (m.1 2 0 3).toNatClampNeg)))
  | _ => (none, m)
abbrev y_X2_draw : MethodName := ⟨"GivenUp$Life", "draw", "(I)I"⟩
def P_X2_draw : List StpT := [s_aload 0, s_aload 0, s_getI 2 3, s_ic (2927), s_imul, s_ic (11129), s_iadd, s_ic (65536), s_irem, s_putI 2 3, s_iload 1, s_ifle 19, s_aload 0, s_getI 2 3, s_ic (8), s_idiv, s_iload 1, s_irem, s_goto 20, s_ic (0), s_iret]
def pc_X2_draw : Nat → Nat := fun i => [0, 1, 2, 5, 8, 9, 12, 13, 15, 16, 19, 20, 23, 24, 27, 29, 30, 31, 32, 35, 36].getD i 0
def dl_X2_draw : List (Nat × Instr × Nat) := [(0, .aload_n 0, 1), (1, .aload_n 0, 1), (2, .getfield 22, 3), (5, .sipush 2927, 3), (8, .imul, 1), (9, .sipush 11129, 3), (12, .iadd, 1), (13, .ldc 127, 2), (15, .irem, 1), (16, .putfield 22, 3), (19, .iload_n 1, 1), (20, .ifCond .le 15, 3), (23, .aload_n 0, 1), (24, .getfield 22, 3), (27, .bipush 8, 2), (29, .idiv, 1), (30, .iload_n 1, 1), (31, .irem, 1), (32, .goto 4, 3), (35, .iconst 0, 1), (36, .ireturn, 1)]
theorem dc_X2_draw : DEC prog_4_method_9_code pc_X2_draw dl_X2_draw := DEC_of (by decide +kernel)
abbrev rm_X2_draw : Room := { frames := 0, cells := 0, slots := 0, locals := 0 }
set_option maxRecDepth 20000 in
theorem sa_X2_draw (l : Launch) : SNDALL l prog_4_method_9_code "GivenUp$Life" 2 (some .int) rm_X2_draw P_X2_draw pc_X2_draw := fun p e s m args below meth c cells slots Q D dA ad A RR hC hR => by
  have hM := RTX_room (R := rm_X2_draw) hR
  exact ⟨st_aload_n hC (n := 0) (k := 0) (dc_X2_draw 0 (0, .aload_n 0, 1) rfl rfl) rfl rfl,
    st_aload_n hC (n := 1) (k := 0) (dc_X2_draw 1 (1, .aload_n 0, 1) rfl rfl) rfl rfl,
    st_getI hC (n := 2) (k := 2) (j := 3) (dc_X2_draw 2 (2, .getfield 22, 3) rfl rfl) rfl clf_2 (by decide) rfl wd_442,
    st_sipush hC (n := 3) (x := 2927) (dc_X2_draw 3 (5, .sipush 2927, 3) rfl rfl) rfl (by decide),
    st_imul hC (n := 4) (dc_X2_draw 4 (8, .imul, 1) rfl rfl) rfl,
    st_sipush hC (n := 5) (x := 11129) (dc_X2_draw 5 (9, .sipush 11129, 3) rfl rfl) rfl (by decide),
    st_iadd hC (n := 6) (dc_X2_draw 6 (12, .iadd, 1) rfl rfl) rfl,
    st_ldc hC (n := 7) (x := 65536) (dc_X2_draw 7 (13, .ldc 127, 2) rfl rfl) rfl wd_1511,
    st_irem hC (n := 8) (dc_X2_draw 8 (15, .irem, 1) rfl rfl) rfl,
    st_putI hC (n := 9) (k := 2) (j := 3) (dc_X2_draw 9 (16, .putfield 22, 3) rfl rfl) rfl clf_2 (by decide) rfl rfl rfl wd_442,
    st_iload_n hC (n := 10) (k := 1) (dc_X2_draw 10 (19, .iload_n 1, 1) rfl rfl) rfl rfl,
    st_ifle hC (n := 11) (dc_X2_draw 11 (20, .ifCond .le 15, 3) rfl rfl) rfl (by decide),
    st_aload_n hC (n := 12) (k := 0) (dc_X2_draw 12 (23, .aload_n 0, 1) rfl rfl) rfl rfl,
    st_getI hC (n := 13) (k := 2) (j := 3) (dc_X2_draw 13 (24, .getfield 22, 3) rfl rfl) rfl clf_2 (by decide) rfl wd_442,
    st_bipush hC (n := 14) (x := 8) (dc_X2_draw 14 (27, .bipush 8, 2) rfl rfl) rfl (by decide),
    st_idiv hC (n := 15) (dc_X2_draw 15 (29, .idiv, 1) rfl rfl) rfl,
    st_iload_n hC (n := 16) (k := 1) (dc_X2_draw 16 (30, .iload_n 1, 1) rfl rfl) rfl rfl,
    st_irem hC (n := 17) (dc_X2_draw 17 (31, .irem, 1) rfl rfl) rfl,
    st_goto hC (n := 18) (dc_X2_draw 18 (32, .goto 4, 3) rfl rfl) (by decide),
    st_iconst hC (n := 19) (x := 0) (dc_X2_draw 19 (35, .iconst 0, 1) rfl rfl) rfl (by decide),
    st_iret hC (n := 20) hR (dc_X2_draw 20 (36, .ireturn, 1) rfl rfl), trivial⟩
set_option maxRecDepth 8000 in
theorem vc_X2_draw : VC P_X2_draw 2 Pre_X2_draw Fn_X2_draw := by
  rintro mm as hom hoa ⟨d, b, hd, hd2, hb1, hb2, rfl⟩
  refine ⟨Nat.le_of_ble_eq_true rfl, fun X h => ?_⟩
  have ed : (nI d).toNatClampNeg = d := nI_clamp (by omega)
  have eb : (nI b).toNatClampNeg = b := nI_clamp (by omega)
  have hF : Fn_X2_draw mm [vR 2 0, vI (nI b)] = (some (vI (nI (drN d / 8 % b))), mI mm 2 0 3 (nI (drN d))) := by
    show (some (vI (nI (drN (mm.1 2 0 3).toNatClampNeg / 8 % (nI b).toNatClampNeg))), mI mm 2 0 3 (nI (drN (mm.1 2 0 3).toNatClampNeg))) = _
    rw [hd, ed, eb]
  rw [hF] at h
  have hdr : drN d < 65536 := Nat.mod_lt _ (by omega)
  have e1 : nI d * 2927 + 11129 - (nI d * 2927 + 11129) / 65536 * 65536 = nI (drN d) := by
    rw [show (2927 : Int32) = nI 2927 from rfl, show (11129 : Int32) = nI 11129 from rfl, show (65536 : Int32) = nI 65536 from rfl, pk_mul, nI_add]
    exact nIrm (by omega) (by omega) (by omega)
  have e2 : nI (drN d) / 8 = nI (drN d / 8) := by
    rw [show (8 : Int32) = nI 8 from rfl]
    exact nIdv (by omega) (by omega) (by omega)
  have e3 : nI (drN d / 8) - nI (drN d / 8) / nI b * nI b = nI (drN d / 8 % b) := nIrm (by omega) (by omega) (by omega)
  show X 0 [some (vR 2 0), some (vI (nI b))] [] mm
  refine h (fun _ => false) 3000 0 _ _ _ ?_
  refine And.intro (by decide) ?_
  refine br_f (show ¬ (nI b ≤ 0) from fun z => by rw [show (0 : Int32) = nI 0 from rfl, nI_leI (by omega) (by omega)] at z; omega) ?_
  refine And.intro (by decide) ?_
  refine And.intro (fun z => by have := (nI_eq (a := b) (b := 0) (by omega) (by omega)).mp z; omega) ?_
  show ((some (vI ((((((mm.1 2 0 3) * 2927) + 11129) - (((mm.1 2 0 3) * 2927) + 11129) / 65536 * 65536) / 8) - (((((mm.1 2 0 3) * 2927) + 11129) - (((mm.1 2 0 3) * 2927) + 11129) / 65536 * 65536) / 8) / (nI b) * (nI b))) : Option MV), mI mm 2 0 3 ((((mm.1 2 0 3) * 2927) + 11129) - (((mm.1 2 0 3) * 2927) + 11129) / 65536 * 65536)) = _
  rw [hd, e1, e2, e3]
theorem con_X2_draw (l : Launch) : CON l y_X2_draw prog_4_method_9_code 2 (some .int) rm_X2_draw Pre_X2_draw Fn_X2_draw := CON_of (by decide) rfl rfl (sa_X2_draw l) vc_X2_draw
/-- it is counted if it was done -/
def c2n (w : Nat) (p : PR) : PR := (p.1, mRow p.2 21 0 (upd (p.2.1 21 0) w (p.2.1 21 0 w + bI (p.1 = true))))

--tpl ⟨{1N}, _, by omega, rfl⟩ || {2} || mRow {m} 21 0 (upd ({r 1 21 0}) {1n} ({m}.1 21 0 {1n} + {2}))
def Pre_X2_counted : PreT := fun _ as => ∃ (w : Nat) (b : Bool), w < 5 ∧ as = [vR 2 0, vI (nI w), vI (bI (b = true))]
def Fn_X2_counted : FnT := fun m as => match as with
  | [_, Sum.inl w, Sum.inl b] => (some (vI b), mRow m 21 0 (upd (m.1 21 0) w.toNatClampNeg (m.1 21 0 w.toNatClampNeg + b)))
  | _ => (none, m)
abbrev y_X2_counted : MethodName := ⟨"GivenUp$Life", "counted", "(IZ)Z"⟩
def P_X2_counted : List StpT := [s_aload 0, s_getR 2 1 21, s_iload 1, s_dup2, s_iald, s_iload 2, s_ifeq 9, s_ic (1), s_goto 10, s_ic (0), s_iadd, s_iast, s_iload 2, s_zret]
def pc_X2_counted : Nat → Nat := fun i => [0, 1, 4, 5, 6, 7, 8, 11, 12, 15, 16, 17, 18, 19].getD i 0
def dl_X2_counted : List (Nat × Instr × Nat) := [(0, .aload_n 0, 1), (1, .getfield 15, 3), (4, .iload_n 1, 1), (5, .dup2, 1), (6, .iaload, 1), (7, .iload_n 2, 1), (8, .ifCond .eq 7, 3), (11, .iconst 1, 1), (12, .goto 4, 3), (15, .iconst 0, 1), (16, .iadd, 1), (17, .iastore, 1), (18, .iload_n 2, 1), (19, .ireturn, 1)]
theorem dc_X2_counted : DEC prog_4_method_7_code pc_X2_counted dl_X2_counted := DEC_of (by decide +kernel)
abbrev rm_X2_counted : Room := { frames := 0, cells := 0, slots := 0, locals := 0 }
set_option maxRecDepth 20000 in
theorem sa_X2_counted (l : Launch) : SNDALL l prog_4_method_7_code "GivenUp$Life" 3 (some .boolean) rm_X2_counted P_X2_counted pc_X2_counted := fun p e s m args below meth c cells slots Q D dA ad A RR hC hR => by
  have hM := RTX_room (R := rm_X2_counted) hR
  exact ⟨st_aload_n hC (n := 0) (k := 0) (dc_X2_counted 0 (0, .aload_n 0, 1) rfl rfl) rfl rfl,
    st_getR hC (n := 1) (k := 2) (j := 1) (dc_X2_counted 1 (1, .getfield 15, 3) rfl rfl) rfl clf_2 (by decide) rfl (by decide) wd_438,
    st_iload_n hC (n := 2) (k := 1) (dc_X2_counted 2 (4, .iload_n 1, 1) rfl rfl) rfl rfl,
    st_dup2 hC (n := 3) (dc_X2_counted 3 (5, .dup2, 1) rfl rfl) rfl,
    st_iald hC (n := 4) (dc_X2_counted 4 (6, .iaload, 1) rfl rfl) rfl,
    st_iload_n hC (n := 5) (k := 2) (dc_X2_counted 5 (7, .iload_n 2, 1) rfl rfl) rfl rfl,
    st_ifeq hC (n := 6) (dc_X2_counted 6 (8, .ifCond .eq 7, 3) rfl rfl) rfl (by decide),
    st_iconst hC (n := 7) (x := 1) (dc_X2_counted 7 (11, .iconst 1, 1) rfl rfl) rfl (by decide),
    st_goto hC (n := 8) (dc_X2_counted 8 (12, .goto 4, 3) rfl rfl) (by decide),
    st_iconst hC (n := 9) (x := 0) (dc_X2_counted 9 (15, .iconst 0, 1) rfl rfl) rfl (by decide),
    st_iadd hC (n := 10) (dc_X2_counted 10 (16, .iadd, 1) rfl rfl) rfl,
    st_iast hC (n := 11) (dc_X2_counted 11 (17, .iastore, 1) rfl rfl) rfl,
    st_iload_n hC (n := 12) (k := 2) (dc_X2_counted 12 (18, .iload_n 2, 1) rfl rfl) rfl rfl,
    st_zret hC (n := 13) hR (dc_X2_counted 13 (19, .ireturn, 1) rfl rfl), trivial⟩
set_option maxRecDepth 8000 in
theorem vc_X2_counted : VC P_X2_counted 3 Pre_X2_counted Fn_X2_counted := by
  rintro mm as hom hoa ⟨w, b, hw, rfl⟩
  refine ⟨Nat.le_of_ble_eq_true rfl, fun X h => ?_⟩
  have ew : (nI w).toNatClampNeg = w := nI_clamp (by omega)
  have hF : Fn_X2_counted mm [vR 2 0, vI (nI w), vI (bI (b = true))] = (some (vI (bI (b = true))), mRow mm 21 0 (upd (mm.1 21 0) w (mm.1 21 0 w + bI (b = true)))) := by
    show (some (vI (bI (b = true))), mRow mm 21 0 (upd (mm.1 21 0) (nI w).toNatClampNeg (mm.1 21 0 (nI w).toNatClampNeg + bI (b = true)))) = _
    rw [ew]
  rw [hF] at h
  cases b with
  | true =>
    rw [show bI (true = true) = 1 from rfl] at h ⊢
    show X 0 [some (vR 2 0), some (vI (nI w)), some (vI 1)] [] mm
    refine h (fun _ => false) 3000 0 _ _ _ ?_
    refine And.intro (show inb (nI w) (alen 21) = true from (inb_o 5 rfl rfl rfl (by omega))) ?_
    refine br_f (show ¬ (1 = 0) from by decide) ?_
    refine And.intro (show inb (nI w) (alen 21) = true from (inb_o 5 rfl rfl rfl (by omega))) ?_
    refine And.intro (Or.inr rfl) ?_
    show ((some (vI 1) : Option MV), mRow mm 21 0 (upd (mm.1 21 0) (nI w).toNatClampNeg ((mm.1 21 0 ((nI w).toNatClampNeg)) + 1))) = _
    (try simp only [ew])
    all_goals exact rfl
  | false =>
    rw [show bI (false = true) = 0 from rfl] at h ⊢
    show X 0 [some (vR 2 0), some (vI (nI w)), some (vI 0)] [] mm
    refine h (fun _ => false) 3000 0 _ _ _ ?_
    refine And.intro (show inb (nI w) (alen 21) = true from (inb_o 5 rfl rfl rfl (by omega))) ?_
    refine br_t (show 0 = 0 from by decide) ?_
    refine And.intro (show inb (nI w) (alen 21) = true from (inb_o 5 rfl rfl rfl (by omega))) ?_
    refine And.intro (Or.inl rfl) ?_
    show ((some (vI 0) : Option MV), mRow mm 21 0 (upd (mm.1 21 0) (nI w).toNatClampNeg ((mm.1 21 0 ((nI w).toNatClampNeg)) + 0))) = _
    (try simp only [ew])
    all_goals exact rfl
theorem con_X2_counted (l : Launch) : CON l y_X2_counted prog_4_method_7_code 3 (some .boolean) rm_X2_counted Pre_X2_counted Fn_X2_counted := CON_of (by decide) rfl rfl (sa_X2_counted l) vc_X2_counted
/-- the one ahead of which stand so many -/
def c2T (S : Int32) : Nat → Nat → Nat → Option Nat
  | 0, _, _ => none
  | k + 1, i, j => if inS S (nI i) then (if j = 0 then some i else c2T S k (i + 1) (j - 1)) else c2T S k (i + 1) j
def c2gS (m : MM) (g : Nat) (s : Int32) : Int32 := myA (abV m g) s (m.1 6 g 15).toNatClampNeg
def c2gM (m : MM) : MM := mI m 2 0 3 (nI (drN (m.1 2 0 3).toNatClampNeg))
def c2gV (g : Nat) (m : MM) (t : Nat) : PR := pMi (mgA (abV m g) t) (cgM m g 5 t) m
def c2gO (g : Nat) (m : MM) : Option Nat → PR
  | some t => c2gV g m t
  | none => (false, m)
def c2g (m : MM) (g : Nat) (s : Int32) : PR := if pcN (c2gS m g s).toNatClampNeg = 0 then (false, m) else c2gO g (c2gM m) (c2T (c2gS m g s) 12 0 (drN (m.1 2 0 3).toNatClampNeg / 8 % pcN (c2gS m g s).toNatClampNeg))

--tpl ⟨_, _, _, _, _, by assumption, by assumption, by omega, _, rfl⟩ || bI ((c2g {m} {g1} {2}).1 = true) || (c2g {m} {g1} {2}).2
def Pre_X2_gaveAny : PreT := fun m as => ∃ g ns nm nt d : Nat, VC2 m g ns nm nt ∧ m.1 2 0 3 = nI d ∧ d < 65536 ∧ ∃ s : Int32, as = [vR 2 0, vR 6 g, vI s]
def Fn_X2_gaveAny : FnT := fun m as => match as with
  | [_, Sum.inr (Sum.inr q), Sum.inl s] => (some (vI (bI ((c2g m q.2 s).1 = true))), (c2g m q.2 s).2)
  | _ => (none, m)
abbrev y_X2_gaveAny : MethodName := ⟨"GivenUp$Life", "gaveAny", "(LGivenUp$Valley;I)Z"⟩
def P_X2_gaveAny : List StpT := [s_aload 1, s_iload 2, s_callV 6 1 Pre_X6_givable Fn_X6_givable, s_istore 3, s_iload 3, s_callS 1 Pre_J6_bitCount_0f7a4 Fn_J6_bitCount_0f7a4, s_istore 4, s_iload 4, s_ifgt 11, s_ic (0), s_zret, s_aload 0, s_iload 4, s_callV 2 1 Pre_X2_draw Fn_X2_draw, s_istore 5, s_ic (0), s_istore 6, s_iload 6, s_ic (12), s_icge 33, s_iload 3, s_iload 6, s_callS 2 Pre_X11_holds Fn_X11_holds, s_ifeq 31, s_iload 5, s_ifne 30, s_aload 1, s_iload 6, s_callV 6 1 Pre_X6_giveUp Fn_X6_giveUp, s_zret, s_iinc 5 (-1), s_iinc 6 (1), s_goto 17, s_ic (0), s_zret]
def pc_X2_gaveAny : Nat → Nat := fun i => [0, 1, 2, 5, 6, 7, 10, 12, 14, 17, 18, 19, 20, 22, 25, 27, 28, 30, 32, 34, 37, 38, 40, 43, 46, 48, 51, 52, 54, 57, 58, 61, 64, 67, 68].getD i 0
def dl_X2_gaveAny : List (Nat × Instr × Nat) := [(0, .aload_n 1, 1), (1, .iload_n 2, 1), (2, .invokevirtual 112, 3), (5, .istore_n 3, 1), (6, .iload_n 3, 1), (7, .invokestatic 116, 3), (10, .istore 4, 2), (12, .iload 4, 2), (14, .ifCond .gt 5, 3), (17, .iconst 0, 1), (18, .ireturn, 1), (19, .aload_n 0, 1), (20, .iload 4, 2), (22, .invokevirtual 121, 3), (25, .istore 5, 2), (27, .iconst 0, 1), (28, .istore 6, 2), (30, .iload 6, 2), (32, .bipush 12, 2), (34, .if_icmp .ge 33, 3), (37, .iload_n 3, 1), (38, .iload 6, 2), (40, .invokestatic 124, 3), (43, .ifCond .eq 18, 3), (46, .iload 5, 2), (48, .ifCond .ne 10, 3), (51, .aload_n 1, 1), (52, .iload 6, 2), (54, .invokevirtual 88, 3), (57, .ireturn, 1), (58, .iinc 5 (-1), 3), (61, .iinc 6 1, 3), (64, .goto (-34), 3), (67, .iconst 0, 1), (68, .ireturn, 1)]
theorem dc_X2_gaveAny : DEC prog_4_method_8_code pc_X2_gaveAny dl_X2_gaveAny := DEC_of (by decide +kernel)
abbrev rm_X2_gaveAny : Room := { frames := 3, cells := 0, slots := 0, locals := 66 }
set_option maxRecDepth 20000 in
theorem sa_X2_gaveAny (l : Launch) : SNDALL l prog_4_method_8_code "GivenUp$Life" 7 (some .boolean) rm_X2_gaveAny P_X2_gaveAny pc_X2_gaveAny := fun p e s m args below meth c cells slots Q D dA ad A RR hC hR => by
  have hM := RTX_room (R := rm_X2_gaveAny) hR
  exact ⟨st_aload_n hC (n := 0) (k := 1) (dc_X2_gaveAny 0 (0, .aload_n 1, 1) rfl rfl) rfl rfl,
    st_iload_n hC (n := 1) (k := 2) (dc_X2_gaveAny 1 (1, .iload_n 2, 1) rfl rfl) rfl rfl,
    st_callV hC (n := 2) (k := 6) (na := 1) (con_X6_givable l) (dc_X2_gaveAny 2 (2, .invokevirtual 112, 3) rfl rfl) rfl wd_1127 wd_155 (by decide) ⟨rfl, rfl, by decide, by decide⟩ hM wd_1505 wd_1125 wd_1126 clf_6,
    st_istore_n hC (n := 3) (k := 3) (dc_X2_gaveAny 3 (5, .istore_n 3, 1) rfl rfl) rfl rfl (by decide),
    st_iload_n hC (n := 4) (k := 3) (dc_X2_gaveAny 4 (6, .iload_n 3, 1) rfl rfl) rfl rfl,
    st_callS hC (n := 5) (na := 1) (con_J6_bitCount_0f7a4 l) (dc_X2_gaveAny 5 (7, .invokestatic 116, 3) rfl rfl) rfl wd_1071 wd_163 (by decide) ⟨rfl, rfl, by decide, by decide⟩ hM wd_1506 wd_1070,
    st_istore hC (n := 6) (dc_X2_gaveAny 6 (10, .istore 4, 2) rfl rfl) rfl (by decide),
    st_iload hC (n := 7) (dc_X2_gaveAny 7 (12, .iload 4, 2) rfl rfl) rfl,
    st_ifgt hC (n := 8) (dc_X2_gaveAny 8 (14, .ifCond .gt 5, 3) rfl rfl) rfl (by decide),
    st_iconst hC (n := 9) (x := 0) (dc_X2_gaveAny 9 (17, .iconst 0, 1) rfl rfl) rfl (by decide),
    st_zret hC (n := 10) hR (dc_X2_gaveAny 10 (18, .ireturn, 1) rfl rfl),
    st_aload_n hC (n := 11) (k := 0) (dc_X2_gaveAny 11 (19, .aload_n 0, 1) rfl rfl) rfl rfl,
    st_iload hC (n := 12) (dc_X2_gaveAny 12 (20, .iload 4, 2) rfl rfl) rfl,
    st_callV hC (n := 13) (k := 2) (na := 1) (con_X2_draw l) (dc_X2_gaveAny 13 (22, .invokevirtual 121, 3) rfl rfl) rfl wd_1510 wd_154 (by decide) ⟨rfl, rfl, by decide, by decide⟩ hM wd_1507 wd_1509 wd_49 clf_2,
    st_istore hC (n := 14) (dc_X2_gaveAny 14 (25, .istore 5, 2) rfl rfl) rfl (by decide),
    st_iconst hC (n := 15) (x := 0) (dc_X2_gaveAny 15 (27, .iconst 0, 1) rfl rfl) rfl (by decide),
    st_istore hC (n := 16) (dc_X2_gaveAny 16 (28, .istore 6, 2) rfl rfl) rfl (by decide),
    st_iload hC (n := 17) (dc_X2_gaveAny 17 (30, .iload 6, 2) rfl rfl) rfl,
    st_bipush hC (n := 18) (x := 12) (dc_X2_gaveAny 18 (32, .bipush 12, 2) rfl rfl) rfl (by decide),
    st_icge hC (n := 19) (dc_X2_gaveAny 19 (34, .if_icmp .ge 33, 3) rfl rfl) rfl (by decide),
    st_iload_n hC (n := 20) (k := 3) (dc_X2_gaveAny 20 (37, .iload_n 3, 1) rfl rfl) rfl rfl,
    st_iload hC (n := 21) (dc_X2_gaveAny 21 (38, .iload 6, 2) rfl rfl) rfl,
    st_callSN hC (n := 22) (na := 2) (con_X11_holds l) (dc_X2_gaveAny 22 (40, .invokestatic 124, 3) rfl rfl) rfl wd_955 wd_143 (by decide) ⟨rfl, rfl, by decide, by decide⟩ hM ⟨"GivenUp", by decide⟩ wd_954,
    st_ifeq hC (n := 23) (dc_X2_gaveAny 23 (43, .ifCond .eq 18, 3) rfl rfl) rfl (by decide),
    st_iload hC (n := 24) (dc_X2_gaveAny 24 (46, .iload 5, 2) rfl rfl) rfl,
    st_ifne hC (n := 25) (dc_X2_gaveAny 25 (48, .ifCond .ne 10, 3) rfl rfl) rfl (by decide),
    st_aload_n hC (n := 26) (k := 1) (dc_X2_gaveAny 26 (51, .aload_n 1, 1) rfl rfl) rfl rfl,
    st_iload hC (n := 27) (dc_X2_gaveAny 27 (52, .iload 6, 2) rfl rfl) rfl,
    st_callV hC (n := 28) (k := 6) (na := 1) (con_X6_giveUp l) (dc_X2_gaveAny 28 (54, .invokevirtual 88, 3) rfl rfl) rfl wd_1098 wd_155 (by decide) ⟨rfl, rfl, by decide, by decide⟩ hM wd_1495 wd_1096 wd_1097 clf_6,
    st_zret hC (n := 29) hR (dc_X2_gaveAny 29 (57, .ireturn, 1) rfl rfl),
    st_iinc hC (n := 30) (x := (-1)) (dc_X2_gaveAny 30 (58, .iinc 5 (-1), 3) rfl rfl) rfl (by decide) (by decide),
    st_iinc hC (n := 31) (x := 1) (dc_X2_gaveAny 31 (61, .iinc 6 1, 3) rfl rfl) rfl (by decide) (by decide),
    st_goto hC (n := 32) (dc_X2_gaveAny 32 (64, .goto (-34), 3) rfl rfl) (by decide),
    st_iconst hC (n := 33) (x := 0) (dc_X2_gaveAny 33 (67, .iconst 0, 1) rfl rfl) rfl (by decide),
    st_zret hC (n := 34) hR (dc_X2_gaveAny 34 (68, .ireturn, 1) rfl rfl), trivial⟩
set_option maxRecDepth 8000 in
theorem vc_X2_gaveAny : VC P_X2_gaveAny 7 Pre_X2_gaveAny Fn_X2_gaveAny := by
  rintro mm as hom hoa ⟨g, ns, nm, nt, d, hV, hd, hd2, s, rfl⟩
  refine ⟨Nat.le_of_ble_eq_true rfl, fun X h => ?_⟩
  replace h : RUN P_X2_gaveAny (RT (c2g mm g s)) X := h
  have hn : mm.1 6 g 15 = nI nt := hV.1.2.2.1.1
  have hn12 : nt ≤ 12 := hV.1.2.2.1.2
  have ent : (nI nt).toNatClampNeg = nt := nI_clamp (by omega)
  have ed : (nI d).toNatClampNeg = d := nI_clamp (by omega)
  obtain ⟨W, eW⟩ : ∃ W, W = stN (fun j => abV mm g (44 + 3 * j) = s ∧ mgA (abV mm g) j) nt := ⟨_, rfl⟩
  have hW : W < 4096 := by
    rw [eW]
    exact Nat.lt_of_lt_of_le (stN_lt _ nt) (Nat.pow_le_pow_right (n := 2) (by omega) hn12)
  have eS : myA (abV mm g) s nt = nI W := by rw [eW]; exact myA_st _ _ nt (by omega)
  have eWc : (nI W).toNatClampNeg = W := nI_clamp (by omega)
  have pW := pc_le W hW
  unfold c2g c2gS at h
  rw [hn, ent, eS, eWc, hd, ed] at h
  have s3 : X 3 [some (vR 2 0), some (vR 6 g), some (vI (s)), none, none, none, none] [vI (nI W)] mm := by
    by_cases c : pcN W = 0
    · rw [if_pos c] at h
      show X 3 [some (vR 2 0), some (vR 6 g), some (vI s), none, none, none, none] [vI (nI W)] mm
      refine h (fun _ => false) 3000 3 _ _ _ ?_
      refine And.intro (show Pre_J6_bitCount_0f7a4 mm [vI (nI W)] from ⟨W, hW, rfl⟩) ?_
      refine br_f (show ¬ (0 < nI (pcN (nI W).toNatClampNeg)) from by rw [eWc, c]; decide) ?_
      refine And.intro (Or.inl rfl) ?_
      show ((some (vI 0) : Option MV), mm) = _
      (try simp only [eWc])
      exact PR_f rfl
    · rw [if_neg c] at h
      obtain ⟨M, eM⟩ : ∃ M, M = c2gM mm := ⟨_, rfl⟩
      rw [← eM] at h
      have hA : abV M g = abV mm g := by rw [eM]; rfl
      have hVM : VC2 M g ns nm nt := VC2_c hA hV
      obtain ⟨J, eJ⟩ : ∃ J, J = drN d / 8 % pcN W := ⟨_, rfl⟩
      rw [← eJ] at h
      have hJ : J < 4096 := by
        rw [eJ]
        exact Nat.lt_of_lt_of_le (Nat.mod_lt _ (by omega)) (by omega)
      obtain ⟨p, ep⟩ : ∃ p, p = c2gO g M (c2T (nI W) 12 0 J) := ⟨_, rfl⟩
      rw [← ep] at h
      have loop : ∀ k i j, i + k = 12 → j < 4096 → p = c2gO g M (c2T (nI W) k i j) → X 17 [some (vR 2 0), some (vR 6 g), some (vI (s)), some (vI (nI W)), some (vI (nI (pcN W))), some (vI (nI j)), some (vI (nI i))] [] (M) := by
        intro k
        induction k with
        | zero =>
          intro i j hi hj hp
          have hi2 : i = 12 := by omega
          subst hi2
          show X 17 [some (vR 2 0), some (vR 6 g), some (vI s), some (vI (nI W)), some (vI (nI (pcN W))), some (vI (nI j)), some (vI (nI 12))] [] M
          refine h (fun _ => false) 3000 17 _ _ _ ?_
          refine br_t (show 12 ≤ nI 12 from Int32.le_refl _) ?_
          refine And.intro (Or.inl rfl) ?_
          show ((some (vI 0) : Option MV), M) = _
          exact PR_f hp
        | succ k ih =>
          intro i j hi hj hp
          rw [c2T] at hp
          have ei : (nI i).toNatClampNeg = i := nI_clamp (by omega)
          by_cases c1 : inS (nI W) (nI i)
          · rw [if_pos c1] at hp
            have hin : i < nt := by
              have z := (inS_nI (by omega) (by omega)).mp c1
              rw [eW] at z
              exact ((stN_bit _ nt i).mp z).1
            by_cases c2 : j = 0
            · rw [if_pos c2] at hp
              subst c2
              show X 17 [some (vR 2 0), some (vR 6 g), some (vI s), some (vI (nI W)), some (vI (nI (pcN W))), some (vI (nI 0)), some (vI (nI i))] [] M
              refine h (fun _ => false) 3000 17 _ _ _ ?_
              refine br_f (show ¬ (12 ≤ nI i) from show ¬ nI 12 ≤ nI i from nI_ge (by omega) (by omega)) ?_
              refine And.intro (show Pre_X11_holds M [vI (nI W), vI (nI i)] from ⟨_, _, rfl⟩) ?_
              refine br_f (show ¬ (bI (inS (nI W) (nI i)) = 0) from bI_n0.mpr c1) ?_
              refine brn_f (show nI 0 = 0 from rfl) ?_
              refine And.intro (show Pre_X6_giveUp M [vR 6 g, vI (nI i)] from ⟨g, ns, nm, nt, i, hVM, hin, rfl⟩) ?_
              refine And.intro bI_in ?_
              show ((some (vI (bI (mgA (abV M g) (nI i).toNatClampNeg))) : Option MV), mite (mgA (abV M g) (nI i).toNatClampNeg) (cgM M g 5 (nI i).toNatClampNeg) M) = _
              refine PR_m ?_
              rw [ei] 
              exact hp
            · rw [if_neg c2] at hp
              have z := ih (i + 1) (j - 1) (by omega) (by omega) hp
              have ej : nI j + (-1) = nI (j - 1) := by
                rw [← nI_sb (a := j) (b := 1) (by omega)]
                exact (Int32.sub_eq_add_neg _ _).symm
              show X 17 [some (vR 2 0), some (vR 6 g), some (vI s), some (vI (nI W)), some (vI (nI (pcN W))), some (vI (nI j)), some (vI (nI i))] [] M
              refine h (fun i => Nat.beq i 17) 3000 17 _ _ _ ?_
              refine br_f (show ¬ (12 ≤ nI i) from show ¬ nI 12 ≤ nI i from nI_ge (by omega) (by omega)) ?_
              refine And.intro (show Pre_X11_holds M [vI (nI W), vI (nI i)] from ⟨_, _, rfl⟩) ?_
              refine br_f (show ¬ (bI (inS (nI W) (nI i)) = 0) from bI_n0.mpr c1) ?_
              refine brn_t (show ¬ (nI j = 0) from fun z => c2 ((nI_eq (b := 0) (by omega) (by omega)).mp z)) ?_
              show X 17 [some (vR 2 0), some (vR 6 g), some (vI s), some (vI (nI W)), some (vI (nI (pcN W))), some (vI ((nI j) + (-1))), some (vI ((nI i) + 1))] [] M
              rw [nI_1, ej]
              exact z
          · rw [if_neg c1] at hp
            have z := ih (i + 1) j (by omega) hj hp
            show X 17 [some (vR 2 0), some (vR 6 g), some (vI s), some (vI (nI W)), some (vI (nI (pcN W))), some (vI (nI j)), some (vI (nI i))] [] M
            refine h (fun i => Nat.beq i 17) 3000 17 _ _ _ ?_
            refine br_f (show ¬ (12 ≤ nI i) from show ¬ nI 12 ≤ nI i from nI_ge (by omega) (by omega)) ?_
            refine And.intro (show Pre_X11_holds M [vI (nI W), vI (nI i)] from ⟨_, _, rfl⟩) ?_
            refine br_t (show bI (inS (nI W) (nI i)) = 0 from bI_0.mpr c1) ?_
            show X 17 [some (vR 2 0), some (vR 6 g), some (vI s), some (vI (nI W)), some (vI (nI (pcN W))), some (vI (nI j)), some (vI ((nI i) + 1))] [] M
            rw [nI_1]
            exact z
      have l0 := loop 12 0 J (by omega) hJ ep
      have s14 : X 14 [some (vR 2 0), some (vR 6 g), some (vI (s)), some (vI (nI W)), some (vI (nI (pcN W))), none, none] [vI (nI J)] (M) := by
        show X 14 [some (vR 2 0), some (vR 6 g), some (vI s), some (vI (nI W)), some (vI (nI (pcN W))), none, none] [vI (nI J)] M
        refine h (fun i => Nat.beq i 17) 3000 14 _ _ _ ?_
        show X 17 [some (vR 2 0), some (vR 6 g), some (vI s), some (vI (nI W)), some (vI (nI (pcN W))), some (vI (nI J)), some (vI 0)] [] M
        exact l0
      have epc : (nI (pcN W)).toNatClampNeg = pcN W := nI_clamp (by omega)
      show X 3 [some (vR 2 0), some (vR 6 g), some (vI s), none, none, none, none] [vI (nI W)] mm
      refine h (fun i => Nat.beq i 14) 3000 3 _ _ _ ?_
      refine And.intro (show Pre_J6_bitCount_0f7a4 mm [vI (nI W)] from ⟨W, hW, rfl⟩) ?_
      refine br_t (show 0 < nI (pcN (nI W).toNatClampNeg) from by rw [eWc, show (0 : Int32) = nI 0 from rfl, nI_ltI (by omega) (by omega)]; omega) ?_
      refine And.intro (show Pre_X2_draw mm [vR 2 0, vI (nI (pcN (nI W).toNatClampNeg))] from ⟨d, pcN W, hd, hd2, by omega, by omega, by rw [eWc]⟩) ?_
      show X 14 [some (vR 2 0), some (vR 6 g), some (vI s), some (vI (nI W)), some (vI (nI (pcN (nI W).toNatClampNeg))), none, none] [vI (nI (drN (mm.1 2 0 3).toNatClampNeg / 8 % (nI (pcN (nI W).toNatClampNeg)).toNatClampNeg))] (mI mm 2 0 3 (nI (drN (mm.1 2 0 3).toNatClampNeg)))
      (try simp only [eWc])
      rw [epc, hd, ed, ← eJ, show mI mm 2 0 3 (nI (drN d)) = M by rw [eM]; unfold c2gM; rw [hd, ed]]
      exact s14
  show X 0 [some (vR 2 0), some (vR 6 g), some (vI s), none, none, none, none] [] mm
  refine h (fun i => Nat.beq i 3) 3000 0 _ _ _ ?_
  refine And.intro (show Pre_X6_givable mm [vR 6 g, vI s] from ⟨g, ns, nm, nt, hV, s, rfl⟩) ?_
  show X 3 [some (vR 2 0), some (vR 6 g), some (vI s), none, none, none, none] [vI (myA (abV mm g) s (mm.1 6 g 15).toNatClampNeg)] mm
  rw [hn, ent, eS]
  exact s3
theorem con_X2_gaveAny (l : Launch) : CON l y_X2_gaveAny prog_4_method_8_code 7 (some .boolean) rm_X2_gaveAny Pre_X2_gaveAny Fn_X2_gaveAny := CON_of (by decide) rfl rfl (sa_X2_gaveAny l) vc_X2_gaveAny
