/-! PART 99: the class: means -/

noncomputable section
/-- while one lives on a valley g the others stand -/
def SMv (g : Nat) (m m' : MM) : Prop := (∀ k h, k ≠ 2 → k ≠ 20 → k ≠ 21 → h ≠ g → m'.1 k h = m.1 k h) ∧ m'.2.2 = m.2.2
theorem SMv_r (g : Nat) (m : MM) : SMv g m m := ⟨fun _ _ _ _ _ _ => rfl, rfl⟩
theorem SMv_t {g : Nat} {a b c : MM} (h : SMv g a b) (h' : SMv g b c) : SMv g a c := ⟨fun k j w x y z => (h'.1 k j w x y z).trans (h.1 k j w x y z), h'.2.trans h.2⟩
theorem SMv_R {g k j : Nat} {m m' : MM} {f : Nat → Int32} (hk : k = 2 ∨ k = 20 ∨ k = 21 ∨ j = g) (h : SMv g m m') : SMv g m (mRow m' k j f) := ⟨fun k' j' w x y z => (show (mRow m' k j f).1 k' j' = m'.1 k' j' from if_neg (fun u : k' = k ∧ j' = j => hk.elim (fun e => w (u.1.trans e)) (fun hk => hk.elim (fun e => x (u.1.trans e)) (fun hk => hk.elim (fun e => y (u.1.trans e)) (fun e => z (u.2.trans e)))))).trans (h.1 k' j' w x y z), h.2⟩
theorem SMv_g {g k : Nat} {m m' : MM} {f : Nat → Int32} (h : SMv g m m') : SMv g m (mRow m' k g f) := SMv_R (Or.inr (Or.inr (Or.inr rfl))) h
/-- living: what it leaves alone -/
def SMw (g : Nat) (m m' : MM) : Prop := SMv g m m' ∧ SML m m'
theorem SMw_r (g : Nat) (m : MM) : SMw g m m := ⟨SMv_r g m, SML_r m⟩
theorem SMw_t {g : Nat} {a b c : MM} (h : SMw g a b) (h' : SMw g b c) : SMw g a c := ⟨SMv_t h.1 h'.1, SML_t h.2 h'.2⟩
theorem SMw_pM {g : Nat} {p : Prop} [Decidable p] {m a b : MM} (ha : SMw g m a) (hb : SMw g m b) : SMw g m (pMi p a b).2 := by
  unfold pMi
  by_cases h : p
  · rw [if_pos h]; exact ha
  · rw [if_neg h]; exact hb
theorem SMw_if {g : Nat} {p : Prop} [Decidable p] {m a b : MM} (ha : SMw g m a) (hb : SMw g m b) : SMw g m (if p then a else b) := by
  by_cases h : p
  · rw [if_pos h]; exact ha
  · rw [if_neg h]; exact hb
theorem SMw_n {g w : Nat} {m : MM} {p : PR} (h : SMw g m p.2) : SMw g m (c2n w p).2 := ⟨SMv_R (by omega) h.1, SML_R (by decide) h.2⟩
theorem SMw_cg (m : MM) (g f t : Nat) : SMw g m (cgM m g f t) := ⟨SMv_g (SMv_g (SMv_r g m)), SML_cg m g f t⟩
theorem SMw_2 {g k : Nat} {m m' : MM} {f : Nat → Int32} (hk : k = 2 ∨ k = 20 ∨ k = 21) (h : SMw g m m') : SMw g m (mRow m' k 0 f) := ⟨SMv_R (by omega) h.1, SML_R (by omega) h.2⟩
theorem SMw_ga (m : MM) (g : Nat) (s : Int32) : SMw g m (c2g m g s).2 := by
  unfold c2g
  split
  · exact SMw_r g m
  · have hM : SMw g m (c2gM m) := SMw_2 (by decide) (SMw_r g m)
    revert hM
    generalize c2gM m = M
    intro hM
    unfold c2gO
    split
    · exact SMw_pM (SMw_t hM (SMw_cg _ _ _ _)) hM
    · exact hM
theorem SMw_d (m : MM) (g k : Nat) : SMw g m (c2d m g k).2 := by
  have hr := SMw_r g m
  unfold c2d c2dQ
  split
  · exact SMw_n (SMw_pM (SMw_cg _ _ _ _) hr)
  split
  · exact SMw_pM (SMw_cg _ _ _ _) hr
  split
  · exact SMw_n (SMw_ga _ _ _)
  split
  · exact SMw_pM ⟨SMv_g (SMv_g (SMv_r g m)), SML_fe _ _ _⟩ hr
  split
  · exact SMw_n (SMw_pM ⟨SMv_g (SMv_g (SMv_r g m)), SML_pw _ _⟩ hr)
  split
  · exact SMw_n (SMw_pM ⟨SMv_g (SMv_g (SMv_g (SMv_r g m))), SML_mr _ _ _ _⟩ hr)
  · exact hr
theorem SMw_E (m : MM) (g k : Nat) : SMw g m (c2E m g k).2 := by
  unfold c2E
  split
  · exact SMw_2 (by decide) (SMw_r g m)
  · exact SMw_r g m
theorem SMw_Q (m : MM) (g k : Nat) (c : Int32) : SMw g m (c2Q m g k c).2 := by
  unfold c2Q
  split
  · exact SMw_r g m
  split
  · exact SMw_2 (by decide) (SMw_r g m)
  split
  · exact SMw_r g m
  · unfold c2K
    exact SMw_if (SMw_d m g k) (SMw_2 (by decide) (SMw_d m g k))
theorem SMw_R (g : Nat) : ∀ f m k, SMw g m (c2R g f m k)
  | 0, m, _ => SMw_r g m
  | f + 1, m, k => by
    rw [c2R]
    refine SMw_if (SMw_if (SMw_t (SMw_E m g _) (SMw_R g f _ _)) (SMw_if (SMw_2 (by decide) (SMw_r g m)) (SMw_t ?_ (SMw_R g f _ _)))) (SMw_r g m)
    exact SMw_t (SMw_2 (by decide) (SMw_r g m)) (SMw_Q _ _ _ _)
theorem SMw_M (m : MM) (g : Nat) (x : Int32) : SMw g m (c2M m g x) := SMw_t (SMw_2 (by decide) (SMw_2 (by decide) (SMw_2 (by decide) (SMw_r g m)))) (SMw_R g _ _ _)
theorem LVc_R {g ns nm nt L : Nat} : ∀ f m j, LVc m g ns nm nt L → j ≤ L → LVc (c2R g f m (nI j)) g ns nm nt L
  | 0, _, _, h, _ => h
  | f + 1, m, j, h, hj => by
    have L60 := h.2.1.2
    have ej : (nI j).toNatClampNeg = j := nI_clamp (by omega)
    rw [c2R, h.2.1.1, ej]
    by_cases c1 : nI j < nI L
    · rw [if_pos c1]
      rw [nI_ltI (by omega) (by omega)] at c1
      by_cases c2 : m.1 43 g j = 28
      · rw [if_pos c2]
        obtain ⟨h1, i, hi, e⟩ := c2E_ok h c1 c2
        rw [e]
        exact LVc_R f _ i h1 hi
      · rw [if_neg c2]
        split
        · exact LVc_s h (LQ_R (Or.inr rfl) (LQ_r h))
        · obtain ⟨M', eM'⟩ : ∃ M', M' = mI m 2 0 2 (m.1 2 0 2 + 1) := ⟨_, rfl⟩
          have e43 : m.1 43 g j = M'.1 43 g j := by rw [eM']; rfl
          rw [← eM', e43]
          have q0 : LVc M' g ns nm nt L := by
            rw [eM']
            obtain ⟨a1, a2, a3, d', a4, a5⟩ := h
            exact ⟨a1, a2, a3, d', a4, by rw [mI_ne (by decide)]; exact a5⟩
          obtain ⟨h1, i, hi, e⟩ := c2Q_ok q0 c1
          rw [e]
          exact LVc_R f _ i h1 hi
    · rw [if_neg c1]; exact h
theorem LVc_M {m : MM} {g ns nm nt L d : Nat} (hV : VC2 m g ns nm nt) (hL : m.1 9 g 8 = nI L ∧ L ≤ 60) (hY : ∀ k, k < L → YLc m g ns nm nt L k) (hd : d < 65536) : LVc (c2M m g (nI d)) g ns nm nt L := by
  have s0 : SML m (c20 m (nI d)) := SML_R (by decide) (SML_R (by decide) (SML_R (by decide) (SML_r m)))
  unfold c2M
  refine LVc_R _ _ 0 ?_ (Nat.zero_le _)
  refine ⟨VC2_d hV s0 (DDo_of hV), ?_, fun k hk => YLc_s (hY k hk) s0, d, hd, mI_eq2⟩
  rw [s0 9 g (by decide)]
  exact hL
def ceM (m : MM) (sp g q : Nat) : Nat → MM
  | 0 => m
  | i + 1 => c2M (vcM (ceM m sp g q i) sp g) sp (nI (q + i))
def ceS (m : MM) (sp g : Nat) (s : Int32) (q : Nat) : Nat → Nat
  | 0 => 0
  | i + 1 => ceS m sp g s q i + (lsA' (abV (ceM m sp g q (i + 1)) sp) s).toNatClampNeg
theorem vc_v (m : MM) (sp g : Nat) : SMv sp m (vcM m sp g) := ⟨fun _ _ _ _ _ z => vc_o z, rfl⟩
theorem ce_v (m : MM) (sp g q : Nat) : ∀ i, SMv sp m (ceM m sp g q i)
  | 0 => SMv_r sp m
  | i + 1 => SMv_t (ce_v m sp g q i) (SMv_t (vc_v _ sp g) (SMw_M _ sp _).1)
theorem SMv_ab {g h : Nat} {m m' : MM} (H : SMv g m m') (e : h ≠ g) : abV m' h = abV m h := abV_d (fun k hk => H.1 k h (by omega) (by omega) (by omega) e)
theorem SMv_Y {g h ns nm nt L k : Nat} {m m' : MM} (H : SMv g m m') (e : h ≠ g) (hY : YLc m h ns nm nt L k) : YLc m' h ns nm nt L k := by
  unfold YLc
  rw [H.1 43 h (by decide) (by decide) (by decide) e, H.1 44 h (by decide) (by decide) (by decide) e, H.1 45 h (by decide) (by decide) (by decide) e, H.1 48 h (by decide) (by decide) (by decide) e]
  exact hY
/-- what living once more on the copy leaves -/
theorem ce_s {m : MM} {sp g q ns nm nt L : Nat} (hV : VC2 m g ns nm nt) (hL : m.1 9 g 8 = nI L ∧ L ≤ 60) (hY : ∀ k, k < L → YLc m g ns nm nt L k) (hne : g ≠ sp) (hW : WBo (abV m g) nt) (i : Nat) (hi : q + i < 65536) : VC2 (vcM (ceM m sp g q i) sp g) sp ns nm nt ∧ ((vcM (ceM m sp g q i) sp g).1 9 sp 8 = nI L ∧ L ≤ 60) ∧ (∀ k, k < L → YLc (vcM (ceM m sp g q i) sp g) sp ns nm nt L k) ∧ VC2 (ceM m sp g q (i + 1)) sp ns nm nt ∧ ∀ s, ∃ v, v ≤ 1188 ∧ lsA' (abV (ceM m sp g q (i + 1)) sp) s = nI v := by
  have hv := ce_v m sp g q i
  have h60 := hL.2
  have a1 : VC2 (ceM m sp g q i) g ns nm nt := VC2_c (SMv_ab hv hne) hV
  have a2 : VC2 (vcM (ceM m sp g q i) sp g) sp ns nm nt := vc_VC2 a1
  have a3 : (vcM (ceM m sp g q i) sp g).1 9 sp 8 = nI L ∧ L ≤ 60 := by
    rw [vc_9 _ sp g 8 (by decide), hv.1 9 g (by decide) (by decide) (by decide) hne]
    exact hL
  have a4 : ∀ k, k < L → YLc (vcM (ceM m sp g q i) sp g) sp ns nm nt L k := fun k hk => vc_YL (by omega) (SMv_Y hv hne (hY k hk))
  have a5 := LVc_M (d := q + i) a2 a3 a4 hi
  refine ⟨a2, a3, a4, a5.1, fun s => ?_⟩
  have nt12 := hV.1.2.2.1.2
  have w : WBo (abV (ceM m sp g q (i + 1)) sp) nt := by
    intro t ht
    obtain ⟨w, hw, e⟩ := hW t ht
    refine ⟨w, hw, ?_⟩
    rw [ab_wor (show t < 12 by omega)] at e ⊢
    show (c2M (vcM (ceM m sp g q i) sp g) sp (nI (q + i))).1 36 sp t = nI w
    rw [(SMw_M (vcM (ceM m sp g q i) sp g) sp (nI (q + i))).2 36 sp (by decide), vc_36, cp_at (by omega), hv.1 36 g (by decide) (by decide) (by decide) hne]
    exact e
  have e2 : abV (ceM m sp g q (i + 1)) sp 2 = nI nt := a5.1.1.2.2.1.1
  unfold lsA' wtA
  rw [e2, nI_clamp (by omega)]
  obtain ⟨v, hv2, e⟩ := wth_le (set := thA (abV (ceM m sp g q (i + 1)) sp) s &&& abV (ceM m sp g q (i + 1)) sp 8) w nt (Nat.le_refl _)
  exact ⟨v, by omega, e⟩
theorem ceS_le {m : MM} {sp g q ns nm nt L : Nat} {s : Int32} (hV : VC2 m g ns nm nt) (hL : m.1 9 g 8 = nI L ∧ L ≤ 60) (hY : ∀ k, k < L → YLc m g ns nm nt L k) (hne : g ≠ sp) (hW : WBo (abV m g) nt) : ∀ i, q + i ≤ 65536 → ceS m sp g s q i ≤ 1188 * i
  | 0, _ => Nat.zero_le _
  | i + 1, h => by
    obtain ⟨-, -, -, -, h5⟩ := ce_s (q := q) hV hL hY hne hW i (by omega)
    obtain ⟨v, hv, e⟩ := h5 s
    have := ceS_le (s := s) (q := q) hV hL hY hne hW i (by omega)
    rw [ceS, e, nI_clamp (by omega)]
    omega
def cl_me1 (m : MM) (x : Int32) (q n : Nat) : Option MV × MM := alC (tfM (ceM m (m.2.2 1) (m.2.2 0) q n) (ceS m (m.2.2 1) (m.2.2 0) x q n) n)
def cl_mean (m : MM) (x q n : Int32) : Option MV × MM := if x < 0 ∨ m.1 6 (m.2.2 0) 13 ≤ x then dnC m 1 else if q < 0 then dnC m 1 else if n < 1 then dnC m 1 else if 20 < n then dnC m 1 else if q ≤ 10000 - n then (if m.1 9 (m.2.2 0) 6 = 0 then dnC m 6 else cl_me1 m x q.toNatClampNeg n.toNatClampNeg) else dnC m 1

def Pre_X11_mean : PreT := fun m as => ∃ ns nm nt, VN m ns nm nt ∧ YRo m (m.2.2 0) ns nm nt ∧ ZZo m (m.2.2 0) ∧ m.2.2 0 ≠ m.2.2 1 ∧ WBo (abV m (m.2.2 0)) nt ∧ ∃ x q n : Int32, as = [vR 11 0, vI x, vI q, vI n]
def Fn_X11_mean : FnT := fun m as => match as with
  | [_, Sum.inl x, Sum.inl q, Sum.inl n] => cl_mean m x q n
  | _ => (none, m)
abbrev y_X11_mean : MethodName := ⟨"GivenUp", "mean", "(III)Z"⟩
def P_X11_mean : List StpT := [s_iload 1, s_aload 0, s_getD 11 12 6 0, s_getI 6 13, s_callS 2 Pre_X11_isOut Fn_X11_isOut, s_ifne 19, s_iload 2, s_iflt 19, s_iload 3, s_ic (1), s_iclt 19, s_iload 3, s_ic (20), s_icgt 19, s_iload 2, s_ic (10000), s_iload 3, s_isub, s_icle 23, s_aload 0, s_ic (1), s_callV 11 1 Pre_X11_deny Fn_X11_deny, s_zret, s_aload 0, s_getD 11 12 6 0, s_getR 6 12 9, s_getI 9 6, s_ifne 32, s_aload 0, s_ic (6), s_callV 11 1 Pre_X11_deny Fn_X11_deny, s_zret, s_lc 0, s_lstore 4, s_ic (0), s_istore 6, s_iload 6, s_iload 3, s_icge 62, s_aload 0, s_getD 11 13 6 1, s_aload 0, s_getD 11 12 6 0, s_callV 6 1 Pre_X6_copy Fn_X6_copy, s_aload 0, s_getC 11 8 2 0, s_aload 0, s_getD 11 13 6 1, s_iload 2, s_iload 6, s_iadd, s_callV 2 2 Pre_X2_run Fn_X2_run, s_lload 4, s_aload 0, s_getD 11 13 6 1, s_iload 1, s_callV 6 1 Pre_X6_loss Fn_X6_loss, s_i2l, s_ladd, s_lstore 4, s_iinc 6 (1), s_goto 36, s_aload 0, s_lload 4, s_iload 3, s_i2l, s_callV 11 2 Pre_X11_tellFraction Fn_X11_tellFraction, s_aload 0, s_callV 11 0 Pre_X11_allow Fn_X11_allow, s_zret]
def pc_X11_mean : Nat → Nat := fun i => [0, 1, 2, 5, 8, 11, 14, 15, 18, 19, 20, 23, 24, 26, 29, 30, 33, 34, 35, 38, 39, 40, 43, 44, 45, 48, 51, 54, 57, 58, 60, 63, 64, 65, 67, 68, 70, 72, 73, 76, 77, 80, 81, 84, 87, 88, 91, 92, 95, 96, 98, 99, 102, 104, 105, 108, 109, 112, 113, 114, 116, 119, 122, 123, 125, 126, 127, 130, 131, 134].getD i 0
def dl_X11_mean : List (Nat × Instr × Nat) := [(0, .iload_n 1, 1), (1, .aload_n 0, 1), (2, .getfield 87, 3), (5, .getfield 197, 3), (8, .invokestatic 115, 3), (11, .ifCond .ne 27, 3), (14, .iload_n 2, 1), (15, .ifCond .lt 23, 3), (18, .iload_n 3, 1), (19, .iconst 1, 1), (20, .if_icmp .lt 18, 3), (23, .iload_n 3, 1), (24, .bipush 20, 2), (26, .if_icmp .gt 12, 3), (29, .iload_n 2, 1), (30, .sipush 10000, 3), (33, .iload_n 3, 1), (34, .isub, 1), (35, .if_icmp .le 9, 3), (38, .aload_n 0, 1), (39, .iconst 1, 1), (40, .invokevirtual 119, 3), (43, .ireturn, 1), (44, .aload_n 0, 1), (45, .getfield 87, 3), (48, .getfield 181, 3), (51, .getfield 441, 3), (54, .ifCond .ne 10, 3), (57, .aload_n 0, 1), (58, .bipush 6, 2), (60, .invokevirtual 119, 3), (63, .ireturn, 1), (64, .lconst 0, 1), (65, .lstore 4, 2), (67, .iconst 0, 1), (68, .istore 6, 2), (70, .iload 6, 2), (72, .iload_n 3, 1), (73, .if_icmp .ge 49, 3), (76, .aload_n 0, 1), (77, .getfield 91, 3), (80, .aload_n 0, 1), (81, .getfield 87, 3), (84, .invokevirtual 449, 3), (87, .aload_n 0, 1), (88, .getfield 70, 3), (91, .aload_n 0, 1), (92, .getfield 91, 3), (95, .iload_n 2, 1), (96, .iload 6, 2), (98, .iadd, 1), (99, .invokevirtual 442, 3), (102, .lload 4, 2), (104, .aload_n 0, 1), (105, .getfield 91, 3), (108, .iload_n 1, 1), (109, .invokevirtual 243, 3), (112, .i2l, 1), (113, .ladd, 1), (114, .lstore 4, 2), (116, .iinc 6 1, 3), (119, .goto (-49), 3), (122, .aload_n 0, 1), (123, .lload 4, 2), (125, .iload_n 3, 1), (126, .i2l, 1), (127, .invokevirtual 342, 3), (130, .aload_n 0, 1), (131, .invokevirtual 127, 3), (134, .ireturn, 1)]
theorem dc_X11_mean : DEC prog_1_method_61_code pc_X11_mean dl_X11_mean := DEC_of (by decide +kernel)
abbrev rm_X11_mean : Room := { frames := 7, cells := 0, slots := 0, locals := 163 }
set_option maxRecDepth 20000 in
theorem sa_X11_mean (l : Launch) : SNDALL l prog_1_method_61_code "GivenUp" 7 (some .boolean) rm_X11_mean P_X11_mean pc_X11_mean := fun p e s m args below meth c cells slots Q D dA ad A RR hC hR => by
  have hM := RTX_room (R := rm_X11_mean) hR
  exact ⟨st_iload_n hC (n := 0) (k := 1) (dc_X11_mean 0 (0, .iload_n 1, 1) rfl rfl) rfl rfl,
    st_aload_n hC (n := 1) (k := 0) (dc_X11_mean 1 (1, .aload_n 0, 1) rfl rfl) rfl rfl,
    st_getD hC (n := 2) (k := 11) (j := 12) (dc_X11_mean 2 (2, .getfield 87, 3) rfl rfl) rfl clf_11 (by decide) rfl (by decide) wd_723,
    st_getI hC (n := 3) (k := 6) (j := 13) (dc_X11_mean 3 (5, .getfield 197, 3) rfl rfl) rfl clf_6 (by decide) rfl wd_622,
    st_callS hC (n := 4) (na := 2) (con_X11_isOut l) (dc_X11_mean 4 (8, .invokestatic 115, 3) rfl rfl) rfl wd_790 wd_143 (by decide) ⟨rfl, rfl, by decide, by decide⟩ hM wd_788 wd_789,
    st_ifne hC (n := 5) (dc_X11_mean 5 (11, .ifCond .ne 27, 3) rfl rfl) rfl (by decide),
    st_iload_n hC (n := 6) (k := 2) (dc_X11_mean 6 (14, .iload_n 2, 1) rfl rfl) rfl rfl,
    st_iflt hC (n := 7) (dc_X11_mean 7 (15, .ifCond .lt 23, 3) rfl rfl) rfl (by decide),
    st_iload_n hC (n := 8) (k := 3) (dc_X11_mean 8 (18, .iload_n 3, 1) rfl rfl) rfl rfl,
    st_iconst hC (n := 9) (x := 1) (dc_X11_mean 9 (19, .iconst 1, 1) rfl rfl) rfl (by decide),
    st_iclt hC (n := 10) (dc_X11_mean 10 (20, .if_icmp .lt 18, 3) rfl rfl) rfl (by decide),
    st_iload_n hC (n := 11) (k := 3) (dc_X11_mean 11 (23, .iload_n 3, 1) rfl rfl) rfl rfl,
    st_bipush hC (n := 12) (x := 20) (dc_X11_mean 12 (24, .bipush 20, 2) rfl rfl) rfl (by decide),
    st_icgt hC (n := 13) (dc_X11_mean 13 (26, .if_icmp .gt 12, 3) rfl rfl) rfl (by decide),
    st_iload_n hC (n := 14) (k := 2) (dc_X11_mean 14 (29, .iload_n 2, 1) rfl rfl) rfl rfl,
    st_sipush hC (n := 15) (x := 10000) (dc_X11_mean 15 (30, .sipush 10000, 3) rfl rfl) rfl (by decide),
    st_iload_n hC (n := 16) (k := 3) (dc_X11_mean 16 (33, .iload_n 3, 1) rfl rfl) rfl rfl,
    st_isub hC (n := 17) (dc_X11_mean 17 (34, .isub, 1) rfl rfl) rfl,
    st_icle hC (n := 18) (dc_X11_mean 18 (35, .if_icmp .le 9, 3) rfl rfl) rfl (by decide),
    st_aload_n hC (n := 19) (k := 0) (dc_X11_mean 19 (38, .aload_n 0, 1) rfl rfl) rfl rfl,
    st_iconst hC (n := 20) (x := 1) (dc_X11_mean 20 (39, .iconst 1, 1) rfl rfl) rfl (by decide),
    st_callV hC (n := 21) (k := 11) (na := 1) (con_X11_deny l) (dc_X11_mean 21 (40, .invokevirtual 119, 3) rfl rfl) rfl wd_794 wd_143 (by decide) ⟨rfl, rfl, by decide, by decide⟩ hM wd_791 wd_793 wd_0 clf_11,
    st_zret hC (n := 22) hR (dc_X11_mean 22 (43, .ireturn, 1) rfl rfl),
    st_aload_n hC (n := 23) (k := 0) (dc_X11_mean 23 (44, .aload_n 0, 1) rfl rfl) rfl rfl,
    st_getD hC (n := 24) (k := 11) (j := 12) (dc_X11_mean 24 (45, .getfield 87, 3) rfl rfl) rfl clf_11 (by decide) rfl (by decide) wd_723,
    st_getR hC (n := 25) (k := 6) (j := 12) (dc_X11_mean 25 (48, .getfield 181, 3) rfl rfl) rfl clf_6 (by decide) rfl (by decide) wd_616,
    st_getI hC (n := 26) (k := 9) (j := 6) (dc_X11_mean 26 (51, .getfield 441, 3) rfl rfl) rfl clf_9 (by decide) rfl wd_530,
    st_ifne hC (n := 27) (dc_X11_mean 27 (54, .ifCond .ne 10, 3) rfl rfl) rfl (by decide),
    st_aload_n hC (n := 28) (k := 0) (dc_X11_mean 28 (57, .aload_n 0, 1) rfl rfl) rfl rfl,
    st_bipush hC (n := 29) (x := 6) (dc_X11_mean 29 (58, .bipush 6, 2) rfl rfl) rfl (by decide),
    st_callV hC (n := 30) (k := 11) (na := 1) (con_X11_deny l) (dc_X11_mean 30 (60, .invokevirtual 119, 3) rfl rfl) rfl wd_794 wd_143 (by decide) ⟨rfl, rfl, by decide, by decide⟩ hM wd_791 wd_793 wd_0 clf_11,
    st_zret hC (n := 31) hR (dc_X11_mean 31 (63, .ireturn, 1) rfl rfl),
    st_lconst hC (n := 32) (x := 0) (dc_X11_mean 32 (64, .lconst 0, 1) rfl rfl) rfl (by decide),
    st_lstore hC (n := 33) (dc_X11_mean 33 (65, .lstore 4, 2) rfl rfl) rfl (by decide),
    st_iconst hC (n := 34) (x := 0) (dc_X11_mean 34 (67, .iconst 0, 1) rfl rfl) rfl (by decide),
    st_istore hC (n := 35) (dc_X11_mean 35 (68, .istore 6, 2) rfl rfl) rfl (by decide),
    st_iload hC (n := 36) (dc_X11_mean 36 (70, .iload 6, 2) rfl rfl) rfl,
    st_iload_n hC (n := 37) (k := 3) (dc_X11_mean 37 (72, .iload_n 3, 1) rfl rfl) rfl rfl,
    st_icge hC (n := 38) (dc_X11_mean 38 (73, .if_icmp .ge 49, 3) rfl rfl) rfl (by decide),
    st_aload_n hC (n := 39) (k := 0) (dc_X11_mean 39 (76, .aload_n 0, 1) rfl rfl) rfl rfl,
    st_getD hC (n := 40) (k := 11) (j := 13) (dc_X11_mean 40 (77, .getfield 91, 3) rfl rfl) rfl clf_11 (by decide) rfl (by decide) wd_724,
    st_aload_n hC (n := 41) (k := 0) (dc_X11_mean 41 (80, .aload_n 0, 1) rfl rfl) rfl rfl,
    st_getD hC (n := 42) (k := 11) (j := 12) (dc_X11_mean 42 (81, .getfield 87, 3) rfl rfl) rfl clf_11 (by decide) rfl (by decide) wd_723,
    st_callV hC (n := 43) (k := 6) (na := 1) (con_X6_copy l) (dc_X11_mean 43 (84, .invokevirtual 449, 3) rfl rfl) rfl wd_1527 wd_155 (by decide) ⟨rfl, rfl, by decide, by decide⟩ hM wd_1524 wd_1525 wd_1526 clf_6,
    st_aload_n hC (n := 44) (k := 0) (dc_X11_mean 44 (87, .aload_n 0, 1) rfl rfl) rfl rfl,
    st_getC hC (n := 45) (k := 11) (j := 8) (dc_X11_mean 45 (88, .getfield 70, 3) rfl rfl) rfl clf_11 (by decide) rfl (by decide) wd_719,
    st_aload_n hC (n := 46) (k := 0) (dc_X11_mean 46 (91, .aload_n 0, 1) rfl rfl) rfl rfl,
    st_getD hC (n := 47) (k := 11) (j := 13) (dc_X11_mean 47 (92, .getfield 91, 3) rfl rfl) rfl clf_11 (by decide) rfl (by decide) wd_724,
    st_iload_n hC (n := 48) (k := 2) (dc_X11_mean 48 (95, .iload_n 2, 1) rfl rfl) rfl rfl,
    st_iload hC (n := 49) (dc_X11_mean 49 (96, .iload 6, 2) rfl rfl) rfl,
    st_iadd hC (n := 50) (dc_X11_mean 50 (98, .iadd, 1) rfl rfl) rfl,
    st_callV hC (n := 51) (k := 2) (na := 2) (con_X2_run l) (dc_X11_mean 51 (99, .invokevirtual 442, 3) rfl rfl) rfl wd_1474 wd_154 (by decide) ⟨rfl, rfl, by decide, by decide⟩ hM wd_1471 wd_1472 wd_1473 clf_2,
    st_lload hC (n := 52) (dc_X11_mean 52 (102, .lload 4, 2) rfl rfl) rfl,
    st_aload_n hC (n := 53) (k := 0) (dc_X11_mean 53 (104, .aload_n 0, 1) rfl rfl) rfl rfl,
    st_getD hC (n := 54) (k := 11) (j := 13) (dc_X11_mean 54 (105, .getfield 91, 3) rfl rfl) rfl clf_11 (by decide) rfl (by decide) wd_724,
    st_iload_n hC (n := 55) (k := 1) (dc_X11_mean 55 (108, .iload_n 1, 1) rfl rfl) rfl rfl,
    st_callV hC (n := 56) (k := 6) (na := 1) (con_X6_loss l) (dc_X11_mean 56 (109, .invokevirtual 243, 3) rfl rfl) rfl wd_1043 wd_155 (by decide) ⟨rfl, rfl, by decide, by decide⟩ hM wd_1040 wd_1041 wd_1042 clf_6,
    st_i2l hC (n := 57) (dc_X11_mean 57 (112, .i2l, 1) rfl rfl) rfl,
    st_ladd hC (n := 58) (dc_X11_mean 58 (113, .ladd, 1) rfl rfl) rfl,
    st_lstore hC (n := 59) (dc_X11_mean 59 (114, .lstore 4, 2) rfl rfl) rfl (by decide),
    st_iinc hC (n := 60) (x := 1) (dc_X11_mean 60 (116, .iinc 6 1, 3) rfl rfl) rfl (by decide) (by decide),
    st_goto hC (n := 61) (dc_X11_mean 61 (119, .goto (-49), 3) rfl rfl) (by decide),
    st_aload_n hC (n := 62) (k := 0) (dc_X11_mean 62 (122, .aload_n 0, 1) rfl rfl) rfl rfl,
    st_lload hC (n := 63) (dc_X11_mean 63 (123, .lload 4, 2) rfl rfl) rfl,
    st_iload_n hC (n := 64) (k := 3) (dc_X11_mean 64 (125, .iload_n 3, 1) rfl rfl) rfl rfl,
    st_i2l hC (n := 65) (dc_X11_mean 65 (126, .i2l, 1) rfl rfl) rfl,
    st_callV hC (n := 66) (k := 11) (na := 2) (con_X11_tellFraction l) (dc_X11_mean 66 (127, .invokevirtual 342, 3) rfl rfl) rfl wd_1249 wd_143 (by decide) ⟨rfl, rfl, by decide, by decide⟩ hM wd_1246 wd_1248 wd_28 clf_11,
    st_aload_n hC (n := 67) (k := 0) (dc_X11_mean 67 (130, .aload_n 0, 1) rfl rfl) rfl rfl,
    st_callV hC (n := 68) (k := 11) (na := 0) (con_X11_allow l) (dc_X11_mean 68 (131, .invokevirtual 127, 3) rfl rfl) rfl wd_803 wd_143 (by decide) ⟨rfl, rfl, by decide, by decide⟩ hM wd_800 wd_802 wd_1 clf_11,
    st_zret hC (n := 69) hR (dc_X11_mean 69 (134, .ireturn, 1) rfl rfl), trivial⟩
set_option maxRecDepth 8000 in
theorem vc_X11_mean : VC P_X11_mean 7 Pre_X11_mean Fn_X11_mean := by
  rintro mm as hom hoa ⟨ns, nm, nt, hV, hY, hZ, hne, hW, x, q, n, rfl⟩
  refine ⟨Nat.le_of_ble_eq_true rfl, fun X h => ?_⟩
  have hS : mm.1 6 (mm.2.2 0) 13 = nI ns := hV.1.1.1
  have hn4 : ns ≤ 4 := hV.1.1.2
  obtain ⟨R, eR⟩ : ∃ R, R = cl_mean mm x q n := ⟨_, rfl⟩
  replace h : RUN P_X11_mean (fun r m' => (r, m') = cl_mean mm x q n) X := h
  rw [← eR] at h
  unfold cl_mean at eR
  have main : ∀ Q N, q = nI Q → n = nI N → 1 ≤ N → N ≤ 20 → Q + N ≤ 10000 → ¬ mm.1 9 (mm.2.2 0) 6 = 0 → R = cl_me1 mm x Q N → X 32 [some (vR 11 0), some (vI (x)), some (vI (q)), some (vI (n)), none, none, none] [] mm := by
    intro Q N eq en hN1 hN2 hQN hth hR
    unfold cl_me1 at hR
    obtain ⟨L, hL, hYL⟩ := hY hth
    obtain ⟨g, eg⟩ : ∃ g, mm.2.2 0 = g := ⟨_, rfl⟩
    obtain ⟨sp, esp⟩ : ∃ sp, mm.2.2 1 = sp := ⟨_, rfl⟩
    unfold VN at hV
    rw [eg, esp] at hR hne
    rw [eg] at hV hL hYL hW hZ
    have loop : ∀ i, i ≤ N → X 36 [some (vR 11 0), some (vI (x)), some (vI (q)), some (vI (n)), some (vL ((lN (ceS mm sp g x Q i)))), none, some (vI (nI i))] [] (ceM mm sp g Q i) := by
      refine up_ind N ?_ (fun i hi ih => ?_)
      · have hb := ceS_le (s := x) (q := Q) hV hL hYL hne hW N (by omega)
        have hE : R = alC (tfM (ceM mm sp g Q N) (ceS mm sp g x Q N) N) := hR
        obtain ⟨M, eM⟩ : ∃ M, M = ceM mm sp g Q N := ⟨_, rfl⟩
        obtain ⟨S, eS⟩ : ∃ S, S = ceS mm sp g x Q N := ⟨_, rfl⟩
        rw [← eM, ← eS] at hE ⊢
        rw [← eS] at hb
        have nl : n.toInt64 = lN N := by rw [en]; exact nI_l (by omega)
        have tS : (lN S).toInt.toNat = S := by rw [pk_lT (by omega)]; rfl
        have tN : (lN N).toInt.toNat = N := by rw [pk_lT (by omega)]; rfl
        have s66 : X 66 [some (vR 11 0), some (vI (x)), some (vI (q)), some (vI (n)), some (vL ((lN S))), none, some (vI (nI N))] [vL ((lN N)), vL ((lN S)), vR 11 0] (M) := by
          show X 66 [some (vR 11 0), some (vI x), some (vI q), some (vI n), some (vL (lN S)), none, some (vI (nI N))] [vL (lN N), vL (lN S), vR 11 0] M
          refine h (fun _ => false) 3000 66 _ _ _ ?_
          refine And.intro (show Pre_X11_tellFraction M [vR 11 0, vL (lN S), vL (lN N)] from ⟨S, N, by omega, by omega, by omega, rfl⟩) ?_
          refine And.intro (show Pre_X11_allow (tfM M ((lN S)).toInt.toNat ((lN N)).toInt.toNat) [vR 11 0] from rfl) ?_
          refine And.intro (Or.inr rfl) ?_
          show ((some (vI 1) : Option MV), stC (tfM M ((lN S)).toInt.toNat ((lN N)).toInt.toNat) 0) = _
          rw [hE, tS, tN]
          rfl
        show X 36 [some (vR 11 0), some (vI x), some (vI q), some (vI n), some (vL (lN S)), none, some (vI (nI N))] [] M
        refine h (fun i => Nat.beq i 66) 3000 36 _ _ _ ?_
        refine br_t (show n ≤ nI N from by rw [en]; exact Int32.le_refl _) ?_
        show X 66 [some (vR 11 0), some (vI x), some (vI q), some (vI n), some (vL (lN S)), none, some (vI (nI N))] [vL n.toInt64, vL (lN S), vR 11 0] M
        rw [nl]
        exact s66
      · have hv := ce_v mm sp g Q i
        obtain ⟨b1, b2, b3, b4, b5⟩ := ce_s (q := Q) hV hL hYL hne hW i (by omega)
        obtain ⟨v, hv2, ev⟩ := b5 x
        have e20 : (ceM mm sp g Q i).2.2 0 = g := by rw [hv.2]; exact eg
        have e21 : (ceM mm sp g Q i).2.2 1 = sp := by rw [hv.2]; exact esp
        have z9 : ZZo (ceM mm sp g Q i) g := by
          unfold ZZo
          rw [hv.1 9 g (by decide) (by decide) (by decide) hne]
          exact hZ
        have n36 : ¬ n ≤ nI i := by rw [en]; exact nI_ge hi (by omega)
        have eseed : q + nI i = nI (Q + i) := by rw [eq, nI_add]
        have e1S : ceS mm sp g x Q (i + 1) = ceS mm sp g x Q i + v := by rw [ceS, ev, nI_clamp (by omega)]
        have esum : lN (ceS mm sp g x Q i) + (lsA' (abV (ceM mm sp g Q (i + 1)) sp) x).toInt64 = lN (ceS mm sp g x Q (i + 1)) := by
          rw [ev, nI_l (by omega), e1S]
          exact (Int64.ofNat_add _ _).symm
        rw [← esum] at ih
        have eN1 : c2M (vcM (ceM mm sp g Q i) sp g) sp (nI (Q + i)) = ceM mm sp g Q (i + 1) := rfl
        obtain ⟨M, eM⟩ : ∃ M, M = ceM mm sp g Q i := ⟨_, rfl⟩
        obtain ⟨N1, eN⟩ : ∃ N1, N1 = ceM mm sp g Q (i + 1) := ⟨_, rfl⟩
        obtain ⟨M1, eM1⟩ : ∃ M1, M1 = vcM M sp g := ⟨_, rfl⟩
        obtain ⟨S, eS⟩ : ∃ S, S = ceS mm sp g x Q i := ⟨_, rfl⟩
        rw [← eM, ← eM1] at b1 b2 b3
        rw [← eM, ← eM1, ← eN] at eN1
        rw [← eM] at e20 e21 z9 ⊢
        rw [← eN] at b4 ih
        rw [← eS] at ih ⊢
        have m20 : M1.2.2 0 = g := by rw [eM1]; exact e20
        have m21 : M1.2.2 1 = sp := by rw [eM1]; exact e21
        have n21 : N1.2.2 1 = sp := by rw [← eN1, (SMw_M M1 sp _).1.2]; exact m21
        have s52 : X 52 [some (vR 11 0), some (vI (x)), some (vI (q)), some (vI (n)), some (vL ((lN S))), none, some (vI (nI i))] [] (N1) := by
          show X 52 [some (vR 11 0), some (vI x), some (vI q), some (vI n), some (vL (lN S)), none, some (vI (nI i))] [] N1
          refine h (fun i => Nat.beq i 36) 3000 52 _ _ _ ?_
          refine And.intro (show Pre_X6_loss N1 [vR 6 (N1.2.2 1), vI x] from ⟨_, ns, nm, nt, by rw [n21]; exact b4, _, rfl⟩) ?_
          show X 36 [some (vR 11 0), some (vI x), some (vI q), some (vI n), some (vL ((lN S) + ((lsA' (abV N1 (N1.2.2 1)) x).toInt64))), none, some (vI ((nI i) + 1))] [] N1
          rw [n21, nI_1]
          exact ih
        have s44 : X 44 [some (vR 11 0), some (vI (x)), some (vI (q)), some (vI (n)), some (vL ((lN S))), none, some (vI (nI i))] [] (M1) := by
          show X 44 [some (vR 11 0), some (vI x), some (vI q), some (vI n), some (vL (lN S)), none, some (vI (nI i))] [] M1
          refine h (fun i => Nat.beq i 52) 3000 44 _ _ _ ?_
          refine And.intro (show Pre_X2_run M1 [vR 2 0, vR 6 (M1.2.2 1), vI (q + (nI i))] from ⟨sp, ns, nm, nt, L, Q + i, b1, b2, b3, by omega, by rw [m21, eseed]⟩) ?_
          show X 52 [some (vR 11 0), some (vI x), some (vI q), some (vI n), some (vL (lN S)), none, some (vI (nI i))] [] (c2M M1 (M1.2.2 1) (q + (nI i)))
          rw [m21, eseed, eN1]
          exact s52
        show X 36 [some (vR 11 0), some (vI x), some (vI q), some (vI n), some (vL (lN S)), none, some (vI (nI i))] [] M
        refine h (fun i => Nat.beq i 44) 3000 36 _ _ _ ?_
        refine br_f (show ¬ (n ≤ nI i) from n36) ?_
        refine And.intro (show Pre_X6_copy M [vR 6 (M.2.2 1), vR 6 (M.2.2 0)] from ⟨_, _, by rw [e20]; exact z9, rfl⟩) ?_
        show X 44 [some (vR 11 0), some (vI x), some (vI q), some (vI n), some (vL (lN S)), none, some (vI (nI i))] [] (vcM M (M.2.2 1) (M.2.2 0))
        rw [e20, e21, ← eM1]
        exact s44
    have l0 := loop 0 (by omega)
    show X 32 [some (vR 11 0), some (vI x), some (vI q), some (vI n), none, none, none] [] mm
    refine h (fun i => Nat.beq i 36) 3000 32 _ _ _ ?_
    show X 36 [some (vR 11 0), some (vI x), some (vI q), some (vI n), some (vL 0), none, some (vI 0)] [] mm
    exact l0
  have s32 : ¬ (x < 0 ∨ mm.1 6 (mm.2.2 0) 13 ≤ x) → ¬ q < 0 → ¬ n < 1 → ¬ 20 < n → q ≤ 10000 - n → ¬ mm.1 9 (mm.2.2 0) 6 = 0 → X 32 [some (vR 11 0), some (vI (x)), some (vI (q)), some (vI (n)), none, none, none] [] mm := by
    intro c1 c2 c3 c4 c5 c6
    rw [if_neg c1, if_neg c2, if_neg c3, if_neg c4, if_pos c5, if_neg c6] at eR
    obtain ⟨N, hN, en⟩ := arg_in (x := n) (n := 21) (fun z => c3 (Int32.lt_trans z (by decide))) (fun z => c4 (Int32.lt_of_lt_of_le (by decide) z)) (by decide)
    rw [en, show (1 : Int32) = nI 1 from rfl, nI_ltI (by omega) (by omega)] at c3
    rw [en, show (10000 : Int32) = nI 10000 from rfl, nI_sb (by omega)] at c5
    obtain ⟨Q, hQ, eq⟩ := arg_in (x := q) (n := 10001) c2 (fun z => Int32.not_lt.mpr c5 (Int32.lt_of_lt_of_le (by rw [nI_ltI (by omega) (by omega)]; omega) z)) (by decide)
    rw [eq, nI_leI (by omega) (by omega)] at c5
    rw [eq, en, nI_clamp (by omega), nI_clamp (by omega)] at eR
    exact main Q N eq en (by omega) (by omega) (by omega) c6 eR
  show X 0 [some (vR 11 0), some (vI x), some (vI q), some (vI n), none, none, none] [] mm
  refine h (fun i => Nat.beq i 32) 3000 0 _ _ _ ?_
  refine And.intro (show Pre_X11_isOut mm [vI x, vI (mm.1 6 (mm.2.2 0) 13)] from ⟨_, _, rfl⟩) ?_
  refine brn_c (fun b5 => ?_) (fun b5 => ?_)
  · -- 5: bI (x < 0 ∨ (mm.1 6 (mm.2.2 0) 13) ≤ x) = 0 taken
    replace b5 : x < 0 ∨ (mm.1 6 (mm.2.2 0) 13) ≤ x := bI_n0.mp b5
    refine And.intro (show Pre_X11_deny mm [vR 11 0, vI 1] from ⟨_, rfl⟩) ?_
    refine And.intro (Or.inl rfl) ?_
    show ((some (vI 0) : Option MV), stC mm 1) = _
    rw [eR, if_pos b5]
    rfl
  · -- 5: bI (x < 0 ∨ (mm.1 6 (mm.2.2 0) 13) ≤ x) = 0 on
    replace b5 : ¬ (x < 0 ∨ (mm.1 6 (mm.2.2 0) 13) ≤ x) := bI_0.mp b5
    refine br_c (fun b7 => ?_) (fun b7 => ?_)
    · -- 7: q < 0 taken
      replace b7 : q < 0 := b7
      refine And.intro (show Pre_X11_deny mm [vR 11 0, vI 1] from ⟨_, rfl⟩) ?_
      refine And.intro (Or.inl rfl) ?_
      show ((some (vI 0) : Option MV), stC mm 1) = _
      rw [eR, if_neg b5, if_pos b7]
      rfl
    · -- 7: q < 0 on
      replace b7 : ¬ (q < 0) := b7
      refine br_c (fun b10 => ?_) (fun b10 => ?_)
      · -- 10: n < 1 taken
        replace b10 : n < 1 := b10
        refine And.intro (show Pre_X11_deny mm [vR 11 0, vI 1] from ⟨_, rfl⟩) ?_
        refine And.intro (Or.inl rfl) ?_
        show ((some (vI 0) : Option MV), stC mm 1) = _
        rw [eR, if_neg b5, if_neg b7, if_pos b10]
        rfl
      · -- 10: n < 1 on
        replace b10 : ¬ (n < 1) := b10
        refine br_c (fun b13 => ?_) (fun b13 => ?_)
        · -- 13: 20 < n taken
          replace b13 : 20 < n := b13
          refine And.intro (show Pre_X11_deny mm [vR 11 0, vI 1] from ⟨_, rfl⟩) ?_
          refine And.intro (Or.inl rfl) ?_
          show ((some (vI 0) : Option MV), stC mm 1) = _
          rw [eR, if_neg b5, if_neg b7, if_neg b10, if_pos b13]
          rfl
        · -- 13: 20 < n on
          replace b13 : ¬ (20 < n) := b13
          refine br_c (fun b18 => ?_) (fun b18 => ?_)
          · -- 18: q ≤ 10000 - n taken
            replace b18 : q ≤ 10000 - n := b18
            refine brn_c (fun b27 => ?_) (fun b27 => ?_)
            · -- 27: mm.1 9 (mm.2.2 0) 6 = 0 taken
              replace b27 : ¬ (mm.1 9 (mm.2.2 0) 6 = 0) := b27
              show X 32 [some (vR 11 0), some (vI x), some (vI q), some (vI n), none, none, none] [] mm
              exact s32 b5 b7 b10 b13 b18 b27
            · -- 27: mm.1 9 (mm.2.2 0) 6 = 0 on
              replace b27 : mm.1 9 (mm.2.2 0) 6 = 0 := b27
              refine And.intro (show Pre_X11_deny mm [vR 11 0, vI 6] from ⟨_, rfl⟩) ?_
              refine And.intro (Or.inl rfl) ?_
              show ((some (vI 0) : Option MV), stC mm 6) = _
              rw [eR, if_neg b5, if_neg b7, if_neg b10, if_neg b13, if_pos b18, if_pos b27]
              rfl
          · -- 18: q ≤ 10000 - n on
            replace b18 : ¬ (q ≤ 10000 - n) := b18
            refine And.intro (show Pre_X11_deny mm [vR 11 0, vI 1] from ⟨_, rfl⟩) ?_
            refine And.intro (Or.inl rfl) ?_
            show ((some (vI 0) : Option MV), stC mm 1) = _
            rw [eR, if_neg b5, if_neg b7, if_neg b10, if_neg b13, if_neg b18]
            rfl
theorem con_X11_mean (l : Launch) : CON l y_X11_mean prog_1_method_61_code 7 (some .boolean) rm_X11_mean Pre_X11_mean Fn_X11_mean := CON_of (by decide) rfl rfl (sa_X11_mean l) vc_X11_mean
end
