/-! PART 95: the class: fractions, lives, marks -/

noncomputable section
def gdN : Nat → Nat → Nat → Nat
  | 0, u, _ => u
  | f + 1, u, v => if v = 0 then u else gdN f v (u % v)
theorem gdN_0 : ∀ f u, gdN f u 0 = u
  | 0, _ => rfl
  | _ + 1, _ => if_pos rfl
theorem gdN_ok : ∀ k f u v, v < 2 ^ k → 2 * k ≤ f → gdN f u v = Nat.gcd u v
  | 0, f, u, v, hv, _ => by
    have h0 : v = 0 := by have := hv; rw [Nat.pow_zero] at this; omega
    rw [h0, gdN_0, Nat.gcd_zero_right]
  | k + 1, f, u, v, hv, hf => by
    obtain ⟨f', rfl⟩ : ∃ f', f = f' + 2 := ⟨f - 2, by omega⟩
    have g1 : ∀ a b, Nat.gcd a b = Nat.gcd b (a % b) := fun a b => by rw [Nat.gcd_comm a b, Nat.gcd_rec b a, Nat.gcd_comm]
    rw [gdN]
    by_cases h0 : v = 0
    · rw [if_pos h0, h0, Nat.gcd_zero_right]
    · rw [if_neg h0, gdN]
      have hr : u % v < v := Nat.mod_lt _ (by omega)
      by_cases h1 : u % v = 0
      · rw [if_pos h1, g1, h1, Nat.gcd_zero_right]
      · rw [if_neg h1, g1 u v, g1 v (u % v)]
        refine gdN_ok k f' _ _ ?_ (by omega)
        have h2 : v % (u % v) < u % v := Nat.mod_lt _ (by omega)
        have h3 : (u % v) * (v / (u % v)) + v % (u % v) = v := Nat.div_add_mod v (u % v)
        have h4 : 1 ≤ v / (u % v) := Nat.div_pos (by omega) (by omega)
        have h5 : (u % v) * 1 ≤ (u % v) * (v / (u % v)) := Nat.mul_le_mul_left _ h4
        rw [Nat.pow_succ] at hv
        omega

--tpl ⟨_, _, by assumption, by assumption, rfl⟩ || L lN (Nat.gcd ({0}).toInt.toNat ({1}).toInt.toNat)
def Pre_X11_commonDivisor : PreT := fun _ as => ∃ p q : Nat, p < 2 ^ 40 ∧ q < 2 ^ 40 ∧ as = [vL (lN p), vL (lN q)]
def Fn_X11_commonDivisor : FnT := fun m as => match as with
  | [Sum.inr (Sum.inl x), Sum.inr (Sum.inl y)] => (some (vL (lN (Nat.gcd x.toInt.toNat y.toInt.toNat))), m)
  | _ => (none, m)
abbrev y_X11_commonDivisor : MethodName := ⟨"GivenUp", "commonDivisor", "(JJ)J"⟩
def P_X11_commonDivisor : List StpT := [s_ic (0), s_istore 4, s_iload 4, s_ic (100), s_icge 19, s_lload 2, s_lc 0, s_lcmp, s_ifeq 19, s_lload 0, s_lload 2, s_lrem, s_lstore 5, s_lload 2, s_lstore 0, s_lload 5, s_lstore 2, s_iinc 4 (1), s_goto 2, s_lload 0, s_lret]
def pc_X11_commonDivisor : Nat → Nat := fun i => [0, 1, 3, 5, 7, 10, 11, 12, 13, 16, 17, 18, 19, 21, 22, 23, 25, 26, 29, 32, 33].getD i 0
def dl_X11_commonDivisor : List (Nat × Instr × Nat) := [(0, .iconst 0, 1), (1, .istore 4, 2), (3, .iload 4, 2), (5, .bipush 100, 2), (7, .if_icmp .ge 25, 3), (10, .lload_n 2, 1), (11, .lconst 0, 1), (12, .lcmp, 1), (13, .ifCond .eq 19, 3), (16, .lload_n 0, 1), (17, .lload_n 2, 1), (18, .lrem, 1), (19, .lstore 5, 2), (21, .lload_n 2, 1), (22, .lstore_n 0, 1), (23, .lload 5, 2), (25, .lstore_n 2, 1), (26, .iinc 4 1, 3), (29, .goto (-26), 3), (32, .lload_n 0, 1), (33, .lreturn, 1)]
theorem dc_X11_commonDivisor : DEC prog_1_method_80_code pc_X11_commonDivisor dl_X11_commonDivisor := DEC_of (by decide +kernel)
abbrev rm_X11_commonDivisor : Room := { frames := 0, cells := 0, slots := 0, locals := 0 }
set_option maxRecDepth 20000 in
theorem sa_X11_commonDivisor (l : Launch) : SNDALL l prog_1_method_80_code "GivenUp" 7 (some .long) rm_X11_commonDivisor P_X11_commonDivisor pc_X11_commonDivisor := fun p e s m args below meth c cells slots Q D dA ad A RR hC hR => by
  have hM := RTX_room (R := rm_X11_commonDivisor) hR
  exact ⟨st_iconst hC (n := 0) (x := 0) (dc_X11_commonDivisor 0 (0, .iconst 0, 1) rfl rfl) rfl (by decide),
    st_istore hC (n := 1) (dc_X11_commonDivisor 1 (1, .istore 4, 2) rfl rfl) rfl (by decide),
    st_iload hC (n := 2) (dc_X11_commonDivisor 2 (3, .iload 4, 2) rfl rfl) rfl,
    st_bipush hC (n := 3) (x := 100) (dc_X11_commonDivisor 3 (5, .bipush 100, 2) rfl rfl) rfl (by decide),
    st_icge hC (n := 4) (dc_X11_commonDivisor 4 (7, .if_icmp .ge 25, 3) rfl rfl) rfl (by decide),
    st_lload_n hC (n := 5) (k := 2) (dc_X11_commonDivisor 5 (10, .lload_n 2, 1) rfl rfl) rfl rfl,
    st_lconst hC (n := 6) (x := 0) (dc_X11_commonDivisor 6 (11, .lconst 0, 1) rfl rfl) rfl (by decide),
    st_lcmp hC (n := 7) (dc_X11_commonDivisor 7 (12, .lcmp, 1) rfl rfl) rfl,
    st_ifeq hC (n := 8) (dc_X11_commonDivisor 8 (13, .ifCond .eq 19, 3) rfl rfl) rfl (by decide),
    st_lload_n hC (n := 9) (k := 0) (dc_X11_commonDivisor 9 (16, .lload_n 0, 1) rfl rfl) rfl rfl,
    st_lload_n hC (n := 10) (k := 2) (dc_X11_commonDivisor 10 (17, .lload_n 2, 1) rfl rfl) rfl rfl,
    st_lrem hC (n := 11) (dc_X11_commonDivisor 11 (18, .lrem, 1) rfl rfl) rfl,
    st_lstore hC (n := 12) (dc_X11_commonDivisor 12 (19, .lstore 5, 2) rfl rfl) rfl (by decide),
    st_lload_n hC (n := 13) (k := 2) (dc_X11_commonDivisor 13 (21, .lload_n 2, 1) rfl rfl) rfl rfl,
    st_lstore_n hC (n := 14) (k := 0) (dc_X11_commonDivisor 14 (22, .lstore_n 0, 1) rfl rfl) rfl rfl (by decide),
    st_lload hC (n := 15) (dc_X11_commonDivisor 15 (23, .lload 5, 2) rfl rfl) rfl,
    st_lstore_n hC (n := 16) (k := 2) (dc_X11_commonDivisor 16 (25, .lstore_n 2, 1) rfl rfl) rfl rfl (by decide),
    st_iinc hC (n := 17) (x := 1) (dc_X11_commonDivisor 17 (26, .iinc 4 1, 3) rfl rfl) rfl (by decide) (by decide),
    st_goto hC (n := 18) (dc_X11_commonDivisor 18 (29, .goto (-26), 3) rfl rfl) (by decide),
    st_lload_n hC (n := 19) (k := 0) (dc_X11_commonDivisor 19 (32, .lload_n 0, 1) rfl rfl) rfl rfl,
    st_lret hC (n := 20) hR (dc_X11_commonDivisor 20 (33, .lreturn, 1) rfl rfl), trivial⟩
set_option maxRecDepth 8000 in
theorem vc_X11_commonDivisor : VC P_X11_commonDivisor 7 Pre_X11_commonDivisor Fn_X11_commonDivisor := by
  rintro mm as hom hoa ⟨p, q, hp, hq, rfl⟩
  refine ⟨Nat.le_of_ble_eq_true rfl, fun X h => ?_⟩
  have hF : Fn_X11_commonDivisor mm [vL (lN p), vL (lN q)] = (some (vL (lN (Nat.gcd p q))), mm) := by
    show (some (vL (lN (Nat.gcd (lN p).toInt.toNat (lN q).toInt.toNat))), mm) = _
    rw [pk_lT (by omega), pk_lT (by omega)]
    rfl
  rw [hF, ← gdN_ok 40 100 p q hq (by omega)] at h
  obtain ⟨R, eR⟩ : ∃ R, R = gdN 100 p q := ⟨_, rfl⟩
  rw [← eR] at h
  have loop : ∀ i, i ≤ 100 → ∀ u v, u < 2 ^ 40 → v < 2 ^ 40 → R = gdN (100 - i) u v → ∀ L5, X 2 [some (vL ((lN u))), none, some (vL ((lN v))), none, some (vI (nI i)), L5, none] [] mm := by
    refine up_ind 100 ?_ (fun i hi ih => ?_)
    · intro u v hu hv hR L5
      rw [Nat.sub_self, gdN] at hR
      show X 2 [some (vL (lN u)), none, some (vL (lN v)), none, some (vI (nI 100)), L5, none] [] mm
      refine h (fun _ => false) 3000 2 _ _ _ ?_
      refine br_t (show 100 ≤ nI 100 from Int32.le_refl _) ?_
      show ((some (vL (lN u)) : Option MV), mm) = _
      rw [hR]
    · intro u v hu hv hR L5
      rw [show 100 - i = (100 - (i + 1)) + 1 by omega, gdN] at hR
      have n4 : ¬ (100 : Int32) ≤ nI i := show ¬ nI 100 ≤ nI i from nI_ge hi (by omega)
      by_cases h0 : v = 0
      · rw [if_pos h0] at hR
        subst h0
        show X 2 [some (vL (lN u)), none, some (vL (lN 0)), none, some (vI (nI i)), L5, none] [] mm
        refine h (fun _ => false) 3000 2 _ _ _ ?_
        refine br_f (show ¬ (100 ≤ nI i) from n4) ?_
        refine br_t (show lg_cmp (lN 0) 0 = 0 from by decide) ?_
        show ((some (vL (lN u)) : Option MV), mm) = _
        rw [hR]
      · rw [if_neg h0] at hR
        have n0 : ¬ lg_cmp (lN v) 0 = 0 := fun z => h0 ((pk_lEQ (a := v) (b := 0) (by omega) (by omega)).mp ((lg_cmp_eq _ _).mp z))
        have nv : ¬ lN v = 0 := fun z => h0 ((pk_lEQ (a := v) (b := 0) (by omega) (by omega)).mp z)
        have er : lN u - lN u / lN v * lN v = lN (u % v) := pk_lRem (by omega) (by omega) (by omega)
        have z := ih v (u % v) hv (Nat.lt_trans (Nat.mod_lt _ (by omega)) hv) hR
        show X 2 [some (vL (lN u)), none, some (vL (lN v)), none, some (vI (nI i)), L5, none] [] mm
        refine h (fun i => Nat.beq i 2) 3000 2 _ _ _ ?_
        refine br_f (show ¬ (100 ≤ nI i) from n4) ?_
        refine br_f (show ¬ (lg_cmp (lN v) 0 = 0) from n0) ?_
        refine And.intro nv ?_
        show X 2 [some (vL (lN v)), none, some (vL ((lN u) - (lN u) / (lN v) * (lN v))), none, some (vI ((nI i) + 1)), some (vL ((lN u) - (lN u) / (lN v) * (lN v))), none] [] mm
        rw [er, nI_1]
        exact z _
  show X 0 [some (vL (lN p)), none, some (vL (lN q)), none, none, none, none] [] mm
  refine h (fun i => Nat.beq i 2) 3000 0 _ _ _ ?_
  show X 2 [some (vL (lN p)), none, some (vL (lN q)), none, some (vI 0), none, none] [] mm
  exact loop 0 (by omega) p q hp hq eR none
theorem con_X11_commonDivisor (l : Launch) : CON l y_X11_commonDivisor prog_1_method_80_code 7 (some .long) rm_X11_commonDivisor Pre_X11_commonDivisor Fn_X11_commonDivisor := CON_of (by decide) rfl rfl (sa_X11_commonDivisor l) vc_X11_commonDivisor
def tfM (m : MM) (p q : Nat) : MM := mL (mL m 11 0 16 (lN (p / Nat.gcd p q))) 11 0 17 (lN (q / Nat.gcd p q))

--tpl ⟨_, _, by assumption, by omega, by assumption, rfl⟩ ||  || tfM {m} ({1}).toInt.toNat ({2}).toInt.toNat
def Pre_X11_tellFraction : PreT := fun _ as => ∃ p q : Nat, p < 2 ^ 40 ∧ 0 < q ∧ q < 2 ^ 40 ∧ as = [vR 11 0, vL (lN p), vL (lN q)]
def Fn_X11_tellFraction : FnT := fun m as => match as with
  | [_, Sum.inr (Sum.inl x), Sum.inr (Sum.inl y)] => (none, tfM m x.toInt.toNat y.toInt.toNat)
  | _ => (none, m)
abbrev y_X11_tellFraction : MethodName := ⟨"GivenUp", "tellFraction", "(JJ)V"⟩
def P_X11_tellFraction : List StpT := [s_lload 1, s_lload 3, s_callS 2 Pre_X11_commonDivisor Fn_X11_commonDivisor, s_lstore 5, s_lload 5, s_lc 0, s_lcmp, s_ifle 18, s_aload 0, s_lload 1, s_lload 5, s_ldiv, s_putL 11 16, s_aload 0, s_lload 3, s_lload 5, s_ldiv, s_putL 11 17, s_vret]
def pc_X11_tellFraction : Nat → Nat := fun i => [0, 1, 2, 5, 7, 9, 10, 11, 14, 15, 16, 18, 19, 22, 23, 24, 26, 27, 30].getD i 0
def dl_X11_tellFraction : List (Nat × Instr × Nat) := [(0, .lload_n 1, 1), (1, .lload_n 3, 1), (2, .invokestatic 459, 3), (5, .lstore 5, 2), (7, .lload 5, 2), (9, .lconst 0, 1), (10, .lcmp, 1), (11, .ifCond .le 19, 3), (14, .aload_n 0, 1), (15, .lload_n 1, 1), (16, .lload 5, 2), (18, .ldiv, 1), (19, .putfield 101, 3), (22, .aload_n 0, 1), (23, .lload_n 3, 1), (24, .lload 5, 2), (26, .ldiv, 1), (27, .putfield 105, 3), (30, .return_, 1)]
theorem dc_X11_tellFraction : DEC prog_1_method_79_code pc_X11_tellFraction dl_X11_tellFraction := DEC_of (by decide +kernel)
abbrev rm_X11_tellFraction : Room := { frames := 1, cells := 0, slots := 0, locals := 26 }
set_option maxRecDepth 20000 in
theorem sa_X11_tellFraction (l : Launch) : SNDALL l prog_1_method_79_code "GivenUp" 7 none rm_X11_tellFraction P_X11_tellFraction pc_X11_tellFraction := fun p e s m args below meth c cells slots Q D dA ad A RR hC hR => by
  have hM := RTX_room (R := rm_X11_tellFraction) hR
  exact ⟨st_lload_n hC (n := 0) (k := 1) (dc_X11_tellFraction 0 (0, .lload_n 1, 1) rfl rfl) rfl rfl,
    st_lload_n hC (n := 1) (k := 3) (dc_X11_tellFraction 1 (1, .lload_n 3, 1) rfl rfl) rfl rfl,
    st_callS hC (n := 2) (na := 2) (con_X11_commonDivisor l) (dc_X11_tellFraction 2 (2, .invokestatic 459, 3) rfl rfl) rfl wd_1252 wd_143 (by decide) ⟨rfl, rfl, by decide, by decide⟩ hM wd_1250 wd_1251,
    st_lstore hC (n := 3) (dc_X11_tellFraction 3 (5, .lstore 5, 2) rfl rfl) rfl (by decide),
    st_lload hC (n := 4) (dc_X11_tellFraction 4 (7, .lload 5, 2) rfl rfl) rfl,
    st_lconst hC (n := 5) (x := 0) (dc_X11_tellFraction 5 (9, .lconst 0, 1) rfl rfl) rfl (by decide),
    st_lcmp hC (n := 6) (dc_X11_tellFraction 6 (10, .lcmp, 1) rfl rfl) rfl,
    st_ifle hC (n := 7) (dc_X11_tellFraction 7 (11, .ifCond .le 19, 3) rfl rfl) rfl (by decide),
    st_aload_n hC (n := 8) (k := 0) (dc_X11_tellFraction 8 (14, .aload_n 0, 1) rfl rfl) rfl rfl,
    st_lload_n hC (n := 9) (k := 1) (dc_X11_tellFraction 9 (15, .lload_n 1, 1) rfl rfl) rfl rfl,
    st_lload hC (n := 10) (dc_X11_tellFraction 10 (16, .lload 5, 2) rfl rfl) rfl,
    st_ldiv hC (n := 11) (dc_X11_tellFraction 11 (18, .ldiv, 1) rfl rfl) rfl,
    st_putL hC (n := 12) (k := 11) (j := 16) (dc_X11_tellFraction 12 (19, .putfield 101, 3) rfl rfl) rfl clf_11 (by decide) rfl rfl rfl wd_727,
    st_aload_n hC (n := 13) (k := 0) (dc_X11_tellFraction 13 (22, .aload_n 0, 1) rfl rfl) rfl rfl,
    st_lload_n hC (n := 14) (k := 3) (dc_X11_tellFraction 14 (23, .lload_n 3, 1) rfl rfl) rfl rfl,
    st_lload hC (n := 15) (dc_X11_tellFraction 15 (24, .lload 5, 2) rfl rfl) rfl,
    st_ldiv hC (n := 16) (dc_X11_tellFraction 16 (26, .ldiv, 1) rfl rfl) rfl,
    st_putL hC (n := 17) (k := 11) (j := 17) (dc_X11_tellFraction 17 (27, .putfield 105, 3) rfl rfl) rfl clf_11 (by decide) rfl rfl rfl wd_728,
    st_vret hC (n := 18) hR (dc_X11_tellFraction 18 (30, .return_, 1) rfl rfl), trivial⟩
set_option maxRecDepth 8000 in
theorem vc_X11_tellFraction : VC P_X11_tellFraction 7 Pre_X11_tellFraction Fn_X11_tellFraction := by
  rintro mm as hom hoa ⟨p, q, hp, hq0, hq, rfl⟩
  refine ⟨Nat.le_of_ble_eq_true rfl, fun X h => ?_⟩
  have tp : (lN p).toInt.toNat = p := by rw [pk_lT (by omega)]; rfl
  have tq : (lN q).toInt.toNat = q := by rw [pk_lT (by omega)]; rfl
  have hF : Fn_X11_tellFraction mm [vR 11 0, vL (lN p), vL (lN q)] = (none, tfM mm p q) := by
    show (none, tfM mm (lN p).toInt.toNat (lN q).toInt.toNat) = _
    rw [tp, tq]
  rw [hF] at h
  obtain ⟨g, eg⟩ : ∃ g, g = Nat.gcd p q := ⟨_, rfl⟩
  have hg : 0 < g := by rw [eg]; exact Nat.gcd_pos_of_pos_right _ hq0
  have hg2 : g ≤ q := by rw [eg]; exact Nat.gcd_le_right _ hq0
  unfold tfM at h
  rw [← eg] at h
  have ng : ¬ lN g = 0 := fun z => absurd ((pk_lEQ (a := g) (b := 0) (by omega) (by omega)).mp z) (by omega)
  have n7 : ¬ lg_cmp (lN g) 0 ≤ 0 := by
    have : 0 < lg_cmp (lN g) 0 := by
      rw [lg_cmp_gt, Int64.lt_iff_toInt_lt, pk_lT (show g < _ by omega)]
      show (0 : Int) < _
      omega
    exact Int32.not_le.mpr this
  have s4 : X 4 [some (vR 11 0), some (vL ((lN p))), none, some (vL ((lN q))), none, some (vL ((lN g))), none] [] mm := by
    show X 4 [some (vR 11 0), some (vL (lN p)), none, some (vL (lN q)), none, some (vL (lN g)), none] [] mm
    refine h (fun _ => false) 3000 4 _ _ _ ?_
    refine br_f (show ¬ (lg_cmp (lN g) 0 ≤ 0) from n7) ?_
    refine And.intro ng ?_
    refine And.intro ng ?_
    show ((none : Option MV), mL (mL mm 11 0 16 ((lN p) / (lN g))) 11 0 17 ((lN q) / (lN g))) = _
    rw [pk_lDiv (by omega) hg (by omega), pk_lDiv (by omega) hg (by omega)]
  show X 0 [some (vR 11 0), some (vL (lN p)), none, some (vL (lN q)), none, none, none] [] mm
  refine h (fun i => Nat.beq i 4) 3000 0 _ _ _ ?_
  refine And.intro (show Pre_X11_commonDivisor mm [vL (lN p), vL (lN q)] from ⟨p, q, hp, hq, rfl⟩) ?_
  show X 4 [some (vR 11 0), some (vL (lN p)), none, some (vL (lN q)), none, some (vL (lN (Nat.gcd ((lN p)).toInt.toNat ((lN q)).toInt.toNat))), none] [] mm
  rw [tp, tq, ← eg]
  exact s4
theorem con_X11_tellFraction (l : Launch) : CON l y_X11_tellFraction prog_1_method_79_code 7 none rm_X11_tellFraction Pre_X11_tellFraction Fn_X11_tellFraction := CON_of (by decide) rfl rfl (sa_X11_tellFraction l) vc_X11_tellFraction
def cl_share (m : MM) (x y : Int32) : Option MV × MM := if npC m x y then dnC m 1 else if 0 < syA (abV m (m.2.2 0)) (thA (abV m (m.2.2 0)) x) y.toNatClampNeg then alC (tfM m (hdA (abV m (m.2.2 0)) x y.toNatClampNeg).toNatClampNeg (syA (abV m (m.2.2 0)) (thA (abV m (m.2.2 0)) x) y.toNatClampNeg).toNatClampNeg) else dnC m 6

def Pre_X11_share : PreT := fun m as => VNx m ∧ HBo (abV m (m.2.2 0)) ∧ ∃ x y : Int32, as = [vR 11 0, vI x, vI y]
def Fn_X11_share : FnT := fun m as => match as with
  | [_, Sum.inl x, Sum.inl y] => cl_share m x y
  | _ => (none, m)
abbrev y_X11_share : MethodName := ⟨"GivenUp", "share", "(II)Z"⟩
def P_X11_share : List StpT := [s_aload 0, s_iload 1, s_iload 2, s_callV 11 2 Pre_X11_isNoPair Fn_X11_isNoPair, s_ifeq 9, s_aload 0, s_ic (1), s_callV 11 1 Pre_X11_deny Fn_X11_deny, s_zret, s_aload 0, s_getD 11 12 6 0, s_aload 0, s_getD 11 12 6 0, s_iload 1, s_callV 6 1 Pre_X6_goods Fn_X6_goods, s_iload 2, s_callV 6 2 Pre_X6_saying Fn_X6_saying, s_istore 3, s_iload 3, s_ifgt 24, s_aload 0, s_ic (6), s_callV 11 1 Pre_X11_deny Fn_X11_deny, s_zret, s_aload 0, s_aload 0, s_getD 11 12 6 0, s_iload 1, s_iload 2, s_callV 6 2 Pre_X6_hears Fn_X6_hears, s_i2l, s_iload 3, s_i2l, s_callV 11 2 Pre_X11_tellFraction Fn_X11_tellFraction, s_aload 0, s_callV 11 0 Pre_X11_allow Fn_X11_allow, s_zret]
def pc_X11_share : Nat → Nat := fun i => [0, 1, 2, 3, 6, 9, 10, 11, 14, 15, 16, 19, 20, 23, 24, 27, 28, 31, 32, 33, 36, 37, 39, 42, 43, 44, 45, 48, 49, 50, 53, 54, 55, 56, 59, 60, 63].getD i 0
def dl_X11_share : List (Nat × Instr × Nat) := [(0, .aload_n 0, 1), (1, .iload_n 1, 1), (2, .iload_n 2, 1), (3, .invokevirtual 288, 3), (6, .ifCond .eq 9, 3), (9, .aload_n 0, 1), (10, .iconst 1, 1), (11, .invokevirtual 119, 3), (14, .ireturn, 1), (15, .aload_n 0, 1), (16, .getfield 87, 3), (19, .aload_n 0, 1), (20, .getfield 87, 3), (23, .iload_n 1, 1), (24, .invokevirtual 252, 3), (27, .iload_n 2, 1), (28, .invokevirtual 339, 3), (31, .istore_n 3, 1), (32, .iload_n 3, 1), (33, .ifCond .gt 10, 3), (36, .aload_n 0, 1), (37, .bipush 6, 2), (39, .invokevirtual 119, 3), (42, .ireturn, 1), (43, .aload_n 0, 1), (44, .aload_n 0, 1), (45, .getfield 87, 3), (48, .iload_n 1, 1), (49, .iload_n 2, 1), (50, .invokevirtual 312, 3), (53, .i2l, 1), (54, .iload_n 3, 1), (55, .i2l, 1), (56, .invokevirtual 342, 3), (59, .aload_n 0, 1), (60, .invokevirtual 127, 3), (63, .ireturn, 1)]
theorem dc_X11_share : DEC prog_1_method_34_code pc_X11_share dl_X11_share := DEC_of (by decide +kernel)
abbrev rm_X11_share : Room := { frames := 2, cells := 0, slots := 0, locals := 52 }
set_option maxRecDepth 20000 in
theorem sa_X11_share (l : Launch) : SNDALL l prog_1_method_34_code "GivenUp" 4 (some .boolean) rm_X11_share P_X11_share pc_X11_share := fun p e s m args below meth c cells slots Q D dA ad A RR hC hR => by
  have hM := RTX_room (R := rm_X11_share) hR
  exact ⟨st_aload_n hC (n := 0) (k := 0) (dc_X11_share 0 (0, .aload_n 0, 1) rfl rfl) rfl rfl,
    st_iload_n hC (n := 1) (k := 1) (dc_X11_share 1 (1, .iload_n 1, 1) rfl rfl) rfl rfl,
    st_iload_n hC (n := 2) (k := 2) (dc_X11_share 2 (2, .iload_n 2, 1) rfl rfl) rfl rfl,
    st_callV hC (n := 3) (k := 11) (na := 2) (con_X11_isNoPair l) (dc_X11_share 3 (3, .invokevirtual 288, 3) rfl rfl) rfl wd_1090 wd_143 (by decide) ⟨rfl, rfl, by decide, by decide⟩ hM wd_1087 wd_1089 wd_24 clf_11,
    st_ifeq hC (n := 4) (dc_X11_share 4 (6, .ifCond .eq 9, 3) rfl rfl) rfl (by decide),
    st_aload_n hC (n := 5) (k := 0) (dc_X11_share 5 (9, .aload_n 0, 1) rfl rfl) rfl rfl,
    st_iconst hC (n := 6) (x := 1) (dc_X11_share 6 (10, .iconst 1, 1) rfl rfl) rfl (by decide),
    st_callV hC (n := 7) (k := 11) (na := 1) (con_X11_deny l) (dc_X11_share 7 (11, .invokevirtual 119, 3) rfl rfl) rfl wd_794 wd_143 (by decide) ⟨rfl, rfl, by decide, by decide⟩ hM wd_791 wd_793 wd_0 clf_11,
    st_zret hC (n := 8) hR (dc_X11_share 8 (14, .ireturn, 1) rfl rfl),
    st_aload_n hC (n := 9) (k := 0) (dc_X11_share 9 (15, .aload_n 0, 1) rfl rfl) rfl rfl,
    st_getD hC (n := 10) (k := 11) (j := 12) (dc_X11_share 10 (16, .getfield 87, 3) rfl rfl) rfl clf_11 (by decide) rfl (by decide) wd_723,
    st_aload_n hC (n := 11) (k := 0) (dc_X11_share 11 (19, .aload_n 0, 1) rfl rfl) rfl rfl,
    st_getD hC (n := 12) (k := 11) (j := 12) (dc_X11_share 12 (20, .getfield 87, 3) rfl rfl) rfl clf_11 (by decide) rfl (by decide) wd_723,
    st_iload_n hC (n := 13) (k := 1) (dc_X11_share 13 (23, .iload_n 1, 1) rfl rfl) rfl rfl,
    st_callV hC (n := 14) (k := 6) (na := 1) (con_X6_goods l) (dc_X11_share 14 (24, .invokevirtual 252, 3) rfl rfl) rfl wd_1035 wd_155 (by decide) ⟨rfl, rfl, by decide, by decide⟩ hM wd_1048 wd_1033 wd_1034 clf_6,
    st_iload_n hC (n := 15) (k := 2) (dc_X11_share 15 (27, .iload_n 2, 1) rfl rfl) rfl rfl,
    st_callV hC (n := 16) (k := 6) (na := 2) (con_X6_saying l) (dc_X11_share 16 (28, .invokevirtual 339, 3) rfl rfl) rfl wd_1147 wd_155 (by decide) ⟨rfl, rfl, by decide, by decide⟩ hM wd_1245 wd_1145 wd_1146 clf_6,
    st_istore_n hC (n := 17) (k := 3) (dc_X11_share 17 (31, .istore_n 3, 1) rfl rfl) rfl rfl (by decide),
    st_iload_n hC (n := 18) (k := 3) (dc_X11_share 18 (32, .iload_n 3, 1) rfl rfl) rfl rfl,
    st_ifgt hC (n := 19) (dc_X11_share 19 (33, .ifCond .gt 10, 3) rfl rfl) rfl (by decide),
    st_aload_n hC (n := 20) (k := 0) (dc_X11_share 20 (36, .aload_n 0, 1) rfl rfl) rfl rfl,
    st_bipush hC (n := 21) (x := 6) (dc_X11_share 21 (37, .bipush 6, 2) rfl rfl) rfl (by decide),
    st_callV hC (n := 22) (k := 11) (na := 1) (con_X11_deny l) (dc_X11_share 22 (39, .invokevirtual 119, 3) rfl rfl) rfl wd_794 wd_143 (by decide) ⟨rfl, rfl, by decide, by decide⟩ hM wd_791 wd_793 wd_0 clf_11,
    st_zret hC (n := 23) hR (dc_X11_share 23 (42, .ireturn, 1) rfl rfl),
    st_aload_n hC (n := 24) (k := 0) (dc_X11_share 24 (43, .aload_n 0, 1) rfl rfl) rfl rfl,
    st_aload_n hC (n := 25) (k := 0) (dc_X11_share 25 (44, .aload_n 0, 1) rfl rfl) rfl rfl,
    st_getD hC (n := 26) (k := 11) (j := 12) (dc_X11_share 26 (45, .getfield 87, 3) rfl rfl) rfl clf_11 (by decide) rfl (by decide) wd_723,
    st_iload_n hC (n := 27) (k := 1) (dc_X11_share 27 (48, .iload_n 1, 1) rfl rfl) rfl rfl,
    st_iload_n hC (n := 28) (k := 2) (dc_X11_share 28 (49, .iload_n 2, 1) rfl rfl) rfl rfl,
    st_callV hC (n := 29) (k := 6) (na := 2) (con_X6_hears l) (dc_X11_share 29 (50, .invokevirtual 312, 3) rfl rfl) rfl wd_1143 wd_155 (by decide) ⟨rfl, rfl, by decide, by decide⟩ hM wd_1140 wd_1141 wd_1142 clf_6,
    st_i2l hC (n := 30) (dc_X11_share 30 (53, .i2l, 1) rfl rfl) rfl,
    st_iload_n hC (n := 31) (k := 3) (dc_X11_share 31 (54, .iload_n 3, 1) rfl rfl) rfl rfl,
    st_i2l hC (n := 32) (dc_X11_share 32 (55, .i2l, 1) rfl rfl) rfl,
    st_callV hC (n := 33) (k := 11) (na := 2) (con_X11_tellFraction l) (dc_X11_share 33 (56, .invokevirtual 342, 3) rfl rfl) rfl wd_1249 wd_143 (by decide) ⟨rfl, rfl, by decide, by decide⟩ hM wd_1246 wd_1248 wd_28 clf_11,
    st_aload_n hC (n := 34) (k := 0) (dc_X11_share 34 (59, .aload_n 0, 1) rfl rfl) rfl rfl,
    st_callV hC (n := 35) (k := 11) (na := 0) (con_X11_allow l) (dc_X11_share 35 (60, .invokevirtual 127, 3) rfl rfl) rfl wd_803 wd_143 (by decide) ⟨rfl, rfl, by decide, by decide⟩ hM wd_800 wd_802 wd_1 clf_11,
    st_zret hC (n := 36) hR (dc_X11_share 36 (63, .ireturn, 1) rfl rfl), trivial⟩
set_option maxRecDepth 8000 in
theorem vc_X11_share : VC P_X11_share 4 Pre_X11_share Fn_X11_share := by
  rintro mm as hom hoa ⟨⟨ns, nm, nt, hV⟩, hB, x, y, rfl⟩
  refine ⟨Nat.le_of_ble_eq_true rfl, fun X h => ?_⟩
  have hN : mm.1 6 (mm.2.2 0) 14 = nI nm := hV.1.2.1.1
  have hm4 : nm ≤ 4 := hV.1.2.1.2
  obtain ⟨R, eR⟩ : ∃ R, R = cl_share mm x y := ⟨_, rfl⟩
  replace h : RUN P_X11_share (fun r m' => (r, m') = cl_share mm x y) X := h
  rw [← eR] at h
  unfold cl_share at eR
  have body : ¬ npC mm x y → (∃ j, j < nm ∧ y = nI j) → X 9 [some (vR 11 0), some (vI (x)), some (vI (y)), none] [] mm := by
    intro c ⟨j, hj, ey⟩
    have ejc : y.toNatClampNeg = j := by rw [ey]; exact nI_clamp (by omega)
    rw [if_neg c, ejc] at eR
    obtain ⟨p, q, hp, hq, e1, e2⟩ := hB x j (by omega)
    rw [e1, e2, nI_clamp hp, nI_clamp hq] at eR
    have e3 : (nI p).toInt64 = lN p := nI_l hp
    have e4 : (nI q).toInt64 = lN q := nI_l hq
    have tp : (lN p).toInt.toNat = p := by rw [pk_lT (by omega)]; rfl
    have tq : (lN q).toInt.toNat = q := by rw [pk_lT (by omega)]; rfl
    have s33 : 0 < q → R = alC (tfM mm p q) → X 33 [some (vR 11 0), some (vI (x)), some (vI (y)), some (vI (nI q))] [vL ((lN q)), vL ((lN p)), vR 11 0] mm := by
      intro q0 hR
      show X 33 [some (vR 11 0), some (vI x), some (vI y), some (vI (nI q))] [vL (lN q), vL (lN p), vR 11 0] mm
      refine h (fun _ => false) 3000 33 _ _ _ ?_
      refine And.intro (show Pre_X11_tellFraction mm [vR 11 0, vL (lN p), vL (lN q)] from ⟨p, q, by omega, q0, by omega, rfl⟩) ?_
      refine And.intro (show Pre_X11_allow (tfM mm ((lN p)).toInt.toNat ((lN q)).toInt.toNat) [vR 11 0] from rfl) ?_
      refine And.intro (Or.inr rfl) ?_
      show ((some (vI 1) : Option MV), stC (tfM mm ((lN p)).toInt.toNat ((lN q)).toInt.toNat) 0) = _
      rw [hR, tp, tq]
      rfl
    have s17 : X 17 [some (vR 11 0), some (vI (x)), some (vI (y)), none] [vI (nI q)] mm := by
      show X 17 [some (vR 11 0), some (vI x), some (vI y), none] [vI (nI q)] mm
      refine h (fun i => Nat.beq i 33) 3000 17 _ _ _ ?_
      refine br_c (fun b19 => ?_) (fun b19 => ?_)
      · -- 19: 0 < nI q taken
        replace b19 : 0 < nI q := b19
        refine And.intro (show Pre_X6_hears mm [vR 6 (mm.2.2 0), vI x, vI y] from ⟨_, ns, nm, nt, j, hV, by omega, _, by rw [ey]⟩) ?_
        show X 33 [some (vR 11 0), some (vI x), some (vI y), some (vI (nI q))] [vL ((nI q).toInt64), vL ((hdA (abV mm (mm.2.2 0)) x y.toNatClampNeg).toInt64), vR 11 0] mm
        rw [if_pos b19] at eR
        rw [show (0 : Int32) = nI 0 from rfl, nI_ltI (by omega) hq] at b19 
        rw [ejc, e1, e3, e4] 
        exact s33 b19 eR
      · -- 19: 0 < nI q on
        replace b19 : ¬ (0 < nI q) := b19
        refine And.intro (show Pre_X11_deny mm [vR 11 0, vI 6] from ⟨_, rfl⟩) ?_
        refine And.intro (Or.inl rfl) ?_
        show ((some (vI 0) : Option MV), stC mm 6) = _
        rw [eR, if_neg b19]
        rfl
    show X 9 [some (vR 11 0), some (vI x), some (vI y), none] [] mm
    refine h (fun i => Nat.beq i 17) 3000 9 _ _ _ ?_
    refine And.intro (show Pre_X6_goods mm [vR 6 (mm.2.2 0), vI x] from ⟨_, ns, nm, nt, hV, _, rfl⟩) ?_
    refine And.intro (show Pre_X6_saying mm [vR 6 (mm.2.2 0), vI (thA (abV mm (mm.2.2 0)) x), vI y] from ⟨_, ns, nm, nt, j, hV, by omega, _, by rw [ey]⟩) ?_
    show X 17 [some (vR 11 0), some (vI x), some (vI y), none] [vI (syA (abV mm (mm.2.2 0)) (thA (abV mm (mm.2.2 0)) x) y.toNatClampNeg)] mm
    rw [ejc, e2]
    exact s17
  show X 0 [some (vR 11 0), some (vI x), some (vI y), none] [] mm
  refine h (fun i => Nat.beq i 9) 3000 0 _ _ _ ?_
  refine And.intro (show Pre_X11_isNoPair mm [vR 11 0, vI x, vI y] from ⟨_, _, rfl⟩) ?_
  refine br_c (fun b4 => ?_) (fun b4 => ?_)
  · -- 4: bI (npC mm x y) = 0 taken
    replace b4 : ¬ (npC mm x y) := bI_0.mp b4
    show X 9 [some (vR 11 0), some (vI x), some (vI y), none] [] mm
    exact body b4 (ou_in hN (by omega) (fun z => b4 (Or.inr z)))
  · -- 4: bI (npC mm x y) = 0 on
    replace b4 : npC mm x y := bI_n0.mp b4
    refine And.intro (show Pre_X11_deny mm [vR 11 0, vI 1] from ⟨_, rfl⟩) ?_
    refine And.intro (Or.inl rfl) ?_
    show ((some (vI 0) : Option MV), stC mm 1) = _
    rw [eR, if_pos b4]
    rfl
theorem con_X11_share (l : Launch) : CON l y_X11_share prog_1_method_34_code 4 (some .boolean) rm_X11_share Pre_X11_share Fn_X11_share := CON_of (by decide) rfl rfl (sa_X11_share l) vc_X11_share
def cl_lived (m : MM) (x : Int32) : Option MV × MM := if x < 0 ∨ 5 ≤ x then rfC m 1 else if m.1 11 0 11 = 0 then rfC m 6 else gvC m (m.1 53 0 x.toNatClampNeg)

def Pre_X11_lived : PreT := fun _ as => ∃ x : Int32, as = [vR 11 0, vI x]
def Fn_X11_lived : FnT := fun m as => match as with
  | [_, Sum.inl x] => cl_lived m x
  | _ => (none, m)
abbrev y_X11_lived : MethodName := ⟨"GivenUp", "lived", "(I)I"⟩
def P_X11_lived : List StpT := [s_iload 1, s_ic (5), s_callS 2 Pre_X11_isOut Fn_X11_isOut, s_ifeq 8, s_aload 0, s_ic (1), s_callV 11 1 Pre_X11_refuse Fn_X11_refuse, s_iret, s_aload 0, s_getI 11 11, s_ifeq 18, s_aload 0, s_aload 0, s_getR 11 10 53, s_iload 1, s_iald, s_callV 11 1 Pre_X11_answer Fn_X11_answer, s_goto 21, s_aload 0, s_ic (6), s_callV 11 1 Pre_X11_refuse Fn_X11_refuse, s_iret]
def pc_X11_lived : Nat → Nat := fun i => [0, 1, 2, 5, 8, 9, 10, 13, 14, 15, 18, 21, 22, 23, 26, 27, 28, 31, 34, 35, 37, 40].getD i 0
def dl_X11_lived : List (Nat × Instr × Nat) := [(0, .iload_n 1, 1), (1, .iconst 5, 1), (2, .invokestatic 115, 3), (5, .ifCond .eq 9, 3), (8, .aload_n 0, 1), (9, .iconst 1, 1), (10, .invokevirtual 139, 3), (13, .ireturn, 1), (14, .aload_n 0, 1), (15, .getfield 82, 3), (18, .ifCond .eq 16, 3), (21, .aload_n 0, 1), (22, .aload_n 0, 1), (23, .getfield 78, 3), (26, .iload_n 1, 1), (27, .iaload, 1), (28, .invokevirtual 178, 3), (31, .goto 9, 3), (34, .aload_n 0, 1), (35, .bipush 6, 2), (37, .invokevirtual 139, 3), (40, .ireturn, 1)]
theorem dc_X11_lived : DEC prog_1_method_60_code pc_X11_lived dl_X11_lived := DEC_of (by decide +kernel)
abbrev rm_X11_lived : Room := { frames := 1, cells := 0, slots := 0, locals := 21 }
set_option maxRecDepth 20000 in
theorem sa_X11_lived (l : Launch) : SNDALL l prog_1_method_60_code "GivenUp" 2 (some .int) rm_X11_lived P_X11_lived pc_X11_lived := fun p e s m args below meth c cells slots Q D dA ad A RR hC hR => by
  have hM := RTX_room (R := rm_X11_lived) hR
  exact ⟨st_iload_n hC (n := 0) (k := 1) (dc_X11_lived 0 (0, .iload_n 1, 1) rfl rfl) rfl rfl,
    st_iconst hC (n := 1) (x := 5) (dc_X11_lived 1 (1, .iconst 5, 1) rfl rfl) rfl (by decide),
    st_callS hC (n := 2) (na := 2) (con_X11_isOut l) (dc_X11_lived 2 (2, .invokestatic 115, 3) rfl rfl) rfl wd_790 wd_143 (by decide) ⟨rfl, rfl, by decide, by decide⟩ hM wd_788 wd_789,
    st_ifeq hC (n := 3) (dc_X11_lived 3 (5, .ifCond .eq 9, 3) rfl rfl) rfl (by decide),
    st_aload_n hC (n := 4) (k := 0) (dc_X11_lived 4 (8, .aload_n 0, 1) rfl rfl) rfl rfl,
    st_iconst hC (n := 5) (x := 1) (dc_X11_lived 5 (9, .iconst 1, 1) rfl rfl) rfl (by decide),
    st_callV hC (n := 6) (k := 11) (na := 1) (con_X11_refuse l) (dc_X11_lived 6 (10, .invokevirtual 139, 3) rfl rfl) rfl wd_824 wd_143 (by decide) ⟨rfl, rfl, by decide, by decide⟩ hM wd_821 wd_823 wd_3 clf_11,
    st_iret hC (n := 7) hR (dc_X11_lived 7 (13, .ireturn, 1) rfl rfl),
    st_aload_n hC (n := 8) (k := 0) (dc_X11_lived 8 (14, .aload_n 0, 1) rfl rfl) rfl rfl,
    st_getI hC (n := 9) (k := 11) (j := 11) (dc_X11_lived 9 (15, .getfield 82, 3) rfl rfl) rfl clf_11 (by decide) rfl wd_722,
    st_ifeq hC (n := 10) (dc_X11_lived 10 (18, .ifCond .eq 16, 3) rfl rfl) rfl (by decide),
    st_aload_n hC (n := 11) (k := 0) (dc_X11_lived 11 (21, .aload_n 0, 1) rfl rfl) rfl rfl,
    st_aload_n hC (n := 12) (k := 0) (dc_X11_lived 12 (22, .aload_n 0, 1) rfl rfl) rfl rfl,
    st_getR hC (n := 13) (k := 11) (j := 10) (dc_X11_lived 13 (23, .getfield 78, 3) rfl rfl) rfl clf_11 (by decide) rfl (by decide) wd_721,
    st_iload_n hC (n := 14) (k := 1) (dc_X11_lived 14 (26, .iload_n 1, 1) rfl rfl) rfl rfl,
    st_iald hC (n := 15) (dc_X11_lived 15 (27, .iaload, 1) rfl rfl) rfl,
    st_callV hC (n := 16) (k := 11) (na := 1) (con_X11_answer l) (dc_X11_lived 16 (28, .invokevirtual 178, 3) rfl rfl) rfl wd_967 wd_143 (by decide) ⟨rfl, rfl, by decide, by decide⟩ hM wd_964 wd_966 wd_17 clf_11,
    st_goto hC (n := 17) (dc_X11_lived 17 (31, .goto 9, 3) rfl rfl) (by decide),
    st_aload_n hC (n := 18) (k := 0) (dc_X11_lived 18 (34, .aload_n 0, 1) rfl rfl) rfl rfl,
    st_bipush hC (n := 19) (x := 6) (dc_X11_lived 19 (35, .bipush 6, 2) rfl rfl) rfl (by decide),
    st_callV hC (n := 20) (k := 11) (na := 1) (con_X11_refuse l) (dc_X11_lived 20 (37, .invokevirtual 139, 3) rfl rfl) rfl wd_824 wd_143 (by decide) ⟨rfl, rfl, by decide, by decide⟩ hM wd_821 wd_823 wd_3 clf_11,
    st_iret hC (n := 21) hR (dc_X11_lived 21 (40, .ireturn, 1) rfl rfl), trivial⟩
set_option maxRecDepth 8000 in
theorem vc_X11_lived : VC P_X11_lived 2 Pre_X11_lived Fn_X11_lived := by
  rintro mm as hom hoa ⟨x, rfl⟩
  refine ⟨Nat.le_of_ble_eq_true rfl, fun X h => ?_⟩
  show X 0 [some (vR 11 0), some (vI x)] [] mm
  refine h (fun _ => false) 3000 0 _ _ _ ?_
  refine And.intro (show Pre_X11_isOut mm [vI x, vI 5] from ⟨_, _, rfl⟩) ?_
  refine br_c (fun b3 => ?_) (fun b3 => ?_)
  · -- 3: bI (x < 0 ∨ 5 ≤ x) = 0 taken
    replace b3 : ¬ (x < 0 ∨ 5 ≤ x) := bI_0.mp b3
    obtain ⟨i, hi, ex⟩ := ou_in (A := 5) (n := 5) rfl (by decide) b3
    refine br_c (fun b10 => ?_) (fun b10 => ?_)
    · -- 10: mm.1 11 0 11 = 0 taken
      replace b10 : mm.1 11 0 11 = 0 := b10
      refine And.intro (show Pre_X11_refuse mm [vR 11 0, vI 6] from ⟨_, rfl⟩) ?_
      show ((some (vI (-1)) : Option MV), stC mm 6) = _
      show _ = cl_lived mm x
      unfold cl_lived
      (try simp only [if_neg b3, if_pos b10])
      all_goals exact rfl
    · -- 10: mm.1 11 0 11 = 0 on
      replace b10 : ¬ (mm.1 11 0 11 = 0) := b10
      refine And.intro (show inb x (alen 53) = true from (inb_o 5 rfl rfl ex (by omega))) ?_
      refine And.intro (show Pre_X11_answer mm [vR 11 0, vI (mm.1 53 0 x.toNatClampNeg)] from ⟨_, rfl⟩) ?_
      show ((some (vI (mm.1 53 0 x.toNatClampNeg)) : Option MV), stC mm 0) = _
      show _ = cl_lived mm x
      unfold cl_lived
      (try simp only [if_neg b3, if_neg b10])
      all_goals exact rfl
  · -- 3: bI (x < 0 ∨ 5 ≤ x) = 0 on
    replace b3 : x < 0 ∨ 5 ≤ x := bI_n0.mp b3
    refine And.intro (show Pre_X11_refuse mm [vR 11 0, vI 1] from ⟨_, rfl⟩) ?_
    show ((some (vI (-1)) : Option MV), stC mm 1) = _
    show _ = cl_lived mm x
    unfold cl_lived
    (try simp only [if_pos b3])
    all_goals exact rfl
theorem con_X11_lived (l : Launch) : CON l y_X11_lived prog_1_method_60_code 2 (some .int) rm_X11_lived Pre_X11_lived Fn_X11_lived := CON_of (by decide) rfl rfl (sa_X11_lived l) vc_X11_lived
/-- a valley is marked as there or not -/
def ZZo (m : MM) (g : Nat) : Prop := m.1 9 g 6 = 0 ∨ m.1 9 g 6 = 1
def cl_mk1 (m : MM) : Option MV × MM := gvC (mI m 11 0 14 (m.1 11 0 14 + 1)) (m.1 11 0 14 + 1)
def cl_mark (m : MM) : Option MV × MM := if m.1 11 0 14 < 3 then cl_mk1 (vcM m (2 + (m.1 11 0 14).toNatClampNeg) (m.2.2 0)) else rfC m 4

def Pre_X11_mark : PreT := fun m as => ZZo m (m.2.2 0) ∧ (∃ k : Nat, k ≤ 3 ∧ m.1 11 0 14 = nI k) ∧ as = [vR 11 0]
def Fn_X11_mark : FnT := fun m _ => cl_mark m
abbrev y_X11_mark : MethodName := ⟨"GivenUp", "mark", "()I"⟩
def P_X11_mark : List StpT := [s_aload 0, s_getI 11 14, s_ic (3), s_iclt 8, s_aload 0, s_ic (4), s_callV 11 1 Pre_X11_refuse Fn_X11_refuse, s_iret, s_aload 0, s_getR 11 4 51, s_aload 0, s_getI 11 14, s_aald5 6 2, s_aload 0, s_getD 11 12 6 0, s_callV 6 1 Pre_X6_copy Fn_X6_copy, s_aload 0, s_dup, s_getI 11 14, s_ic (1), s_iadd, s_putI 11 14, s_aload 0, s_aload 0, s_getI 11 14, s_callV 11 1 Pre_X11_answer Fn_X11_answer, s_iret]
def pc_X11_mark : Nat → Nat := fun i => [0, 1, 4, 5, 8, 9, 10, 13, 14, 15, 18, 19, 22, 23, 24, 27, 30, 31, 32, 35, 36, 37, 40, 41, 42, 45, 48].getD i 0
def dl_X11_mark : List (Nat × Instr × Nat) := [(0, .aload_n 0, 1), (1, .getfield 94, 3), (4, .iconst 3, 1), (5, .if_icmp .lt 9, 3), (8, .aload_n 0, 1), (9, .iconst 4, 1), (10, .invokevirtual 139, 3), (13, .ireturn, 1), (14, .aload_n 0, 1), (15, .getfield 40, 3), (18, .aload_n 0, 1), (19, .getfield 94, 3), (22, .aaload, 1), (23, .aload_n 0, 1), (24, .getfield 87, 3), (27, .invokevirtual 449, 3), (30, .aload_n 0, 1), (31, .dup, 1), (32, .getfield 94, 3), (35, .iconst 1, 1), (36, .iadd, 1), (37, .putfield 94, 3), (40, .aload_n 0, 1), (41, .aload_n 0, 1), (42, .getfield 94, 3), (45, .invokevirtual 178, 3), (48, .ireturn, 1)]
theorem dc_X11_mark : DEC prog_1_method_62_code pc_X11_mark dl_X11_mark := DEC_of (by decide +kernel)
abbrev rm_X11_mark : Room := { frames := 3, cells := 0, slots := 0, locals := 68 }
set_option maxRecDepth 20000 in
theorem sa_X11_mark (l : Launch) : SNDALL l prog_1_method_62_code "GivenUp" 1 (some .int) rm_X11_mark P_X11_mark pc_X11_mark := fun p e s m args below meth c cells slots Q D dA ad A RR hC hR => by
  have hM := RTX_room (R := rm_X11_mark) hR
  exact ⟨st_aload_n hC (n := 0) (k := 0) (dc_X11_mark 0 (0, .aload_n 0, 1) rfl rfl) rfl rfl,
    st_getI hC (n := 1) (k := 11) (j := 14) (dc_X11_mark 1 (1, .getfield 94, 3) rfl rfl) rfl clf_11 (by decide) rfl wd_725,
    st_iconst hC (n := 2) (x := 3) (dc_X11_mark 2 (4, .iconst 3, 1) rfl rfl) rfl (by decide),
    st_iclt hC (n := 3) (dc_X11_mark 3 (5, .if_icmp .lt 9, 3) rfl rfl) rfl (by decide),
    st_aload_n hC (n := 4) (k := 0) (dc_X11_mark 4 (8, .aload_n 0, 1) rfl rfl) rfl rfl,
    st_iconst hC (n := 5) (x := 4) (dc_X11_mark 5 (9, .iconst 4, 1) rfl rfl) rfl (by decide),
    st_callV hC (n := 6) (k := 11) (na := 1) (con_X11_refuse l) (dc_X11_mark 6 (10, .invokevirtual 139, 3) rfl rfl) rfl wd_824 wd_143 (by decide) ⟨rfl, rfl, by decide, by decide⟩ hM wd_821 wd_823 wd_3 clf_11,
    st_iret hC (n := 7) hR (dc_X11_mark 7 (13, .ireturn, 1) rfl rfl),
    st_aload_n hC (n := 8) (k := 0) (dc_X11_mark 8 (14, .aload_n 0, 1) rfl rfl) rfl rfl,
    st_getR hC (n := 9) (k := 11) (j := 4) (dc_X11_mark 9 (15, .getfield 40, 3) rfl rfl) rfl clf_11 (by decide) rfl (by decide) wd_715,
    st_aload_n hC (n := 10) (k := 0) (dc_X11_mark 10 (18, .aload_n 0, 1) rfl rfl) rfl rfl,
    st_getI hC (n := 11) (k := 11) (j := 14) (dc_X11_mark 11 (19, .getfield 94, 3) rfl rfl) rfl clf_11 (by decide) rfl wd_725,
    st_aald5 hC (n := 12) (dc_X11_mark 12 (22, .aaload, 1) rfl rfl) rfl aald5_ok,
    st_aload_n hC (n := 13) (k := 0) (dc_X11_mark 13 (23, .aload_n 0, 1) rfl rfl) rfl rfl,
    st_getD hC (n := 14) (k := 11) (j := 12) (dc_X11_mark 14 (24, .getfield 87, 3) rfl rfl) rfl clf_11 (by decide) rfl (by decide) wd_723,
    st_callV hC (n := 15) (k := 6) (na := 1) (con_X6_copy l) (dc_X11_mark 15 (27, .invokevirtual 449, 3) rfl rfl) rfl wd_1527 wd_155 (by decide) ⟨rfl, rfl, by decide, by decide⟩ hM wd_1524 wd_1525 wd_1526 clf_6,
    st_aload_n hC (n := 16) (k := 0) (dc_X11_mark 16 (30, .aload_n 0, 1) rfl rfl) rfl rfl,
    st_dup hC (n := 17) (dc_X11_mark 17 (31, .dup, 1) rfl rfl) rfl,
    st_getI hC (n := 18) (k := 11) (j := 14) (dc_X11_mark 18 (32, .getfield 94, 3) rfl rfl) rfl clf_11 (by decide) rfl wd_725,
    st_iconst hC (n := 19) (x := 1) (dc_X11_mark 19 (35, .iconst 1, 1) rfl rfl) rfl (by decide),
    st_iadd hC (n := 20) (dc_X11_mark 20 (36, .iadd, 1) rfl rfl) rfl,
    st_putI hC (n := 21) (k := 11) (j := 14) (dc_X11_mark 21 (37, .putfield 94, 3) rfl rfl) rfl clf_11 (by decide) rfl rfl rfl wd_725,
    st_aload_n hC (n := 22) (k := 0) (dc_X11_mark 22 (40, .aload_n 0, 1) rfl rfl) rfl rfl,
    st_aload_n hC (n := 23) (k := 0) (dc_X11_mark 23 (41, .aload_n 0, 1) rfl rfl) rfl rfl,
    st_getI hC (n := 24) (k := 11) (j := 14) (dc_X11_mark 24 (42, .getfield 94, 3) rfl rfl) rfl clf_11 (by decide) rfl wd_725,
    st_callV hC (n := 25) (k := 11) (na := 1) (con_X11_answer l) (dc_X11_mark 25 (45, .invokevirtual 178, 3) rfl rfl) rfl wd_967 wd_143 (by decide) ⟨rfl, rfl, by decide, by decide⟩ hM wd_964 wd_966 wd_17 clf_11,
    st_iret hC (n := 26) hR (dc_X11_mark 26 (48, .ireturn, 1) rfl rfl), trivial⟩
set_option maxRecDepth 8000 in
theorem vc_X11_mark : VC P_X11_mark 1 Pre_X11_mark Fn_X11_mark := by
  rintro mm as hom hoa ⟨hZ, ⟨k, hk, ek⟩, rfl⟩
  refine ⟨Nat.le_of_ble_eq_true rfl, fun X h => ?_⟩
  have s16 : ∀ M, cl_mark mm = cl_mk1 M → X 16 [some (vR 11 0)] [] (M) := by
    intro M hR
    show X 16 [some (vR 11 0)] [] M
    refine h (fun _ => false) 3000 16 _ _ _ ?_
    refine And.intro (show Pre_X11_answer (mI M 11 0 14 ((M.1 11 0 14) + 1)) [vR 11 0, vI ((M.1 11 0 14) + 1)] from ⟨_, rfl⟩) ?_
    show ((some (vI ((M.1 11 0 14) + 1)) : Option MV), stC (mI M 11 0 14 ((M.1 11 0 14) + 1)) 0) = _
    refine Eq.trans ?_ hR.symm
    unfold cl_mk1 gvC 
    rfl
  show X 0 [some (vR 11 0)] [] mm
  refine h (fun i => Nat.beq i 16) 3000 0 _ _ _ ?_
  refine br_c (fun b3 => ?_) (fun b3 => ?_)
  · -- 3: mm.1 11 0 14 < 3 taken
    replace b3 : mm.1 11 0 14 < 3 := b3
    refine And.intro (show inb (mm.1 11 0 14) (alen 51) = true from (by have b := b3; rw [ek, show (3 : Int32) = nI 3 from rfl, nI_ltI (by omega) (by omega)] at b; exact inb_o 3 rfl rfl ek b)) ?_
    refine And.intro (show Pre_X6_copy mm [vR 6 (2 + (mm.1 11 0 14).toNatClampNeg), vR 6 (mm.2.2 0)] from ⟨_, _, hZ, rfl⟩) ?_
    show X 16 [some (vR 11 0)] [] (vcM mm (2 + (mm.1 11 0 14).toNatClampNeg) (mm.2.2 0))
    exact s16 _ (if_pos b3)
  · -- 3: mm.1 11 0 14 < 3 on
    replace b3 : ¬ (mm.1 11 0 14 < 3) := b3
    refine And.intro (show Pre_X11_refuse mm [vR 11 0, vI 4] from ⟨_, rfl⟩) ?_
    show ((some (vI (-1)) : Option MV), stC mm 4) = _
    exact (if_neg b3).symm
theorem con_X11_mark (l : Launch) : CON l y_X11_mark prog_1_method_62_code 1 (some .int) rm_X11_mark Pre_X11_mark Fn_X11_mark := CON_of (by decide) rfl rfl (sa_X11_mark l) vc_X11_mark
def cl_un2 (m : MM) : Option MV × MM := gvC m (m.1 11 0 14)
def cl_un1 (m : MM) : Option MV × MM := cl_un2 (vcM m (m.2.2 0) (2 + (m.1 11 0 14).toNatClampNeg))
def cl_undo (m : MM) : Option MV × MM := if 0 < m.1 11 0 14 then cl_un1 (mI m 11 0 14 (m.1 11 0 14 - 1)) else rfC m 6

def Pre_X11_undo : PreT := fun m as => (∀ i, i < 3 → ZZo m (2 + i)) ∧ (∃ k : Nat, k ≤ 3 ∧ m.1 11 0 14 = nI k) ∧ as = [vR 11 0]
def Fn_X11_undo : FnT := fun m _ => cl_undo m
abbrev y_X11_undo : MethodName := ⟨"GivenUp", "undo", "()I"⟩
def P_X11_undo : List StpT := [s_aload 0, s_getI 11 14, s_ifgt 7, s_aload 0, s_ic (6), s_callV 11 1 Pre_X11_refuse Fn_X11_refuse, s_iret, s_aload 0, s_dup, s_getI 11 14, s_ic (1), s_isub, s_putI 11 14, s_aload 0, s_getD 11 12 6 0, s_aload 0, s_getR 11 4 51, s_aload 0, s_getI 11 14, s_aald5 6 2, s_callV 6 1 Pre_X6_copy Fn_X6_copy, s_aload 0, s_aload 0, s_getI 11 14, s_callV 11 1 Pre_X11_answer Fn_X11_answer, s_iret]
def pc_X11_undo : Nat → Nat := fun i => [0, 1, 4, 7, 8, 10, 13, 14, 15, 16, 19, 20, 21, 24, 25, 28, 29, 32, 33, 36, 37, 40, 41, 42, 45, 48].getD i 0
def dl_X11_undo : List (Nat × Instr × Nat) := [(0, .aload_n 0, 1), (1, .getfield 94, 3), (4, .ifCond .gt 10, 3), (7, .aload_n 0, 1), (8, .bipush 6, 2), (10, .invokevirtual 139, 3), (13, .ireturn, 1), (14, .aload_n 0, 1), (15, .dup, 1), (16, .getfield 94, 3), (19, .iconst 1, 1), (20, .isub, 1), (21, .putfield 94, 3), (24, .aload_n 0, 1), (25, .getfield 87, 3), (28, .aload_n 0, 1), (29, .getfield 40, 3), (32, .aload_n 0, 1), (33, .getfield 94, 3), (36, .aaload, 1), (37, .invokevirtual 449, 3), (40, .aload_n 0, 1), (41, .aload_n 0, 1), (42, .getfield 94, 3), (45, .invokevirtual 178, 3), (48, .ireturn, 1)]
theorem dc_X11_undo : DEC prog_1_method_63_code pc_X11_undo dl_X11_undo := DEC_of (by decide +kernel)
abbrev rm_X11_undo : Room := { frames := 3, cells := 0, slots := 0, locals := 68 }
set_option maxRecDepth 20000 in
theorem sa_X11_undo (l : Launch) : SNDALL l prog_1_method_63_code "GivenUp" 1 (some .int) rm_X11_undo P_X11_undo pc_X11_undo := fun p e s m args below meth c cells slots Q D dA ad A RR hC hR => by
  have hM := RTX_room (R := rm_X11_undo) hR
  exact ⟨st_aload_n hC (n := 0) (k := 0) (dc_X11_undo 0 (0, .aload_n 0, 1) rfl rfl) rfl rfl,
    st_getI hC (n := 1) (k := 11) (j := 14) (dc_X11_undo 1 (1, .getfield 94, 3) rfl rfl) rfl clf_11 (by decide) rfl wd_725,
    st_ifgt hC (n := 2) (dc_X11_undo 2 (4, .ifCond .gt 10, 3) rfl rfl) rfl (by decide),
    st_aload_n hC (n := 3) (k := 0) (dc_X11_undo 3 (7, .aload_n 0, 1) rfl rfl) rfl rfl,
    st_bipush hC (n := 4) (x := 6) (dc_X11_undo 4 (8, .bipush 6, 2) rfl rfl) rfl (by decide),
    st_callV hC (n := 5) (k := 11) (na := 1) (con_X11_refuse l) (dc_X11_undo 5 (10, .invokevirtual 139, 3) rfl rfl) rfl wd_824 wd_143 (by decide) ⟨rfl, rfl, by decide, by decide⟩ hM wd_821 wd_823 wd_3 clf_11,
    st_iret hC (n := 6) hR (dc_X11_undo 6 (13, .ireturn, 1) rfl rfl),
    st_aload_n hC (n := 7) (k := 0) (dc_X11_undo 7 (14, .aload_n 0, 1) rfl rfl) rfl rfl,
    st_dup hC (n := 8) (dc_X11_undo 8 (15, .dup, 1) rfl rfl) rfl,
    st_getI hC (n := 9) (k := 11) (j := 14) (dc_X11_undo 9 (16, .getfield 94, 3) rfl rfl) rfl clf_11 (by decide) rfl wd_725,
    st_iconst hC (n := 10) (x := 1) (dc_X11_undo 10 (19, .iconst 1, 1) rfl rfl) rfl (by decide),
    st_isub hC (n := 11) (dc_X11_undo 11 (20, .isub, 1) rfl rfl) rfl,
    st_putI hC (n := 12) (k := 11) (j := 14) (dc_X11_undo 12 (21, .putfield 94, 3) rfl rfl) rfl clf_11 (by decide) rfl rfl rfl wd_725,
    st_aload_n hC (n := 13) (k := 0) (dc_X11_undo 13 (24, .aload_n 0, 1) rfl rfl) rfl rfl,
    st_getD hC (n := 14) (k := 11) (j := 12) (dc_X11_undo 14 (25, .getfield 87, 3) rfl rfl) rfl clf_11 (by decide) rfl (by decide) wd_723,
    st_aload_n hC (n := 15) (k := 0) (dc_X11_undo 15 (28, .aload_n 0, 1) rfl rfl) rfl rfl,
    st_getR hC (n := 16) (k := 11) (j := 4) (dc_X11_undo 16 (29, .getfield 40, 3) rfl rfl) rfl clf_11 (by decide) rfl (by decide) wd_715,
    st_aload_n hC (n := 17) (k := 0) (dc_X11_undo 17 (32, .aload_n 0, 1) rfl rfl) rfl rfl,
    st_getI hC (n := 18) (k := 11) (j := 14) (dc_X11_undo 18 (33, .getfield 94, 3) rfl rfl) rfl clf_11 (by decide) rfl wd_725,
    st_aald5 hC (n := 19) (dc_X11_undo 19 (36, .aaload, 1) rfl rfl) rfl aald5_ok,
    st_callV hC (n := 20) (k := 6) (na := 1) (con_X6_copy l) (dc_X11_undo 20 (37, .invokevirtual 449, 3) rfl rfl) rfl wd_1527 wd_155 (by decide) ⟨rfl, rfl, by decide, by decide⟩ hM wd_1524 wd_1525 wd_1526 clf_6,
    st_aload_n hC (n := 21) (k := 0) (dc_X11_undo 21 (40, .aload_n 0, 1) rfl rfl) rfl rfl,
    st_aload_n hC (n := 22) (k := 0) (dc_X11_undo 22 (41, .aload_n 0, 1) rfl rfl) rfl rfl,
    st_getI hC (n := 23) (k := 11) (j := 14) (dc_X11_undo 23 (42, .getfield 94, 3) rfl rfl) rfl clf_11 (by decide) rfl wd_725,
    st_callV hC (n := 24) (k := 11) (na := 1) (con_X11_answer l) (dc_X11_undo 24 (45, .invokevirtual 178, 3) rfl rfl) rfl wd_967 wd_143 (by decide) ⟨rfl, rfl, by decide, by decide⟩ hM wd_964 wd_966 wd_17 clf_11,
    st_iret hC (n := 25) hR (dc_X11_undo 25 (48, .ireturn, 1) rfl rfl), trivial⟩
set_option maxRecDepth 8000 in
theorem vc_X11_undo : VC P_X11_undo 1 Pre_X11_undo Fn_X11_undo := by
  rintro mm as hom hoa ⟨hZ, ⟨k, hk, ek⟩, rfl⟩
  refine ⟨Nat.le_of_ble_eq_true rfl, fun X h => ?_⟩
  have s21 : ∀ M, cl_undo mm = cl_un2 M → X 21 [some (vR 11 0)] [] (M) := by
    intro M hR
    show X 21 [some (vR 11 0)] [] M
    refine h (fun _ => false) 3000 21 _ _ _ ?_
    refine And.intro (show Pre_X11_answer M [vR 11 0, vI (M.1 11 0 14)] from ⟨_, rfl⟩) ?_
    show ((some (vI (M.1 11 0 14)) : Option MV), stC M 0) = _
    exact hR.symm
  have s13 : ∀ M i, i < 3 → M.1 11 0 14 = nI i → ZZo M (2 + i) → cl_undo mm = cl_un1 M → X 13 [some (vR 11 0)] [] (M) := by
    intro M i hi ei hz hR
    have eic : (nI i).toNatClampNeg = i := nI_clamp (by omega)
    unfold cl_un1 at hR
    rw [ei, eic] at hR
    have z := s21 _ hR
    show X 13 [some (vR 11 0)] [] M
    refine h (fun i => Nat.beq i 21) 3000 13 _ _ _ ?_
    refine And.intro (show inb (M.1 11 0 14) (alen 51) = true from (inb_o 3 rfl rfl ei (by omega))) ?_
    refine And.intro (show Pre_X6_copy M [vR 6 (M.2.2 0), vR 6 (2 + (M.1 11 0 14).toNatClampNeg)] from ⟨_, _, by rw [ei, eic]; exact hz, rfl⟩) ?_
    show X 21 [some (vR 11 0)] [] (vcM M (M.2.2 0) (2 + (M.1 11 0 14).toNatClampNeg))
    (try simp only [ei, eic])
    exact z
  show X 0 [some (vR 11 0)] [] mm
  refine h (fun i => Nat.beq i 13) 3000 0 _ _ _ ?_
  refine br_c (fun b2 => ?_) (fun b2 => ?_)
  · -- 2: 0 < mm.1 11 0 14 taken
    replace b2 : 0 < mm.1 11 0 14 := b2
    show X 13 [some (vR 11 0)] [] (mI mm 11 0 14 ((mm.1 11 0 14) - 1))
    rw [ek, show (0 : Int32) = nI 0 from rfl, nI_ltI (by omega) (by omega)] at b2
    exact s13 _ (k - 1) (by omega) (by rw [mI_eq2, ek, show (1 : Int32) = nI 1 from rfl, nI_sb (by omega)]) (hZ (k - 1) (by omega)) (if_pos (by rw [ek, show (0 : Int32) = nI 0 from rfl, nI_ltI (by omega) (by omega)]; exact b2))
  · -- 2: 0 < mm.1 11 0 14 on
    replace b2 : ¬ (0 < mm.1 11 0 14) := b2
    refine And.intro (show Pre_X11_refuse mm [vR 11 0, vI 6] from ⟨_, rfl⟩) ?_
    show ((some (vI (-1)) : Option MV), stC mm 6) = _
    exact (if_neg b2).symm
theorem con_X11_undo (l : Launch) : CON l y_X11_undo prog_1_method_63_code 1 (some .int) rm_X11_undo Pre_X11_undo Fn_X11_undo := CON_of (by decide) rfl rfl (sa_X11_undo l) vc_X11_undo
def cl_li2 (m : MM) : Option MV × MM := gvC m (m.1 2 0 2)
def cl_li1 (m : MM) : Option MV × MM := cl_li2 (mI (mRow m 53 0 (va_cpy (m.1 21 0) (m.1 53 0) 0 0 5)) 11 0 11 1)
def cl_live (m : MM) (x : Int32) : Option MV × MM := if x < 0 then rfC m 1 else if x ≤ 9999 then (if m.1 9 (m.2.2 0) 6 = 0 then rfC m 6 else cl_li1 (c2M m (m.2.2 0) x)) else rfC m 1
/-- years that are there are sound -/
def YRo (m : MM) (g ns nm nt : Nat) : Prop := ¬ m.1 9 g 6 = 0 → ∃ L, (m.1 9 g 8 = nI L ∧ L ≤ 60) ∧ ∀ k, k < L → YLc m g ns nm nt L k

def Pre_X11_live : PreT := fun m as => ∃ ns nm nt, VN m ns nm nt ∧ YRo m (m.2.2 0) ns nm nt ∧ ∃ x : Int32, as = [vR 11 0, vI x]
def Fn_X11_live : FnT := fun m as => match as with
  | [_, Sum.inl x] => cl_live m x
  | _ => (none, m)
abbrev y_X11_live : MethodName := ⟨"GivenUp", "live", "(I)I"⟩
def P_X11_live : List StpT := [s_iload 1, s_iflt 5, s_iload 1, s_ic (9999), s_icle 9, s_aload 0, s_ic (1), s_callV 11 1 Pre_X11_refuse Fn_X11_refuse, s_iret, s_aload 0, s_getD 11 12 6 0, s_getR 6 12 9, s_getI 9 6, s_ifne 18, s_aload 0, s_ic (6), s_callV 11 1 Pre_X11_refuse Fn_X11_refuse, s_iret, s_aload 0, s_getC 11 8 2 0, s_aload 0, s_getD 11 12 6 0, s_iload 1, s_callV 2 2 Pre_X2_run Fn_X2_run, s_aload 0, s_getC 11 8 2 0, s_getR 2 1 21, s_ic (0), s_aload 0, s_getR 11 10 53, s_ic (0), s_ic (5), s_acI, s_aload 0, s_ic (1), s_putZ 11 11, s_aload 0, s_aload 0, s_getC 11 8 2 0, s_getI 2 2, s_callV 11 1 Pre_X11_answer Fn_X11_answer, s_iret]
def pc_X11_live : Nat → Nat := fun i => [0, 1, 4, 5, 8, 11, 12, 13, 16, 17, 18, 21, 24, 27, 30, 31, 33, 36, 37, 38, 41, 42, 45, 46, 49, 50, 53, 56, 57, 58, 61, 62, 63, 66, 67, 68, 71, 72, 73, 76, 79, 82].getD i 0
def dl_X11_live : List (Nat × Instr × Nat) := [(0, .iload_n 1, 1), (1, .ifCond .lt 10, 3), (4, .iload_n 1, 1), (5, .sipush 9999, 3), (8, .if_icmp .le 9, 3), (11, .aload_n 0, 1), (12, .iconst 1, 1), (13, .invokevirtual 139, 3), (16, .ireturn, 1), (17, .aload_n 0, 1), (18, .getfield 87, 3), (21, .getfield 181, 3), (24, .getfield 441, 3), (27, .ifCond .ne 10, 3), (30, .aload_n 0, 1), (31, .bipush 6, 2), (33, .invokevirtual 139, 3), (36, .ireturn, 1), (37, .aload_n 0, 1), (38, .getfield 70, 3), (41, .aload_n 0, 1), (42, .getfield 87, 3), (45, .iload_n 1, 1), (46, .invokevirtual 442, 3), (49, .aload_n 0, 1), (50, .getfield 70, 3), (53, .getfield 445, 3), (56, .iconst 0, 1), (57, .aload_n 0, 1), (58, .getfield 78, 3), (61, .iconst 0, 1), (62, .iconst 5, 1), (63, .invokestatic 155, 3), (66, .aload_n 0, 1), (67, .iconst 1, 1), (68, .putfield 82, 3), (71, .aload_n 0, 1), (72, .aload_n 0, 1), (73, .getfield 70, 3), (76, .getfield 448, 3), (79, .invokevirtual 178, 3), (82, .ireturn, 1)]
theorem dc_X11_live : DEC prog_1_method_59_code pc_X11_live dl_X11_live := DEC_of (by decide +kernel)
abbrev rm_X11_live : Room := { frames := 7, cells := 0, slots := 0, locals := 163 }
set_option maxRecDepth 20000 in
theorem sa_X11_live (l : Launch) : SNDALL l prog_1_method_59_code "GivenUp" 2 (some .int) rm_X11_live P_X11_live pc_X11_live := fun p e s m args below meth c cells slots Q D dA ad A RR hC hR => by
  have hM := RTX_room (R := rm_X11_live) hR
  exact ⟨st_iload_n hC (n := 0) (k := 1) (dc_X11_live 0 (0, .iload_n 1, 1) rfl rfl) rfl rfl,
    st_iflt hC (n := 1) (dc_X11_live 1 (1, .ifCond .lt 10, 3) rfl rfl) rfl (by decide),
    st_iload_n hC (n := 2) (k := 1) (dc_X11_live 2 (4, .iload_n 1, 1) rfl rfl) rfl rfl,
    st_sipush hC (n := 3) (x := 9999) (dc_X11_live 3 (5, .sipush 9999, 3) rfl rfl) rfl (by decide),
    st_icle hC (n := 4) (dc_X11_live 4 (8, .if_icmp .le 9, 3) rfl rfl) rfl (by decide),
    st_aload_n hC (n := 5) (k := 0) (dc_X11_live 5 (11, .aload_n 0, 1) rfl rfl) rfl rfl,
    st_iconst hC (n := 6) (x := 1) (dc_X11_live 6 (12, .iconst 1, 1) rfl rfl) rfl (by decide),
    st_callV hC (n := 7) (k := 11) (na := 1) (con_X11_refuse l) (dc_X11_live 7 (13, .invokevirtual 139, 3) rfl rfl) rfl wd_824 wd_143 (by decide) ⟨rfl, rfl, by decide, by decide⟩ hM wd_821 wd_823 wd_3 clf_11,
    st_iret hC (n := 8) hR (dc_X11_live 8 (16, .ireturn, 1) rfl rfl),
    st_aload_n hC (n := 9) (k := 0) (dc_X11_live 9 (17, .aload_n 0, 1) rfl rfl) rfl rfl,
    st_getD hC (n := 10) (k := 11) (j := 12) (dc_X11_live 10 (18, .getfield 87, 3) rfl rfl) rfl clf_11 (by decide) rfl (by decide) wd_723,
    st_getR hC (n := 11) (k := 6) (j := 12) (dc_X11_live 11 (21, .getfield 181, 3) rfl rfl) rfl clf_6 (by decide) rfl (by decide) wd_616,
    st_getI hC (n := 12) (k := 9) (j := 6) (dc_X11_live 12 (24, .getfield 441, 3) rfl rfl) rfl clf_9 (by decide) rfl wd_530,
    st_ifne hC (n := 13) (dc_X11_live 13 (27, .ifCond .ne 10, 3) rfl rfl) rfl (by decide),
    st_aload_n hC (n := 14) (k := 0) (dc_X11_live 14 (30, .aload_n 0, 1) rfl rfl) rfl rfl,
    st_bipush hC (n := 15) (x := 6) (dc_X11_live 15 (31, .bipush 6, 2) rfl rfl) rfl (by decide),
    st_callV hC (n := 16) (k := 11) (na := 1) (con_X11_refuse l) (dc_X11_live 16 (33, .invokevirtual 139, 3) rfl rfl) rfl wd_824 wd_143 (by decide) ⟨rfl, rfl, by decide, by decide⟩ hM wd_821 wd_823 wd_3 clf_11,
    st_iret hC (n := 17) hR (dc_X11_live 17 (36, .ireturn, 1) rfl rfl),
    st_aload_n hC (n := 18) (k := 0) (dc_X11_live 18 (37, .aload_n 0, 1) rfl rfl) rfl rfl,
    st_getC hC (n := 19) (k := 11) (j := 8) (dc_X11_live 19 (38, .getfield 70, 3) rfl rfl) rfl clf_11 (by decide) rfl (by decide) wd_719,
    st_aload_n hC (n := 20) (k := 0) (dc_X11_live 20 (41, .aload_n 0, 1) rfl rfl) rfl rfl,
    st_getD hC (n := 21) (k := 11) (j := 12) (dc_X11_live 21 (42, .getfield 87, 3) rfl rfl) rfl clf_11 (by decide) rfl (by decide) wd_723,
    st_iload_n hC (n := 22) (k := 1) (dc_X11_live 22 (45, .iload_n 1, 1) rfl rfl) rfl rfl,
    st_callV hC (n := 23) (k := 2) (na := 2) (con_X2_run l) (dc_X11_live 23 (46, .invokevirtual 442, 3) rfl rfl) rfl wd_1474 wd_154 (by decide) ⟨rfl, rfl, by decide, by decide⟩ hM wd_1471 wd_1472 wd_1473 clf_2,
    st_aload_n hC (n := 24) (k := 0) (dc_X11_live 24 (49, .aload_n 0, 1) rfl rfl) rfl rfl,
    st_getC hC (n := 25) (k := 11) (j := 8) (dc_X11_live 25 (50, .getfield 70, 3) rfl rfl) rfl clf_11 (by decide) rfl (by decide) wd_719,
    st_getR hC (n := 26) (k := 2) (j := 1) (dc_X11_live 26 (53, .getfield 445, 3) rfl rfl) rfl clf_2 (by decide) rfl (by decide) wd_439,
    st_iconst hC (n := 27) (x := 0) (dc_X11_live 27 (56, .iconst 0, 1) rfl rfl) rfl (by decide),
    st_aload_n hC (n := 28) (k := 0) (dc_X11_live 28 (57, .aload_n 0, 1) rfl rfl) rfl rfl,
    st_getR hC (n := 29) (k := 11) (j := 10) (dc_X11_live 29 (58, .getfield 78, 3) rfl rfl) rfl clf_11 (by decide) rfl (by decide) wd_721,
    st_iconst hC (n := 30) (x := 0) (dc_X11_live 30 (61, .iconst 0, 1) rfl rfl) rfl (by decide),
    st_iconst hC (n := 31) (x := 5) (dc_X11_live 31 (62, .iconst 5, 1) rfl rfl) rfl (by decide),
    st_acI hC (n := 32) (dc_X11_live 32 (63, .invokestatic 155, 3) rfl rfl) rfl wd_829 wd_831 wd_830 wd_161 (by decide) (by decide),
    st_aload_n hC (n := 33) (k := 0) (dc_X11_live 33 (66, .aload_n 0, 1) rfl rfl) rfl rfl,
    st_iconst hC (n := 34) (x := 1) (dc_X11_live 34 (67, .iconst 1, 1) rfl rfl) rfl (by decide),
    st_putZ hC (n := 35) (k := 11) (j := 11) (dc_X11_live 35 (68, .putfield 82, 3) rfl rfl) rfl clf_11 (by decide) rfl rfl rfl wd_722,
    st_aload_n hC (n := 36) (k := 0) (dc_X11_live 36 (71, .aload_n 0, 1) rfl rfl) rfl rfl,
    st_aload_n hC (n := 37) (k := 0) (dc_X11_live 37 (72, .aload_n 0, 1) rfl rfl) rfl rfl,
    st_getC hC (n := 38) (k := 11) (j := 8) (dc_X11_live 38 (73, .getfield 70, 3) rfl rfl) rfl clf_11 (by decide) rfl (by decide) wd_719,
    st_getI hC (n := 39) (k := 2) (j := 2) (dc_X11_live 39 (76, .getfield 448, 3) rfl rfl) rfl clf_2 (by decide) rfl wd_441,
    st_callV hC (n := 40) (k := 11) (na := 1) (con_X11_answer l) (dc_X11_live 40 (79, .invokevirtual 178, 3) rfl rfl) rfl wd_967 wd_143 (by decide) ⟨rfl, rfl, by decide, by decide⟩ hM wd_964 wd_966 wd_17 clf_11,
    st_iret hC (n := 41) hR (dc_X11_live 41 (82, .ireturn, 1) rfl rfl), trivial⟩
set_option maxRecDepth 8000 in
theorem vc_X11_live : VC P_X11_live 2 Pre_X11_live Fn_X11_live := by
  rintro mm as hom hoa ⟨ns, nm, nt, hV, hY, x, rfl⟩
  refine ⟨Nat.le_of_ble_eq_true rfl, fun X h => ?_⟩
  have s33 : ∀ M, cl_live mm x = cl_li2 (mI M 11 0 11 1) → X 33 [some (vR 11 0), some (vI (x))] [] (M) := by
    intro M hR
    show X 33 [some (vR 11 0), some (vI x)] [] M
    refine h (fun _ => false) 3000 33 _ _ _ ?_
    refine And.intro (Or.inr rfl) ?_
    refine And.intro (show Pre_X11_answer (mI M 11 0 11 1) [vR 11 0, vI (M.1 2 0 2)] from ⟨_, rfl⟩) ?_
    show ((some (vI (M.1 2 0 2)) : Option MV), stC (mI M 11 0 11 1) 0) = _
    exact hR.symm
  have s24 : ∀ M, cl_live mm x = cl_li1 M → X 24 [some (vR 11 0), some (vI (x))] [] (M) := by
    intro M hR
    have z := s33 _ hR
    show X 24 [some (vR 11 0), some (vI x)] [] M
    refine h (fun i => Nat.beq i 33) 3000 24 _ _ _ ?_
    refine And.intro (by decide) ?_
    show X 33 [some (vR 11 0), some (vI x)] [] (mRow M 53 0 (va_cpy (M.1 21 0) (M.1 53 0) 0 0 5))
    exact z
  show X 0 [some (vR 11 0), some (vI x)] [] mm
  refine h (fun i => Nat.beq i 24) 3000 0 _ _ _ ?_
  refine br_c (fun b1 => ?_) (fun b1 => ?_)
  · -- 1: x < 0 taken
    replace b1 : x < 0 := b1
    refine And.intro (show Pre_X11_refuse mm [vR 11 0, vI 1] from ⟨_, rfl⟩) ?_
    show ((some (vI (-1)) : Option MV), stC mm 1) = _
    show _ = cl_live mm x
    unfold cl_live
    (try simp only [if_pos b1])
    all_goals exact rfl
  · -- 1: x < 0 on
    replace b1 : ¬ (x < 0) := b1
    refine br_c (fun b4 => ?_) (fun b4 => ?_)
    · -- 4: x ≤ 9999 taken
      replace b4 : x ≤ 9999 := b4
      refine brn_c (fun b13 => ?_) (fun b13 => ?_)
      · -- 13: mm.1 9 (mm.2.2 0) 6 = 0 taken
        replace b13 : ¬ (mm.1 9 (mm.2.2 0) 6 = 0) := b13
        refine And.intro (show Pre_X2_run mm [vR 2 0, vR 6 (mm.2.2 0), vI x] from (by obtain ⟨L, hL, hY2⟩ := hY b13; obtain ⟨d, hd, ed⟩ := arg_in (x := x) (n := 10000) b1 (fun z => Int32.not_lt.mpr b4 (Int32.lt_of_lt_of_le (by decide) z)) (by decide); exact ⟨_, ns, nm, nt, L, d, hV, hL, hY2, by omega, by rw [ed]⟩)) ?_
        show X 24 [some (vR 11 0), some (vI x)] [] (c2M mm (mm.2.2 0) x)
        exact s24 _ (by unfold cl_live; rw [if_neg b1, if_pos b4, if_neg b13])
      · -- 13: mm.1 9 (mm.2.2 0) 6 = 0 on
        replace b13 : mm.1 9 (mm.2.2 0) 6 = 0 := b13
        refine And.intro (show Pre_X11_refuse mm [vR 11 0, vI 6] from ⟨_, rfl⟩) ?_
        show ((some (vI (-1)) : Option MV), stC mm 6) = _
        show _ = cl_live mm x
        unfold cl_live
        (try simp only [if_neg b1, if_pos b4, if_pos b13])
        all_goals exact rfl
    · -- 4: x ≤ 9999 on
      replace b4 : ¬ (x ≤ 9999) := b4
      refine And.intro (show Pre_X11_refuse mm [vR 11 0, vI 1] from ⟨_, rfl⟩) ?_
      show ((some (vI (-1)) : Option MV), stC mm 1) = _
      show _ = cl_live mm x
      unfold cl_live
      (try simp only [if_neg b1, if_neg b4])
      all_goals exact rfl
theorem con_X11_live (l : Launch) : CON l y_X11_live prog_1_method_59_code 2 (some .int) rm_X11_live Pre_X11_live Fn_X11_live := CON_of (by decide) rfl rfl (sa_X11_live l) vc_X11_live
end
