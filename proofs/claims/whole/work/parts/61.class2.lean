/-! PART 61: the class: a valley, laid as the model lays it; sets, sums -/

def lay (F : Nat → Int32) (S M T : Nat → Nat → Int32) (y l : Nat → Int32) : Nat → Int32 := fun j => if j < 12 then F j else if j < 28 then S ((j - 12) % 4) ((j - 12) / 4) else if j < 44 then M ((j - 28) % 4) ((j - 28) / 4) else if j < 80 then T ((j - 44) % 3) ((j - 44) / 3) else if j < 128 then y (j - 80) else if j < 144 then l (j - 128) else 0
def fldF (m : MM) (g : Nat) : Nat → Int32
  | 0 => m.1 6 g 13
  | 1 => m.1 6 g 14
  | 2 => m.1 6 g 15
  | 3 => m.1 6 g 16
  | 4 => m.1 6 g 17
  | 5 => m.1 6 g 18
  | 6 => m.1 1 g 4
  | 8 => m.1 1 g 5
  | 9 => m.1 1 g 6
  | _ => 0
def suF (m : MM) (g : Nat) : Nat → Nat → Int32
  | 0 => m.1 30 g
  | 1 => m.1 16 g
  | 2 => m.1 17 g
  | _ => m.1 18 g
def maF (m : MM) (g : Nat) : Nat → Nat → Int32
  | 0 => m.1 32 g
  | 1 => m.1 33 g
  | 2 => m.1 34 g
  | _ => m.1 19 g
def thF (m : MM) (g : Nat) : Nat → Nat → Int32
  | 0 => m.1 35 g
  | 1 => m.1 36 g
  | _ => m.1 37 g
def abV (m : MM) (g : Nat) : Nat → Int32 := lay (fldF m g) (suF m g) (maF m g) (thF m g) (m.1 39 g) (m.1 31 g)
theorem lay_S {F : Nat → Int32} {S M T : Nat → Nat → Int32} {y l : Nat → Int32} {s f : Nat} (hs : s < 4) (hf : f < 4) : lay F S M T y l (12 + 4 * s + f) = S f s := by
  unfold lay
  rw [if_neg (by omega), if_pos (by omega), show (12 + 4 * s + f - 12) % 4 = f by omega, show (12 + 4 * s + f - 12) / 4 = s by omega]
theorem lay_M {F : Nat → Int32} {S M T : Nat → Nat → Int32} {y l : Nat → Int32} {s f : Nat} (hs : s < 4) (hf : f < 4) : lay F S M T y l (28 + 4 * s + f) = M f s := by
  unfold lay
  rw [if_neg (by omega), if_neg (by omega), if_pos (by omega), show (28 + 4 * s + f - 28) % 4 = f by omega, show (28 + 4 * s + f - 28) / 4 = s by omega]
theorem lay_T {F : Nat → Int32} {S M T : Nat → Nat → Int32} {y l : Nat → Int32} {s f : Nat} (hs : s < 12) (hf : f < 3) : lay F S M T y l (44 + 3 * s + f) = T f s := by
  unfold lay
  rw [if_neg (by omega), if_neg (by omega), if_neg (by omega), if_pos (by omega), show (44 + 3 * s + f - 44) % 3 = f by omega, show (44 + 3 * s + f - 44) / 3 = s by omega]
theorem ab_age {m : MM} {g s : Nat} (h : s < 4) : abV m g (12 + 4 * s) = m.1 30 g s := lay_S (f := 0) h (by decide)
theorem ab_cow {m : MM} {g s : Nat} (h : s < 4) : abV m g (13 + 4 * s) = m.1 16 g s := by rw [show 13 + 4 * s = 12 + 4 * s + 1 by omega]; exact lay_S (f := 1) h (by decide)
theorem ab_wek {m : MM} {g s : Nat} (h : s < 4) : abV m g (14 + 4 * s) = m.1 17 g s := by rw [show 14 + 4 * s = 12 + 4 * s + 2 by omega]; exact lay_S (f := 2) h (by decide)
theorem ab_mai {m : MM} {g s : Nat} (h : s < 4) : abV m g (15 + 4 * s) = m.1 18 g s := by rw [show 15 + 4 * s = 12 + 4 * s + 3 by omega]; exact lay_S (f := 3) h (by decide)
theorem ab_bar {m : MM} {g s : Nat} (h : s < 4) : abV m g (28 + 4 * s) = m.1 32 g s := lay_M (f := 0) h (by decide)
theorem ab_ris {m : MM} {g s : Nat} (h : s < 4) : abV m g (29 + 4 * s) = m.1 33 g s := by rw [show 29 + 4 * s = 28 + 4 * s + 1 by omega]; exact lay_M (f := 1) h (by decide)
theorem ab_mot {m : MM} {g s : Nat} (h : s < 4) : abV m g (30 + 4 * s) = m.1 34 g s := by rw [show 30 + 4 * s = 28 + 4 * s + 2 by omega]; exact lay_M (f := 2) h (by decide)
theorem ab_sui {m : MM} {g s : Nat} (h : s < 4) : abV m g (31 + 4 * s) = m.1 19 g s := by rw [show 31 + 4 * s = 28 + 4 * s + 3 by omega]; exact lay_M (f := 3) h (by decide)
theorem ab_of {m : MM} {g s : Nat} (h : s < 12) : abV m g (44 + 3 * s) = m.1 35 g s := lay_T (f := 0) h (by decide)
theorem ab_wor {m : MM} {g s : Nat} (h : s < 12) : abV m g (45 + 3 * s) = m.1 36 g s := by rw [show 45 + 3 * s = 44 + 3 * s + 1 by omega]; exact lay_T (f := 1) h (by decide)
theorem ab_aft {m : MM} {g s : Nat} (h : s < 12) : abV m g (46 + 3 * s) = m.1 37 g s := by rw [show 46 + 3 * s = 44 + 3 * s + 2 by omega]; exact lay_T (f := 2) h (by decide)
theorem ab_say {m : MM} {g t d : Nat} (ht : t < 12) (hd : d < 4) : abV m g (80 + 4 * t + d) = m.1 39 g (4 * t + d) := by
  unfold abV lay
  rw [if_neg (by omega), if_neg (by omega), if_neg (by omega), if_neg (by omega), if_pos (by omega), show 80 + 4 * t + d - 80 = 4 * t + d by omega]
theorem ab_lik {m : MM} {g s d : Nat} (hs : s < 4) (hd : d < 4) : abV m g (128 + 4 * s + d) = m.1 31 g (4 * s + d) := by
  unfold abV lay
  rw [if_neg (by omega), if_neg (by omega), if_neg (by omega), if_neg (by omega), if_neg (by omega), if_pos (by omega), show 128 + 4 * s + d - 128 = 4 * s + d by omega]
/-- who weds whom is told by -1 or a number -/
def MDo (a : Nat → Int32) : Prop := (∀ s, s < 4 → a (15 + 4 * s) = -1 ∨ ∃ d, d < 4 ∧ a (15 + 4 * s) = nI d) ∧ (∀ d, d < 4 → a (31 + 4 * d) = -1 ∨ ∃ s, s < 4 ∧ a (31 + 4 * d) = nI s) ∧ ∃ w, w ≤ 999 ∧ a 6 = nI w
def VC2 (m : MM) (g ns nm nt : Nat) : Prop := VA (abV m g) ns nm nt ∧ MDo (abV m g)
def VC1 (m : MM) (g : Nat) : Prop := ∃ ns nm nt, VC2 m g ns nm nt
theorem any_nI (x : Int32) : x = nI x.toBitVec.toNat := by
  apply Int32.toBitVec_inj.1
  show x.toBitVec = BitVec.ofNat 32 x.toBitVec.toNat
  simp
theorem ands {G : Nat} (hG : G < 4096) (x : Int32) : ∃ W, W < 4096 ∧ nI G &&& x = nI W := by
  refine ⟨G &&& x.toBitVec.toNat, Nat.lt_of_le_of_lt Nat.and_le_left hG, ?_⟩
  rw [← nIand, ← any_nI x]
theorem th_nI {a : Nat → Int32} {ns nm nt : Nat} (hV : VA a ns nm nt) (s : Int32) : ∃ G, G < 4096 ∧ thA a s = nI G := by
  have hnt := hV.2.2.1.2
  refine ⟨stN (fun j => a (44 + 3 * j) = s) nt, Nat.lt_of_lt_of_le (stN_lt _ nt) (Nat.pow_le_pow_right (n := 2) (by omega) hnt), ?_⟩
  unfold thA
  rw [hV.2.2.1.1, nI_clamp (by omega)]
  exact gds_st a s nt (by omega)
theorem th_and {a : Nat → Int32} {ns nm nt : Nat} (hV : VA a ns nm nt) (s x : Int32) : ∃ W, W < 4096 ∧ thA a s &&& x = nI W := by
  obtain ⟨G, hG, e⟩ := th_nI hV s
  rw [e]
  exact ands hG x

--tpl ⟨_, _, _, by assumption, _, rfl⟩ || thA (abV {m} {g0}) {1}
def Pre_X6_goods : PreT := fun m as => ∃ g ns nm nt, VC2 m g ns nm nt ∧ ∃ s : Int32, as = [vR 6 g, vI s]
def Fn_X6_goods : FnT := fun m as => match as with
  | [Sum.inr (Sum.inr q), Sum.inl s] => (some (vI (thA (abV m q.2) s)), m)
  | _ => (none, m)
abbrev y_X6_goods : MethodName := ⟨"GivenUp$Valley", "goods", "(I)I"⟩
def P_X6_goods : List StpT := [s_ic (0), s_istore 2, s_ic (0), s_istore 3, s_iload 3, s_aload 0, s_getI 6 15, s_icge 22, s_aload 0, s_getR 6 6 35, s_iload 3, s_iald, s_iload 1, s_icne 20, s_iload 2, s_ic (1), s_iload 3, s_ishl, s_ior, s_istore 2, s_iinc 3 (1), s_goto 4, s_iload 2, s_iret]
def pc_X6_goods : Nat → Nat := fun i => [0, 1, 2, 3, 4, 5, 6, 9, 12, 13, 16, 17, 18, 19, 22, 23, 24, 25, 26, 27, 28, 31, 34, 35].getD i 0
def dl_X6_goods : List (Nat × Instr × Nat) := [(0, .iconst 0, 1), (1, .istore_n 2, 1), (2, .iconst 0, 1), (3, .istore_n 3, 1), (4, .iload_n 3, 1), (5, .aload_n 0, 1), (6, .getfield 67, 3), (9, .if_icmp .ge 25, 3), (12, .aload_n 0, 1), (13, .getfield 31, 3), (16, .iload_n 3, 1), (17, .iaload, 1), (18, .iload_n 1, 1), (19, .if_icmp .ne 9, 3), (22, .iload_n 2, 1), (23, .iconst 1, 1), (24, .iload_n 3, 1), (25, .ishl, 1), (26, .ior, 1), (27, .istore_n 2, 1), (28, .iinc 3 1, 3), (31, .goto (-27), 3), (34, .iload_n 2, 1), (35, .ireturn, 1)]
theorem dc_X6_goods : DEC prog_8_method_11_code pc_X6_goods dl_X6_goods := DEC_of (by decide +kernel)
abbrev rm_X6_goods : Room := { frames := 0, cells := 0, slots := 0, locals := 0 }
set_option maxRecDepth 20000 in
theorem sa_X6_goods (l : Launch) : SNDALL l prog_8_method_11_code "GivenUp$Valley" 4 (some .int) rm_X6_goods P_X6_goods pc_X6_goods := fun p e s m args below meth c cells slots Q D dA ad A RR hC hR => by
  have hM := RTX_room (R := rm_X6_goods) hR
  exact ⟨st_iconst hC (n := 0) (x := 0) (dc_X6_goods 0 (0, .iconst 0, 1) rfl rfl) rfl (by decide),
    st_istore_n hC (n := 1) (k := 2) (dc_X6_goods 1 (1, .istore_n 2, 1) rfl rfl) rfl rfl (by decide),
    st_iconst hC (n := 2) (x := 0) (dc_X6_goods 2 (2, .iconst 0, 1) rfl rfl) rfl (by decide),
    st_istore_n hC (n := 3) (k := 3) (dc_X6_goods 3 (3, .istore_n 3, 1) rfl rfl) rfl rfl (by decide),
    st_iload_n hC (n := 4) (k := 3) (dc_X6_goods 4 (4, .iload_n 3, 1) rfl rfl) rfl rfl,
    st_aload_n hC (n := 5) (k := 0) (dc_X6_goods 5 (5, .aload_n 0, 1) rfl rfl) rfl rfl,
    st_getI hC (n := 6) (k := 6) (j := 15) (dc_X6_goods 6 (6, .getfield 67, 3) rfl rfl) rfl clf_6 (by decide) rfl wd_629,
    st_icge hC (n := 7) (dc_X6_goods 7 (9, .if_icmp .ge 25, 3) rfl rfl) rfl (by decide),
    st_aload_n hC (n := 8) (k := 0) (dc_X6_goods 8 (12, .aload_n 0, 1) rfl rfl) rfl rfl,
    st_getR hC (n := 9) (k := 6) (j := 6) (dc_X6_goods 9 (13, .getfield 31, 3) rfl rfl) rfl clf_6 (by decide) rfl (by decide) wd_595,
    st_iload_n hC (n := 10) (k := 3) (dc_X6_goods 10 (16, .iload_n 3, 1) rfl rfl) rfl rfl,
    st_iald hC (n := 11) (dc_X6_goods 11 (17, .iaload, 1) rfl rfl) rfl,
    st_iload_n hC (n := 12) (k := 1) (dc_X6_goods 12 (18, .iload_n 1, 1) rfl rfl) rfl rfl,
    st_icne hC (n := 13) (dc_X6_goods 13 (19, .if_icmp .ne 9, 3) rfl rfl) rfl (by decide),
    st_iload_n hC (n := 14) (k := 2) (dc_X6_goods 14 (22, .iload_n 2, 1) rfl rfl) rfl rfl,
    st_iconst hC (n := 15) (x := 1) (dc_X6_goods 15 (23, .iconst 1, 1) rfl rfl) rfl (by decide),
    st_iload_n hC (n := 16) (k := 3) (dc_X6_goods 16 (24, .iload_n 3, 1) rfl rfl) rfl rfl,
    st_ishl hC (n := 17) (dc_X6_goods 17 (25, .ishl, 1) rfl rfl) rfl,
    st_ior hC (n := 18) (dc_X6_goods 18 (26, .ior, 1) rfl rfl) rfl,
    st_istore_n hC (n := 19) (k := 2) (dc_X6_goods 19 (27, .istore_n 2, 1) rfl rfl) rfl rfl (by decide),
    st_iinc hC (n := 20) (x := 1) (dc_X6_goods 20 (28, .iinc 3 1, 3) rfl rfl) rfl (by decide) (by decide),
    st_goto hC (n := 21) (dc_X6_goods 21 (31, .goto (-27), 3) rfl rfl) (by decide),
    st_iload_n hC (n := 22) (k := 2) (dc_X6_goods 22 (34, .iload_n 2, 1) rfl rfl) rfl rfl,
    st_iret hC (n := 23) hR (dc_X6_goods 23 (35, .ireturn, 1) rfl rfl), trivial⟩
set_option maxRecDepth 8000 in
theorem vc_X6_goods : VC P_X6_goods 4 Pre_X6_goods Fn_X6_goods := by
  rintro mm as hom hoa ⟨g, ns, nm, n, hV, s, rfl⟩
  refine ⟨Nat.le_of_ble_eq_true rfl, fun X h => ?_⟩
  have hn : mm.1 6 g 15 = nI n := hV.1.2.2.1.1
  have hn12 : n ≤ 12 := hV.1.2.2.1.2
  have hF : Fn_X6_goods mm [vR 6 g, vI s] = (some (vI (gds (abV mm g) s n)), mm) := by
    show (some (vI (gds (abV mm g) s (mm.1 6 g 15).toNatClampNeg)), mm) = _
    rw [hn, nI_clamp (by omega)]
  rw [hF] at h
  have loop : ∀ t, t ≤ n → X 4 [some (vR 6 g), some (vI (s)), some (vI (gds (abV mm g) s t)), some (vI (nI t))] [] mm := by
    refine up_ind n ?_ (fun t ht ih => ?_)
    ·
      show X 4 [some (vR 6 g), some (vI s), some (vI (gds (abV mm g) s n)), some (vI (nI n))] [] mm
      refine h (fun _ => false) 3000 4 _ _ _ ?_
      refine br_t (show mm.1 6 g 15 ≤ nI n from by rw [hn]; exact Int32.le_refl _) ?_
      show ((some (vI (gds (abV mm g) s n)) : Option MV), mm) = _
      exact rfl
    · have et : (nI t).toNatClampNeg = t := nI_clamp (by omega)
      rw [gds, ab_of (by omega)] at ih
      show X 4 [some (vR 6 g), some (vI s), some (vI (gds (abV mm g) s t)), some (vI (nI t))] [] mm
      refine h (fun i => Nat.beq i 4) 3000 4 _ _ _ ?_
      refine br_f (show ¬ (mm.1 6 g 15 ≤ nI t) from by rw [hn]; exact nI_ge ht (by omega)) ?_
      refine And.intro (show inb (nI t) (alen 35) = true from (inb_o 12 rfl rfl rfl (by omega))) ?_
      refine brn_c (fun b13 => ?_) (fun b13 => ?_)
      · -- 13: mm.1 35 g ((nI t).toNatClampNeg) = s taken
        replace b13 : ¬ (mm.1 35 g ((nI t).toNatClampNeg) = s) := b13
        (try simp only [et] at b13)
        show X 4 [some (vR 6 g), some (vI s), some (vI (gds (abV mm g) s t)), some (vI ((nI t) + 1))] [] mm
        (try simp only [et])
        rw [if_neg b13] at ih
        rw [nI_1] 
        rw [Int32.or_zero] at ih 
        exact ih
      · -- 13: mm.1 35 g ((nI t).toNatClampNeg) = s on
        replace b13 : mm.1 35 g ((nI t).toNatClampNeg) = s := b13
        (try simp only [et] at b13)
        show X 4 [some (vR 6 g), some (vI s), some (vI ((gds (abV mm g) s t) ||| (1 <<< ((nI t) &&& 31)))), some (vI ((nI t) + 1))] [] mm
        (try simp only [et])
        rw [if_pos b13] at ih
        rw [nI_1] 
        exact ih
  show X 0 [some (vR 6 g), some (vI s), none, none] [] mm
  refine h (fun i => Nat.beq i 4) 3000 0 _ _ _ ?_
  show X 4 [some (vR 6 g), some (vI s), some (vI 0), some (vI 0)] [] mm
  exact loop 0 (by omega)
theorem con_X6_goods (l : Launch) : CON l y_X6_goods prog_8_method_11_code 4 (some .int) rm_X6_goods Pre_X6_goods Fn_X6_goods := CON_of (by decide) rfl rfl (sa_X6_goods l) vc_X6_goods
--tpl ⟨_, _, _, by assumption, _, rfl⟩ || wtA (abV {m} {g0}) {1}
def Pre_X6_worthOf : PreT := fun m as => ∃ g ns nm nt, VC2 m g ns nm nt ∧ ∃ s : Int32, as = [vR 6 g, vI s]
def Fn_X6_worthOf : FnT := fun m as => match as with
  | [Sum.inr (Sum.inr q), Sum.inl s] => (some (vI (wtA (abV m q.2) s)), m)
  | _ => (none, m)
abbrev y_X6_worthOf : MethodName := ⟨"GivenUp$Valley", "worthOf", "(I)I"⟩
def P_X6_worthOf : List StpT := [s_ic (0), s_istore 2, s_ic (0), s_istore 3, s_iload 3, s_aload 0, s_getI 6 15, s_icge 23, s_iload 2, s_iload 1, s_iload 3, s_callS 2 Pre_X11_holds Fn_X11_holds, s_ifeq 18, s_aload 0, s_getR 6 7 36, s_iload 3, s_iald, s_goto 19, s_ic (0), s_iadd, s_istore 2, s_iinc 3 (1), s_goto 4, s_iload 2, s_iret]
def pc_X6_worthOf : Nat → Nat := fun i => [0, 1, 2, 3, 4, 5, 6, 9, 12, 13, 14, 15, 18, 21, 22, 25, 26, 27, 30, 31, 32, 33, 36, 39, 40].getD i 0
def dl_X6_worthOf : List (Nat × Instr × Nat) := [(0, .iconst 0, 1), (1, .istore_n 2, 1), (2, .iconst 0, 1), (3, .istore_n 3, 1), (4, .iload_n 3, 1), (5, .aload_n 0, 1), (6, .getfield 67, 3), (9, .if_icmp .ge 30, 3), (12, .iload_n 2, 1), (13, .iload_n 1, 1), (14, .iload_n 3, 1), (15, .invokestatic 116, 3), (18, .ifCond .eq 12, 3), (21, .aload_n 0, 1), (22, .getfield 34, 3), (25, .iload_n 3, 1), (26, .iaload, 1), (27, .goto 4, 3), (30, .iconst 0, 1), (31, .iadd, 1), (32, .istore_n 2, 1), (33, .iinc 3 1, 3), (36, .goto (-32), 3), (39, .iload_n 2, 1), (40, .ireturn, 1)]
theorem dc_X6_worthOf : DEC prog_8_method_12_code pc_X6_worthOf dl_X6_worthOf := DEC_of (by decide +kernel)
abbrev rm_X6_worthOf : Room := { frames := 1, cells := 0, slots := 0, locals := 21 }
set_option maxRecDepth 20000 in
theorem sa_X6_worthOf (l : Launch) : SNDALL l prog_8_method_12_code "GivenUp$Valley" 4 (some .int) rm_X6_worthOf P_X6_worthOf pc_X6_worthOf := fun p e s m args below meth c cells slots Q D dA ad A RR hC hR => by
  have hM := RTX_room (R := rm_X6_worthOf) hR
  exact ⟨st_iconst hC (n := 0) (x := 0) (dc_X6_worthOf 0 (0, .iconst 0, 1) rfl rfl) rfl (by decide),
    st_istore_n hC (n := 1) (k := 2) (dc_X6_worthOf 1 (1, .istore_n 2, 1) rfl rfl) rfl rfl (by decide),
    st_iconst hC (n := 2) (x := 0) (dc_X6_worthOf 2 (2, .iconst 0, 1) rfl rfl) rfl (by decide),
    st_istore_n hC (n := 3) (k := 3) (dc_X6_worthOf 3 (3, .istore_n 3, 1) rfl rfl) rfl rfl (by decide),
    st_iload_n hC (n := 4) (k := 3) (dc_X6_worthOf 4 (4, .iload_n 3, 1) rfl rfl) rfl rfl,
    st_aload_n hC (n := 5) (k := 0) (dc_X6_worthOf 5 (5, .aload_n 0, 1) rfl rfl) rfl rfl,
    st_getI hC (n := 6) (k := 6) (j := 15) (dc_X6_worthOf 6 (6, .getfield 67, 3) rfl rfl) rfl clf_6 (by decide) rfl wd_629,
    st_icge hC (n := 7) (dc_X6_worthOf 7 (9, .if_icmp .ge 30, 3) rfl rfl) rfl (by decide),
    st_iload_n hC (n := 8) (k := 2) (dc_X6_worthOf 8 (12, .iload_n 2, 1) rfl rfl) rfl rfl,
    st_iload_n hC (n := 9) (k := 1) (dc_X6_worthOf 9 (13, .iload_n 1, 1) rfl rfl) rfl rfl,
    st_iload_n hC (n := 10) (k := 3) (dc_X6_worthOf 10 (14, .iload_n 3, 1) rfl rfl) rfl rfl,
    st_callSN hC (n := 11) (na := 2) (con_X11_holds l) (dc_X6_worthOf 11 (15, .invokestatic 116, 3) rfl rfl) rfl wd_955 wd_143 (by decide) ⟨rfl, rfl, by decide, by decide⟩ hM ⟨"GivenUp", by decide⟩ wd_954,
    st_ifeq hC (n := 12) (dc_X6_worthOf 12 (18, .ifCond .eq 12, 3) rfl rfl) rfl (by decide),
    st_aload_n hC (n := 13) (k := 0) (dc_X6_worthOf 13 (21, .aload_n 0, 1) rfl rfl) rfl rfl,
    st_getR hC (n := 14) (k := 6) (j := 7) (dc_X6_worthOf 14 (22, .getfield 34, 3) rfl rfl) rfl clf_6 (by decide) rfl (by decide) wd_598,
    st_iload_n hC (n := 15) (k := 3) (dc_X6_worthOf 15 (25, .iload_n 3, 1) rfl rfl) rfl rfl,
    st_iald hC (n := 16) (dc_X6_worthOf 16 (26, .iaload, 1) rfl rfl) rfl,
    st_goto hC (n := 17) (dc_X6_worthOf 17 (27, .goto 4, 3) rfl rfl) (by decide),
    st_iconst hC (n := 18) (x := 0) (dc_X6_worthOf 18 (30, .iconst 0, 1) rfl rfl) rfl (by decide),
    st_iadd hC (n := 19) (dc_X6_worthOf 19 (31, .iadd, 1) rfl rfl) rfl,
    st_istore_n hC (n := 20) (k := 2) (dc_X6_worthOf 20 (32, .istore_n 2, 1) rfl rfl) rfl rfl (by decide),
    st_iinc hC (n := 21) (x := 1) (dc_X6_worthOf 21 (33, .iinc 3 1, 3) rfl rfl) rfl (by decide) (by decide),
    st_goto hC (n := 22) (dc_X6_worthOf 22 (36, .goto (-32), 3) rfl rfl) (by decide),
    st_iload_n hC (n := 23) (k := 2) (dc_X6_worthOf 23 (39, .iload_n 2, 1) rfl rfl) rfl rfl,
    st_iret hC (n := 24) hR (dc_X6_worthOf 24 (40, .ireturn, 1) rfl rfl), trivial⟩
set_option maxRecDepth 8000 in
theorem vc_X6_worthOf : VC P_X6_worthOf 4 Pre_X6_worthOf Fn_X6_worthOf := by
  rintro mm as hom hoa ⟨g, ns, nm, n, hV, s, rfl⟩
  refine ⟨Nat.le_of_ble_eq_true rfl, fun X h => ?_⟩
  have hn : mm.1 6 g 15 = nI n := hV.1.2.2.1.1
  have hn12 : n ≤ 12 := hV.1.2.2.1.2
  have hF : Fn_X6_worthOf mm [vR 6 g, vI s] = (some (vI (wth (abV mm g) s n)), mm) := by
    show (some (vI (wth (abV mm g) s (mm.1 6 g 15).toNatClampNeg)), mm) = _
    rw [hn, nI_clamp (by omega)]
  rw [hF] at h
  have loop : ∀ t, t ≤ n → X 4 [some (vR 6 g), some (vI (s)), some (vI (wth (abV mm g) s t)), some (vI (nI t))] [] mm := by
    refine up_ind n ?_ (fun t ht ih => ?_)
    ·
      show X 4 [some (vR 6 g), some (vI s), some (vI (wth (abV mm g) s n)), some (vI (nI n))] [] mm
      refine h (fun _ => false) 3000 4 _ _ _ ?_
      refine br_t (show mm.1 6 g 15 ≤ nI n from by rw [hn]; exact Int32.le_refl _) ?_
      show ((some (vI (wth (abV mm g) s n)) : Option MV), mm) = _
      exact rfl
    · have et : (nI t).toNatClampNeg = t := nI_clamp (by omega)
      rw [wth, ab_wor (by omega)] at ih
      show X 4 [some (vR 6 g), some (vI s), some (vI (wth (abV mm g) s t)), some (vI (nI t))] [] mm
      refine h (fun i => Nat.beq i 4) 3000 4 _ _ _ ?_
      refine br_f (show ¬ (mm.1 6 g 15 ≤ nI t) from by rw [hn]; exact nI_ge ht (by omega)) ?_
      refine And.intro (show Pre_X11_holds mm [vI s, vI (nI t)] from ⟨_, _, rfl⟩) ?_
      refine br_c (fun b12 => ?_) (fun b12 => ?_)
      · -- 12: bI (inS s (nI t)) = 0 taken
        replace b12 : ¬ (inS s (nI t)) := bI_0.mp b12
        (try simp only [et] at b12)
        show X 4 [some (vR 6 g), some (vI s), some (vI ((wth (abV mm g) s t) + 0)), some (vI ((nI t) + 1))] [] mm
        (try simp only [et])
        rw [if_neg b12] at ih
        rw [nI_1] 
        exact ih
      · -- 12: bI (inS s (nI t)) = 0 on
        replace b12 : inS s (nI t) := bI_n0.mp b12
        (try simp only [et] at b12)
        refine And.intro (show inb (nI t) (alen 36) = true from (inb_o 12 rfl rfl rfl (by omega))) ?_
        show X 4 [some (vR 6 g), some (vI s), some (vI ((wth (abV mm g) s t) + (mm.1 36 g ((nI t).toNatClampNeg)))), some (vI ((nI t) + 1))] [] mm
        (try simp only [et])
        rw [if_pos b12] at ih
        rw [nI_1] 
        exact ih
  show X 0 [some (vR 6 g), some (vI s), none, none] [] mm
  refine h (fun i => Nat.beq i 4) 3000 0 _ _ _ ?_
  show X 4 [some (vR 6 g), some (vI s), some (vI 0), some (vI 0)] [] mm
  exact loop 0 (by omega)
theorem con_X6_worthOf (l : Launch) : CON l y_X6_worthOf prog_8_method_12_code 4 (some .int) rm_X6_worthOf Pre_X6_worthOf Fn_X6_worthOf := CON_of (by decide) rfl rfl (sa_X6_worthOf l) vc_X6_worthOf
--tpl ⟨_, _, _, _, by assumption, _, rfl⟩ || wtA (abV {m} {g0}) (thA (abV {m} {g0}) {1} &&& (abV {m} {g0} 8 ^^^ -1))
def Pre_X6_left : PreT := fun m as => ∃ g ns nm nt, VC2 m g ns nm nt ∧ ∃ s : Int32, as = [vR 6 g, vI s]
def Fn_X6_left : FnT := fun m as => match as with
  | [Sum.inr (Sum.inr q), Sum.inl s] => (some (vI (wtA (abV m q.2) (thA (abV m q.2) s &&& (abV m q.2 8 ^^^ -1)))), m)
  | _ => (none, m)
abbrev y_X6_left : MethodName := ⟨"GivenUp$Valley", "left", "(I)I"⟩
def P_X6_left : List StpT := [s_aload 0, s_aload 0, s_iload 1, s_callV 6 1 Pre_X6_goods Fn_X6_goods, s_aload 0, s_getR 6 11 1, s_getI 1 5, s_ic (-1), s_ixor, s_iand, s_callV 6 1 Pre_X6_worthOf Fn_X6_worthOf, s_iret]
def pc_X6_left : Nat → Nat := fun i => [0, 1, 2, 3, 6, 7, 10, 13, 14, 15, 16, 19].getD i 0
def dl_X6_left : List (Nat × Instr × Nat) := [(0, .aload_n 0, 1), (1, .aload_n 0, 1), (2, .iload_n 1, 1), (3, .invokevirtual 126, 3), (6, .aload_n 0, 1), (7, .getfield 49, 3), (10, .getfield 129, 3), (13, .iconst (-1), 1), (14, .ixor, 1), (15, .iand, 1), (16, .invokevirtual 132, 3), (19, .ireturn, 1)]
theorem dc_X6_left : DEC prog_8_method_13_code pc_X6_left dl_X6_left := DEC_of (by decide +kernel)
abbrev rm_X6_left : Room := { frames := 2, cells := 0, slots := 0, locals := 44 }
set_option maxRecDepth 20000 in
theorem sa_X6_left (l : Launch) : SNDALL l prog_8_method_13_code "GivenUp$Valley" 2 (some .int) rm_X6_left P_X6_left pc_X6_left := fun p e s m args below meth c cells slots Q D dA ad A RR hC hR => by
  have hM := RTX_room (R := rm_X6_left) hR
  exact ⟨st_aload_n hC (n := 0) (k := 0) (dc_X6_left 0 (0, .aload_n 0, 1) rfl rfl) rfl rfl,
    st_aload_n hC (n := 1) (k := 0) (dc_X6_left 1 (1, .aload_n 0, 1) rfl rfl) rfl rfl,
    st_iload_n hC (n := 2) (k := 1) (dc_X6_left 2 (2, .iload_n 1, 1) rfl rfl) rfl rfl,
    st_callV hC (n := 3) (k := 6) (na := 1) (con_X6_goods l) (dc_X6_left 3 (3, .invokevirtual 126, 3) rfl rfl) rfl wd_1035 wd_155 (by decide) ⟨rfl, rfl, by decide, by decide⟩ hM wd_1032 wd_1033 wd_1034 clf_6,
    st_aload_n hC (n := 4) (k := 0) (dc_X6_left 4 (6, .aload_n 0, 1) rfl rfl) rfl rfl,
    st_getR hC (n := 5) (k := 6) (j := 11) (dc_X6_left 5 (7, .getfield 49, 3) rfl rfl) rfl clf_6 (by decide) rfl (by decide) wd_610,
    st_getI hC (n := 6) (k := 1) (j := 5) (dc_X6_left 6 (10, .getfield 129, 3) rfl rfl) rfl clf_1 (by decide) rfl wd_483,
    st_iconst hC (n := 7) (x := (-1)) (dc_X6_left 7 (13, .iconst (-1), 1) rfl rfl) rfl (by decide),
    st_ixor hC (n := 8) (dc_X6_left 8 (14, .ixor, 1) rfl rfl) rfl,
    st_iand hC (n := 9) (dc_X6_left 9 (15, .iand, 1) rfl rfl) rfl,
    st_callV hC (n := 10) (k := 6) (na := 1) (con_X6_worthOf l) (dc_X6_left 10 (16, .invokevirtual 132, 3) rfl rfl) rfl wd_1039 wd_155 (by decide) ⟨rfl, rfl, by decide, by decide⟩ hM wd_1036 wd_1038 wd_22 clf_6,
    st_iret hC (n := 11) hR (dc_X6_left 11 (19, .ireturn, 1) rfl rfl), trivial⟩
set_option maxRecDepth 8000 in
theorem vc_X6_left : VC P_X6_left 2 Pre_X6_left Fn_X6_left := by
  rintro mm as hom hoa ⟨g, ns, nm, n, hV, s, rfl⟩
  refine ⟨Nat.le_of_ble_eq_true rfl, fun X h => ?_⟩
  show X 0 [some (vR 6 g), some (vI s)] [] mm
  refine h (fun _ => false) 3000 0 _ _ _ ?_
  refine And.intro (show Pre_X6_goods mm [vR 6 g, vI s] from ⟨g, ns, nm, n, hV, s, rfl⟩) ?_
  refine And.intro (show Pre_X6_worthOf mm [vR 6 g, vI ((thA (abV mm g) s) &&& ((mm.1 1 g 5) ^^^ (-1)))] from ⟨g, ns, nm, n, hV, _, rfl⟩) ?_
  show ((some (vI (wtA (abV mm g) ((thA (abV mm g) s) &&& ((mm.1 1 g 5) ^^^ (-1))))) : Option MV), mm) = _
  exact rfl
theorem con_X6_left (l : Launch) : CON l y_X6_left prog_8_method_13_code 2 (some .int) rm_X6_left Pre_X6_left Fn_X6_left := CON_of (by decide) rfl rfl (sa_X6_left l) vc_X6_left
--tpl ⟨_, _, _, _, by assumption, _, rfl⟩ || lsA' (abV {m} {g0}) {1}
def Pre_X6_loss : PreT := fun m as => ∃ g ns nm nt, VC2 m g ns nm nt ∧ ∃ s : Int32, as = [vR 6 g, vI s]
def Fn_X6_loss : FnT := fun m as => match as with
  | [Sum.inr (Sum.inr q), Sum.inl s] => (some (vI (lsA' (abV m q.2) s)), m)
  | _ => (none, m)
abbrev y_X6_loss : MethodName := ⟨"GivenUp$Valley", "loss", "(I)I"⟩
def P_X6_loss : List StpT := [s_aload 0, s_aload 0, s_iload 1, s_callV 6 1 Pre_X6_goods Fn_X6_goods, s_aload 0, s_getR 6 11 1, s_getI 1 5, s_iand, s_callV 6 1 Pre_X6_worthOf Fn_X6_worthOf, s_iret]
def pc_X6_loss : Nat → Nat := fun i => [0, 1, 2, 3, 6, 7, 10, 13, 14, 17].getD i 0
def dl_X6_loss : List (Nat × Instr × Nat) := [(0, .aload_n 0, 1), (1, .aload_n 0, 1), (2, .iload_n 1, 1), (3, .invokevirtual 126, 3), (6, .aload_n 0, 1), (7, .getfield 49, 3), (10, .getfield 129, 3), (13, .iand, 1), (14, .invokevirtual 132, 3), (17, .ireturn, 1)]
theorem dc_X6_loss : DEC prog_8_method_14_code pc_X6_loss dl_X6_loss := DEC_of (by decide +kernel)
abbrev rm_X6_loss : Room := { frames := 2, cells := 0, slots := 0, locals := 44 }
set_option maxRecDepth 20000 in
theorem sa_X6_loss (l : Launch) : SNDALL l prog_8_method_14_code "GivenUp$Valley" 2 (some .int) rm_X6_loss P_X6_loss pc_X6_loss := fun p e s m args below meth c cells slots Q D dA ad A RR hC hR => by
  have hM := RTX_room (R := rm_X6_loss) hR
  exact ⟨st_aload_n hC (n := 0) (k := 0) (dc_X6_loss 0 (0, .aload_n 0, 1) rfl rfl) rfl rfl,
    st_aload_n hC (n := 1) (k := 0) (dc_X6_loss 1 (1, .aload_n 0, 1) rfl rfl) rfl rfl,
    st_iload_n hC (n := 2) (k := 1) (dc_X6_loss 2 (2, .iload_n 1, 1) rfl rfl) rfl rfl,
    st_callV hC (n := 3) (k := 6) (na := 1) (con_X6_goods l) (dc_X6_loss 3 (3, .invokevirtual 126, 3) rfl rfl) rfl wd_1035 wd_155 (by decide) ⟨rfl, rfl, by decide, by decide⟩ hM wd_1032 wd_1033 wd_1034 clf_6,
    st_aload_n hC (n := 4) (k := 0) (dc_X6_loss 4 (6, .aload_n 0, 1) rfl rfl) rfl rfl,
    st_getR hC (n := 5) (k := 6) (j := 11) (dc_X6_loss 5 (7, .getfield 49, 3) rfl rfl) rfl clf_6 (by decide) rfl (by decide) wd_610,
    st_getI hC (n := 6) (k := 1) (j := 5) (dc_X6_loss 6 (10, .getfield 129, 3) rfl rfl) rfl clf_1 (by decide) rfl wd_483,
    st_iand hC (n := 7) (dc_X6_loss 7 (13, .iand, 1) rfl rfl) rfl,
    st_callV hC (n := 8) (k := 6) (na := 1) (con_X6_worthOf l) (dc_X6_loss 8 (14, .invokevirtual 132, 3) rfl rfl) rfl wd_1039 wd_155 (by decide) ⟨rfl, rfl, by decide, by decide⟩ hM wd_1036 wd_1038 wd_22 clf_6,
    st_iret hC (n := 9) hR (dc_X6_loss 9 (17, .ireturn, 1) rfl rfl), trivial⟩
set_option maxRecDepth 8000 in
theorem vc_X6_loss : VC P_X6_loss 2 Pre_X6_loss Fn_X6_loss := by
  rintro mm as hom hoa ⟨g, ns, nm, n, hV, s, rfl⟩
  refine ⟨Nat.le_of_ble_eq_true rfl, fun X h => ?_⟩
  show X 0 [some (vR 6 g), some (vI s)] [] mm
  refine h (fun _ => false) 3000 0 _ _ _ ?_
  refine And.intro (show Pre_X6_goods mm [vR 6 g, vI s] from ⟨g, ns, nm, n, hV, s, rfl⟩) ?_
  refine And.intro (show Pre_X6_worthOf mm [vR 6 g, vI ((thA (abV mm g) s) &&& (mm.1 1 g 5))] from ⟨g, ns, nm, n, hV, _, rfl⟩) ?_
  show ((some (vI (wtA (abV mm g) ((thA (abV mm g) s) &&& (mm.1 1 g 5)))) : Option MV), mm) = _
  exact rfl
theorem con_X6_loss (l : Launch) : CON l y_X6_loss prog_8_method_14_code 2 (some .int) rm_X6_loss Pre_X6_loss Fn_X6_loss := CON_of (by decide) rfl rfl (sa_X6_loss l) vc_X6_loss
--tpl ⟨_, {1N}, rfl⟩ || tsA (abV {m} {g0}) {1n}
def Pre_X6_stateOf : PreT := fun _ as => ∃ g t : Nat, t < 12 ∧ as = [vR 6 g, vI (nI t)]
def Fn_X6_stateOf : FnT := fun m as => match as with
  | [Sum.inr (Sum.inr q), Sum.inl t] => (some (vI (tsA (abV m q.2) t.toNatClampNeg)), m)
  | _ => (none, m)
abbrev y_X6_stateOf : MethodName := ⟨"GivenUp$Valley", "stateOf", "(I)I"⟩
def P_X6_stateOf : List StpT := [s_aload 0, s_getR 6 11 1, s_getI 1 5, s_iload 1, s_callS 2 Pre_X11_holds Fn_X11_holds, s_ifeq 8, s_ic (1), s_iret, s_aload 0, s_getR 6 11 1, s_getI 1 6, s_iload 1, s_callS 2 Pre_X11_holds Fn_X11_holds, s_ifeq 16, s_ic (2), s_goto 17, s_ic (0), s_iret]
def pc_X6_stateOf : Nat → Nat := fun i => [0, 1, 4, 7, 8, 11, 14, 15, 16, 17, 20, 23, 24, 27, 30, 31, 34, 35].getD i 0
def dl_X6_stateOf : List (Nat × Instr × Nat) := [(0, .aload_n 0, 1), (1, .getfield 49, 3), (4, .getfield 129, 3), (7, .iload_n 1, 1), (8, .invokestatic 116, 3), (11, .ifCond .eq 5, 3), (14, .iconst 1, 1), (15, .ireturn, 1), (16, .aload_n 0, 1), (17, .getfield 49, 3), (20, .getfield 135, 3), (23, .iload_n 1, 1), (24, .invokestatic 116, 3), (27, .ifCond .eq 7, 3), (30, .iconst 2, 1), (31, .goto 4, 3), (34, .iconst 0, 1), (35, .ireturn, 1)]
theorem dc_X6_stateOf : DEC prog_8_method_15_code pc_X6_stateOf dl_X6_stateOf := DEC_of (by decide +kernel)
abbrev rm_X6_stateOf : Room := { frames := 1, cells := 0, slots := 0, locals := 21 }
set_option maxRecDepth 20000 in
theorem sa_X6_stateOf (l : Launch) : SNDALL l prog_8_method_15_code "GivenUp$Valley" 2 (some .int) rm_X6_stateOf P_X6_stateOf pc_X6_stateOf := fun p e s m args below meth c cells slots Q D dA ad A RR hC hR => by
  have hM := RTX_room (R := rm_X6_stateOf) hR
  exact ⟨st_aload_n hC (n := 0) (k := 0) (dc_X6_stateOf 0 (0, .aload_n 0, 1) rfl rfl) rfl rfl,
    st_getR hC (n := 1) (k := 6) (j := 11) (dc_X6_stateOf 1 (1, .getfield 49, 3) rfl rfl) rfl clf_6 (by decide) rfl (by decide) wd_610,
    st_getI hC (n := 2) (k := 1) (j := 5) (dc_X6_stateOf 2 (4, .getfield 129, 3) rfl rfl) rfl clf_1 (by decide) rfl wd_483,
    st_iload_n hC (n := 3) (k := 1) (dc_X6_stateOf 3 (7, .iload_n 1, 1) rfl rfl) rfl rfl,
    st_callSN hC (n := 4) (na := 2) (con_X11_holds l) (dc_X6_stateOf 4 (8, .invokestatic 116, 3) rfl rfl) rfl wd_955 wd_143 (by decide) ⟨rfl, rfl, by decide, by decide⟩ hM ⟨"GivenUp", by decide⟩ wd_954,
    st_ifeq hC (n := 5) (dc_X6_stateOf 5 (11, .ifCond .eq 5, 3) rfl rfl) rfl (by decide),
    st_iconst hC (n := 6) (x := 1) (dc_X6_stateOf 6 (14, .iconst 1, 1) rfl rfl) rfl (by decide),
    st_iret hC (n := 7) hR (dc_X6_stateOf 7 (15, .ireturn, 1) rfl rfl),
    st_aload_n hC (n := 8) (k := 0) (dc_X6_stateOf 8 (16, .aload_n 0, 1) rfl rfl) rfl rfl,
    st_getR hC (n := 9) (k := 6) (j := 11) (dc_X6_stateOf 9 (17, .getfield 49, 3) rfl rfl) rfl clf_6 (by decide) rfl (by decide) wd_610,
    st_getI hC (n := 10) (k := 1) (j := 6) (dc_X6_stateOf 10 (20, .getfield 135, 3) rfl rfl) rfl clf_1 (by decide) rfl wd_488,
    st_iload_n hC (n := 11) (k := 1) (dc_X6_stateOf 11 (23, .iload_n 1, 1) rfl rfl) rfl rfl,
    st_callSN hC (n := 12) (na := 2) (con_X11_holds l) (dc_X6_stateOf 12 (24, .invokestatic 116, 3) rfl rfl) rfl wd_955 wd_143 (by decide) ⟨rfl, rfl, by decide, by decide⟩ hM ⟨"GivenUp", by decide⟩ wd_954,
    st_ifeq hC (n := 13) (dc_X6_stateOf 13 (27, .ifCond .eq 7, 3) rfl rfl) rfl (by decide),
    st_iconst hC (n := 14) (x := 2) (dc_X6_stateOf 14 (30, .iconst 2, 1) rfl rfl) rfl (by decide),
    st_goto hC (n := 15) (dc_X6_stateOf 15 (31, .goto 4, 3) rfl rfl) (by decide),
    st_iconst hC (n := 16) (x := 0) (dc_X6_stateOf 16 (34, .iconst 0, 1) rfl rfl) rfl (by decide),
    st_iret hC (n := 17) hR (dc_X6_stateOf 17 (35, .ireturn, 1) rfl rfl), trivial⟩
set_option maxRecDepth 8000 in
theorem vc_X6_stateOf : VC P_X6_stateOf 2 Pre_X6_stateOf Fn_X6_stateOf := by
  rintro mm as hom hoa ⟨g, t, ht, rfl⟩
  refine ⟨Nat.le_of_ble_eq_true rfl, fun X h => ?_⟩
  have hF : Fn_X6_stateOf mm [vR 6 g, vI (nI t)] = (some (vI (if inS (mm.1 1 g 5) (nI t) then 1 else if inS (mm.1 1 g 6) (nI t) then 2 else 0)), mm) := by
    show (some (vI (tsA (abV mm g) (nI t).toNatClampNeg)), mm) = _
    rw [nI_clamp (by omega)]
    rfl
  rw [hF] at h
  show X 0 [some (vR 6 g), some (vI (nI t))] [] mm
  refine h (fun _ => false) 3000 0 _ _ _ ?_
  refine And.intro (show Pre_X11_holds mm [vI (mm.1 1 g 5), vI (nI t)] from ⟨_, _, rfl⟩) ?_
  refine br_c (fun b5 => ?_) (fun b5 => ?_)
  · -- 5: bI (inS (mm.1 1 g 5) (nI t)) = 0 taken
    replace b5 : ¬ (inS (mm.1 1 g 5) (nI t)) := bI_0.mp b5
    refine And.intro (show Pre_X11_holds mm [vI (mm.1 1 g 6), vI (nI t)] from ⟨_, _, rfl⟩) ?_
    refine br_c (fun b13 => ?_) (fun b13 => ?_)
    · -- 13: bI (inS (mm.1 1 g 6) (nI t)) = 0 taken
      replace b13 : ¬ (inS (mm.1 1 g 6) (nI t)) := bI_0.mp b13
      show ((some (vI 0) : Option MV), mm) = _
      refine leaf ?_
      rw [if_neg b5, if_neg b13]
    · -- 13: bI (inS (mm.1 1 g 6) (nI t)) = 0 on
      replace b13 : inS (mm.1 1 g 6) (nI t) := bI_n0.mp b13
      show ((some (vI 2) : Option MV), mm) = _
      refine leaf ?_
      rw [if_neg b5, if_pos b13]
  · -- 5: bI (inS (mm.1 1 g 5) (nI t)) = 0 on
    replace b5 : inS (mm.1 1 g 5) (nI t) := bI_n0.mp b5
    show ((some (vI 1) : Option MV), mm) = _
    refine leaf ?_
    rw [if_pos b5]
theorem con_X6_stateOf (l : Launch) : CON l y_X6_stateOf prog_8_method_15_code 2 (some .int) rm_X6_stateOf Pre_X6_stateOf Fn_X6_stateOf := CON_of (by decide) rfl rfl (sa_X6_stateOf l) vc_X6_stateOf
--tpl ⟨_, {1N}, {2N}, by omega, by omega, rfl⟩ || abV {m} {g0} (80 + 4 * {1n} + {2n})
def Pre_X6_word : PreT := fun _ as => ∃ g t d : Nat, t < 12 ∧ d < 4 ∧ as = [vR 6 g, vI (nI t), vI (nI d)]
def Fn_X6_word : FnT := fun m as => match as with
  | [Sum.inr (Sum.inr q), Sum.inl t, Sum.inl d] => (some (vI (abV m q.2 (80 + 4 * t.toNatClampNeg + d.toNatClampNeg))), m)
  | _ => (none, m)
abbrev y_X6_word : MethodName := ⟨"GivenUp$Valley", "word", "(II)I"⟩
def P_X6_word : List StpT := [s_aload 0, s_getR 6 10 39, s_iload 1, s_ic (4), s_imul, s_iload 2, s_iadd, s_iald, s_iret]
def pc_X6_word : Nat → Nat := fun i => [0, 1, 4, 5, 6, 7, 8, 9, 10].getD i 0
def dl_X6_word : List (Nat × Instr × Nat) := [(0, .aload_n 0, 1), (1, .getfield 43, 3), (4, .iload_n 1, 1), (5, .iconst 4, 1), (6, .imul, 1), (7, .iload_n 2, 1), (8, .iadd, 1), (9, .iaload, 1), (10, .ireturn, 1)]
theorem dc_X6_word : DEC prog_8_method_16_code pc_X6_word dl_X6_word := DEC_of (by decide +kernel)
abbrev rm_X6_word : Room := { frames := 0, cells := 0, slots := 0, locals := 0 }
set_option maxRecDepth 20000 in
theorem sa_X6_word (l : Launch) : SNDALL l prog_8_method_16_code "GivenUp$Valley" 3 (some .int) rm_X6_word P_X6_word pc_X6_word := fun p e s m args below meth c cells slots Q D dA ad A RR hC hR => by
  have hM := RTX_room (R := rm_X6_word) hR
  exact ⟨st_aload_n hC (n := 0) (k := 0) (dc_X6_word 0 (0, .aload_n 0, 1) rfl rfl) rfl rfl,
    st_getR hC (n := 1) (k := 6) (j := 10) (dc_X6_word 1 (1, .getfield 43, 3) rfl rfl) rfl clf_6 (by decide) rfl (by decide) wd_608,
    st_iload_n hC (n := 2) (k := 1) (dc_X6_word 2 (4, .iload_n 1, 1) rfl rfl) rfl rfl,
    st_iconst hC (n := 3) (x := 4) (dc_X6_word 3 (5, .iconst 4, 1) rfl rfl) rfl (by decide),
    st_imul hC (n := 4) (dc_X6_word 4 (6, .imul, 1) rfl rfl) rfl,
    st_iload_n hC (n := 5) (k := 2) (dc_X6_word 5 (7, .iload_n 2, 1) rfl rfl) rfl rfl,
    st_iadd hC (n := 6) (dc_X6_word 6 (8, .iadd, 1) rfl rfl) rfl,
    st_iald hC (n := 7) (dc_X6_word 7 (9, .iaload, 1) rfl rfl) rfl,
    st_iret hC (n := 8) hR (dc_X6_word 8 (10, .ireturn, 1) rfl rfl), trivial⟩
set_option maxRecDepth 8000 in
theorem vc_X6_word : VC P_X6_word 3 Pre_X6_word Fn_X6_word := by
  rintro mm as hom hoa ⟨g, t, d, ht, hd, rfl⟩
  refine ⟨Nat.le_of_ble_eq_true rfl, fun X h => ?_⟩
  have hF : Fn_X6_word mm [vR 6 g, vI (nI t), vI (nI d)] = (some (vI (mm.1 39 g (4 * t + d))), mm) := by
    show (some (vI (abV mm g (80 + 4 * (nI t).toNatClampNeg + (nI d).toNatClampNeg))), mm) = _
    rw [nI_clamp (by omega), nI_clamp (by omega), ab_say ht hd]
  rw [hF] at h
  have ex : nI t * 4 + nI d = nI (4 * t + d) := by simp (disch := omega) only [li, pk_mul, nI_add, nI_clamp]; congr 1; omega
  show X 0 [some (vR 6 g), some (vI (nI t)), some (vI (nI d))] [] mm
  refine h (fun _ => false) 3000 0 _ _ _ ?_
  refine And.intro (show inb (((nI t) * 4) + (nI d)) (alen 39) = true from (inb_o 48 rfl rfl ex (by omega))) ?_
  show ((some (vI (mm.1 39 g ((((nI t) * 4) + (nI d)).toNatClampNeg))) : Option MV), mm) = _
  rw [ex, nI_clamp (by omega)]
theorem con_X6_word (l : Launch) : CON l y_X6_word prog_8_method_16_code 3 (some .int) rm_X6_word Pre_X6_word Fn_X6_word := CON_of (by decide) rfl rfl (sa_X6_word l) vc_X6_word
/-- a bit of a set, asked in another way -/
theorem and_p2 (k t : Nat) : k &&& 2 ^ t = (k.testBit t).toNat * 2 ^ t := by
  apply Nat.eq_of_testBit_eq
  intro i
  rw [Nat.testBit_and, Nat.testBit_two_pow]
  by_cases e : t = i
  · subst e
    cases h : k.testBit t
    · simp
    · simp [Nat.testBit_two_pow]
  · cases h : k.testBit t
    · simp [e]
    · simp [Nat.testBit_two_pow, e]
theorem one_bit (y : Int32) : (y &&& 1 = 1) ↔ y.toBitVec.getLsbD 0 = true := by
  obtain ⟨k, hk⟩ : ∃ k, k = y.toBitVec.toNat := ⟨_, rfl⟩
  have e : y &&& 1 = nI (k % 2) := by
    rw [any_nI y, ← hk, show (1 : Int32) = nI 1 from rfl, nIand, Nat.and_one_is_mod]
  rw [e, show (1 : Int32) = nI 1 from rfl, nI_eq (by omega) (by omega)]
  show _ ↔ y.toBitVec.toNat.testBit 0 = true
  rw [← hk, Nat.testBit_zero, decide_eq_true_eq]
theorem shr_bit {x : Int32} {t : Nat} (ht : t < 31) : (x >>> (nI t &&& 31)).toBitVec.getLsbD 0 = x.toBitVec.getLsbD t := by
  rw [Int32.toBitVec_shiftRight]
  show (x.toBitVec.sshiftRight ((nI t &&& 31).toBitVec.smod 32).toNat).getLsbD 0 = _
  rw [sh31 t (by omega), BitVec.getLsbD_sshiftRight]
  simp
  omega
theorem inS_bit {x : Int32} {t : Nat} (ht : t < 31) : inS x (nI t) ↔ x.toBitVec.toNat.testBit t = true := by
  unfold inS
  rw [one_bit, shr_bit ht]
  exact Iff.rfl
theorem bit_z {x : Int32} {t : Nat} (ht : t < 31) : (x &&& (1 <<< (nI t &&& 31)) = 0) ↔ ¬ inS x (nI t) := by
  rw [inS_bit ht, nIbit ht]
  obtain ⟨k, hk⟩ : ∃ k, k = x.toBitVec.toNat := ⟨_, rfl⟩
  have e : x &&& nI (2 ^ t) = nI ((k.testBit t).toNat * 2 ^ t) := by
    rw [any_nI x, ← hk, nIand, and_p2]
  have hp : 2 ^ t < 2 ^ 31 := Nat.pow_lt_pow_right (by decide) ht
  have h1 : 0 < 2 ^ t := Nat.two_pow_pos t
  rw [e, ← hk]
  cases k.testBit t
  · simp
    rfl
  · simp only [Bool.toNat_true, Nat.one_mul, not_true, iff_false]
    intro z
    have := (nI_eq (a := 2 ^ t) (b := 0) hp (by omega)).mp z
    omega

--tpl ⟨_, _, _, _, {2N}, by assumption, by omega, _, rfl⟩ || syA (abV {m} {g0}) {1} {2n}
def Pre_X6_saying : PreT := fun m as => ∃ g ns nm nt d, VC2 m g ns nm nt ∧ d < 4 ∧ ∃ s : Int32, as = [vR 6 g, vI s, vI (nI d)]
def Fn_X6_saying : FnT := fun m as => match as with
  | [Sum.inr (Sum.inr q), Sum.inl s, Sum.inl d] => (some (vI (syA (abV m q.2) s d.toNatClampNeg)), m)
  | _ => (none, m)
abbrev y_X6_saying : MethodName := ⟨"GivenUp$Valley", "saying", "(II)I"⟩
def P_X6_saying : List StpT := [s_ic (0), s_istore 3, s_ic (0), s_istore 4, s_iload 4, s_aload 0, s_getI 6 15, s_icge 29, s_iload 3, s_iload 1, s_ic (1), s_iload 4, s_ishl, s_iand, s_ifeq 24, s_aload 0, s_getR 6 10 39, s_iload 4, s_ic (4), s_imul, s_iload 2, s_iadd, s_iald, s_goto 25, s_ic (0), s_iadd, s_istore 3, s_iinc 4 (1), s_goto 4, s_iload 3, s_iret]
def pc_X6_saying : Nat → Nat := fun i => [0, 1, 2, 3, 5, 7, 8, 11, 14, 15, 16, 17, 19, 20, 21, 24, 25, 28, 30, 31, 32, 33, 34, 35, 38, 39, 40, 41, 44, 47, 48].getD i 0
def dl_X6_saying : List (Nat × Instr × Nat) := [(0, .iconst 0, 1), (1, .istore_n 3, 1), (2, .iconst 0, 1), (3, .istore 4, 2), (5, .iload 4, 2), (7, .aload_n 0, 1), (8, .getfield 67, 3), (11, .if_icmp .ge 36, 3), (14, .iload_n 3, 1), (15, .iload_n 1, 1), (16, .iconst 1, 1), (17, .iload 4, 2), (19, .ishl, 1), (20, .iand, 1), (21, .ifCond .eq 17, 3), (24, .aload_n 0, 1), (25, .getfield 43, 3), (28, .iload 4, 2), (30, .iconst 4, 1), (31, .imul, 1), (32, .iload_n 2, 1), (33, .iadd, 1), (34, .iaload, 1), (35, .goto 4, 3), (38, .iconst 0, 1), (39, .iadd, 1), (40, .istore_n 3, 1), (41, .iinc 4 1, 3), (44, .goto (-39), 3), (47, .iload_n 3, 1), (48, .ireturn, 1)]
theorem dc_X6_saying : DEC prog_8_method_17_code pc_X6_saying dl_X6_saying := DEC_of (by decide +kernel)
abbrev rm_X6_saying : Room := { frames := 0, cells := 0, slots := 0, locals := 0 }
set_option maxRecDepth 20000 in
theorem sa_X6_saying (l : Launch) : SNDALL l prog_8_method_17_code "GivenUp$Valley" 5 (some .int) rm_X6_saying P_X6_saying pc_X6_saying := fun p e s m args below meth c cells slots Q D dA ad A RR hC hR => by
  have hM := RTX_room (R := rm_X6_saying) hR
  exact ⟨st_iconst hC (n := 0) (x := 0) (dc_X6_saying 0 (0, .iconst 0, 1) rfl rfl) rfl (by decide),
    st_istore_n hC (n := 1) (k := 3) (dc_X6_saying 1 (1, .istore_n 3, 1) rfl rfl) rfl rfl (by decide),
    st_iconst hC (n := 2) (x := 0) (dc_X6_saying 2 (2, .iconst 0, 1) rfl rfl) rfl (by decide),
    st_istore hC (n := 3) (dc_X6_saying 3 (3, .istore 4, 2) rfl rfl) rfl (by decide),
    st_iload hC (n := 4) (dc_X6_saying 4 (5, .iload 4, 2) rfl rfl) rfl,
    st_aload_n hC (n := 5) (k := 0) (dc_X6_saying 5 (7, .aload_n 0, 1) rfl rfl) rfl rfl,
    st_getI hC (n := 6) (k := 6) (j := 15) (dc_X6_saying 6 (8, .getfield 67, 3) rfl rfl) rfl clf_6 (by decide) rfl wd_629,
    st_icge hC (n := 7) (dc_X6_saying 7 (11, .if_icmp .ge 36, 3) rfl rfl) rfl (by decide),
    st_iload_n hC (n := 8) (k := 3) (dc_X6_saying 8 (14, .iload_n 3, 1) rfl rfl) rfl rfl,
    st_iload_n hC (n := 9) (k := 1) (dc_X6_saying 9 (15, .iload_n 1, 1) rfl rfl) rfl rfl,
    st_iconst hC (n := 10) (x := 1) (dc_X6_saying 10 (16, .iconst 1, 1) rfl rfl) rfl (by decide),
    st_iload hC (n := 11) (dc_X6_saying 11 (17, .iload 4, 2) rfl rfl) rfl,
    st_ishl hC (n := 12) (dc_X6_saying 12 (19, .ishl, 1) rfl rfl) rfl,
    st_iand hC (n := 13) (dc_X6_saying 13 (20, .iand, 1) rfl rfl) rfl,
    st_ifeq hC (n := 14) (dc_X6_saying 14 (21, .ifCond .eq 17, 3) rfl rfl) rfl (by decide),
    st_aload_n hC (n := 15) (k := 0) (dc_X6_saying 15 (24, .aload_n 0, 1) rfl rfl) rfl rfl,
    st_getR hC (n := 16) (k := 6) (j := 10) (dc_X6_saying 16 (25, .getfield 43, 3) rfl rfl) rfl clf_6 (by decide) rfl (by decide) wd_608,
    st_iload hC (n := 17) (dc_X6_saying 17 (28, .iload 4, 2) rfl rfl) rfl,
    st_iconst hC (n := 18) (x := 4) (dc_X6_saying 18 (30, .iconst 4, 1) rfl rfl) rfl (by decide),
    st_imul hC (n := 19) (dc_X6_saying 19 (31, .imul, 1) rfl rfl) rfl,
    st_iload_n hC (n := 20) (k := 2) (dc_X6_saying 20 (32, .iload_n 2, 1) rfl rfl) rfl rfl,
    st_iadd hC (n := 21) (dc_X6_saying 21 (33, .iadd, 1) rfl rfl) rfl,
    st_iald hC (n := 22) (dc_X6_saying 22 (34, .iaload, 1) rfl rfl) rfl,
    st_goto hC (n := 23) (dc_X6_saying 23 (35, .goto 4, 3) rfl rfl) (by decide),
    st_iconst hC (n := 24) (x := 0) (dc_X6_saying 24 (38, .iconst 0, 1) rfl rfl) rfl (by decide),
    st_iadd hC (n := 25) (dc_X6_saying 25 (39, .iadd, 1) rfl rfl) rfl,
    st_istore_n hC (n := 26) (k := 3) (dc_X6_saying 26 (40, .istore_n 3, 1) rfl rfl) rfl rfl (by decide),
    st_iinc hC (n := 27) (x := 1) (dc_X6_saying 27 (41, .iinc 4 1, 3) rfl rfl) rfl (by decide) (by decide),
    st_goto hC (n := 28) (dc_X6_saying 28 (44, .goto (-39), 3) rfl rfl) (by decide),
    st_iload_n hC (n := 29) (k := 3) (dc_X6_saying 29 (47, .iload_n 3, 1) rfl rfl) rfl rfl,
    st_iret hC (n := 30) hR (dc_X6_saying 30 (48, .ireturn, 1) rfl rfl), trivial⟩
set_option maxRecDepth 8000 in
theorem vc_X6_saying : VC P_X6_saying 5 Pre_X6_saying Fn_X6_saying := by
  rintro mm as hom hoa ⟨g, ns, nm, n, d, hV, hd, s, rfl⟩
  refine ⟨Nat.le_of_ble_eq_true rfl, fun X h => ?_⟩
  have hn : mm.1 6 g 15 = nI n := hV.1.2.2.1.1
  have hn12 : n ≤ 12 := hV.1.2.2.1.2
  have hF : Fn_X6_saying mm [vR 6 g, vI s, vI (nI d)] = (some (vI (sayS (abV mm g) s d n)), mm) := by
    show (some (vI (sayS (abV mm g) s (nI d).toNatClampNeg (mm.1 6 g 15).toNatClampNeg)), mm) = _
    rw [hn, nI_clamp (by omega), nI_clamp (by omega)]
  rw [hF] at h
  have loop : ∀ t, t ≤ n → X 4 [some (vR 6 g), some (vI (s)), some (vI (nI d)), some (vI (sayS (abV mm g) s d t)), some (vI (nI t))] [] mm := by
    refine up_ind n ?_ (fun t ht ih => ?_)
    ·
      show X 4 [some (vR 6 g), some (vI s), some (vI (nI d)), some (vI (sayS (abV mm g) s d n)), some (vI (nI n))] [] mm
      refine h (fun _ => false) 3000 4 _ _ _ ?_
      refine br_t (show mm.1 6 g 15 ≤ nI n from by rw [hn]; exact Int32.le_refl _) ?_
      show ((some (vI (sayS (abV mm g) s d n)) : Option MV), mm) = _
      exact rfl
    · have ex : nI t * 4 + nI d = nI (4 * t + d) := by simp (disch := omega) only [li, pk_mul, nI_add, nI_clamp]; congr 1; omega
      have ey : (nI (4 * t + d)).toNatClampNeg = 4 * t + d := nI_clamp (by omega)
      rw [sayS, ab_say (by omega) hd] at ih
      show X 4 [some (vR 6 g), some (vI s), some (vI (nI d)), some (vI (sayS (abV mm g) s d t)), some (vI (nI t))] [] mm
      refine h (fun i => Nat.beq i 4) 3000 4 _ _ _ ?_
      refine br_f (show ¬ (mm.1 6 g 15 ≤ nI t) from by rw [hn]; exact nI_ge ht (by omega)) ?_
      refine br_c (fun b14 => ?_) (fun b14 => ?_)
      · -- 14: s &&& (1 <<< ((nI t) &&& 31)) = 0 taken
        replace b14 : s &&& (1 <<< ((nI t) &&& 31)) = 0 := b14
        (try simp only [ex, ey] at b14)
        show X 4 [some (vR 6 g), some (vI s), some (vI (nI d)), some (vI ((sayS (abV mm g) s d t) + 0)), some (vI ((nI t) + 1))] [] mm
        (try simp only [ex, ey])
        rw [if_neg ((bit_z (by omega)).mp b14)] at ih
        rw [nI_1] 
        exact ih
      · -- 14: s &&& (1 <<< ((nI t) &&& 31)) = 0 on
        replace b14 : ¬ (s &&& (1 <<< ((nI t) &&& 31)) = 0) := b14
        (try simp only [ex, ey] at b14)
        refine And.intro (show inb (((nI t) * 4) + (nI d)) (alen 39) = true from (inb_o 48 rfl rfl ex (by omega))) ?_
        show X 4 [some (vR 6 g), some (vI s), some (vI (nI d)), some (vI ((sayS (abV mm g) s d t) + (mm.1 39 g ((((nI t) * 4) + (nI d)).toNatClampNeg)))), some (vI ((nI t) + 1))] [] mm
        (try simp only [ex, ey])
        rw [if_pos (Classical.byContradiction (fun z => b14 ((bit_z (by omega)).mpr z)))] at ih
        rw [nI_1] 
        exact ih
  show X 0 [some (vR 6 g), some (vI s), some (vI (nI d)), none, none] [] mm
  refine h (fun i => Nat.beq i 4) 3000 0 _ _ _ ?_
  show X 4 [some (vR 6 g), some (vI s), some (vI (nI d)), some (vI 0), some (vI 0)] [] mm
  exact loop 0 (by omega)
theorem con_X6_saying (l : Launch) : CON l y_X6_saying prog_8_method_17_code 5 (some .int) rm_X6_saying Pre_X6_saying Fn_X6_saying := CON_of (by decide) rfl rfl (sa_X6_saying l) vc_X6_saying
--tpl ⟨_, _, _, _, {2N}, by assumption, by omega, _, rfl⟩ || hdA (abV {m} {g0}) {1} {2n}
def Pre_X6_hears : PreT := fun m as => ∃ g ns nm nt d, VC2 m g ns nm nt ∧ d < 4 ∧ ∃ s : Int32, as = [vR 6 g, vI s, vI (nI d)]
def Fn_X6_hears : FnT := fun m as => match as with
  | [Sum.inr (Sum.inr q), Sum.inl s, Sum.inl d] => (some (vI (hdA (abV m q.2) s d.toNatClampNeg)), m)
  | _ => (none, m)
abbrev y_X6_hears : MethodName := ⟨"GivenUp$Valley", "hears", "(II)I"⟩
def P_X6_hears : List StpT := [s_aload 0, s_aload 0, s_iload 1, s_callV 6 1 Pre_X6_goods Fn_X6_goods, s_aload 0, s_getR 6 11 1, s_getI 1 5, s_aload 0, s_getR 6 11 1, s_getI 1 6, s_ior, s_iand, s_iload 2, s_callV 6 2 Pre_X6_saying Fn_X6_saying, s_iret]
def pc_X6_hears : Nat → Nat := fun i => [0, 1, 2, 3, 6, 7, 10, 13, 14, 17, 20, 21, 22, 23, 26].getD i 0
def dl_X6_hears : List (Nat × Instr × Nat) := [(0, .aload_n 0, 1), (1, .aload_n 0, 1), (2, .iload_n 1, 1), (3, .invokevirtual 126, 3), (6, .aload_n 0, 1), (7, .getfield 49, 3), (10, .getfield 129, 3), (13, .aload_n 0, 1), (14, .getfield 49, 3), (17, .getfield 135, 3), (20, .ior, 1), (21, .iand, 1), (22, .iload_n 2, 1), (23, .invokevirtual 138, 3), (26, .ireturn, 1)]
theorem dc_X6_hears : DEC prog_8_method_18_code pc_X6_hears dl_X6_hears := DEC_of (by decide +kernel)
abbrev rm_X6_hears : Room := { frames := 1, cells := 0, slots := 0, locals := 24 }
set_option maxRecDepth 20000 in
theorem sa_X6_hears (l : Launch) : SNDALL l prog_8_method_18_code "GivenUp$Valley" 3 (some .int) rm_X6_hears P_X6_hears pc_X6_hears := fun p e s m args below meth c cells slots Q D dA ad A RR hC hR => by
  have hM := RTX_room (R := rm_X6_hears) hR
  exact ⟨st_aload_n hC (n := 0) (k := 0) (dc_X6_hears 0 (0, .aload_n 0, 1) rfl rfl) rfl rfl,
    st_aload_n hC (n := 1) (k := 0) (dc_X6_hears 1 (1, .aload_n 0, 1) rfl rfl) rfl rfl,
    st_iload_n hC (n := 2) (k := 1) (dc_X6_hears 2 (2, .iload_n 1, 1) rfl rfl) rfl rfl,
    st_callV hC (n := 3) (k := 6) (na := 1) (con_X6_goods l) (dc_X6_hears 3 (3, .invokevirtual 126, 3) rfl rfl) rfl wd_1035 wd_155 (by decide) ⟨rfl, rfl, by decide, by decide⟩ hM wd_1032 wd_1033 wd_1034 clf_6,
    st_aload_n hC (n := 4) (k := 0) (dc_X6_hears 4 (6, .aload_n 0, 1) rfl rfl) rfl rfl,
    st_getR hC (n := 5) (k := 6) (j := 11) (dc_X6_hears 5 (7, .getfield 49, 3) rfl rfl) rfl clf_6 (by decide) rfl (by decide) wd_610,
    st_getI hC (n := 6) (k := 1) (j := 5) (dc_X6_hears 6 (10, .getfield 129, 3) rfl rfl) rfl clf_1 (by decide) rfl wd_483,
    st_aload_n hC (n := 7) (k := 0) (dc_X6_hears 7 (13, .aload_n 0, 1) rfl rfl) rfl rfl,
    st_getR hC (n := 8) (k := 6) (j := 11) (dc_X6_hears 8 (14, .getfield 49, 3) rfl rfl) rfl clf_6 (by decide) rfl (by decide) wd_610,
    st_getI hC (n := 9) (k := 1) (j := 6) (dc_X6_hears 9 (17, .getfield 135, 3) rfl rfl) rfl clf_1 (by decide) rfl wd_488,
    st_ior hC (n := 10) (dc_X6_hears 10 (20, .ior, 1) rfl rfl) rfl,
    st_iand hC (n := 11) (dc_X6_hears 11 (21, .iand, 1) rfl rfl) rfl,
    st_iload_n hC (n := 12) (k := 2) (dc_X6_hears 12 (22, .iload_n 2, 1) rfl rfl) rfl rfl,
    st_callV hC (n := 13) (k := 6) (na := 2) (con_X6_saying l) (dc_X6_hears 13 (23, .invokevirtual 138, 3) rfl rfl) rfl wd_1147 wd_155 (by decide) ⟨rfl, rfl, by decide, by decide⟩ hM wd_1144 wd_1145 wd_1146 clf_6,
    st_iret hC (n := 14) hR (dc_X6_hears 14 (26, .ireturn, 1) rfl rfl), trivial⟩
set_option maxRecDepth 8000 in
theorem vc_X6_hears : VC P_X6_hears 3 Pre_X6_hears Fn_X6_hears := by
  rintro mm as hom hoa ⟨g, ns, nm, n, d, hV, hd, s, rfl⟩
  refine ⟨Nat.le_of_ble_eq_true rfl, fun X h => ?_⟩
  show X 0 [some (vR 6 g), some (vI s), some (vI (nI d))] [] mm
  refine h (fun _ => false) 3000 0 _ _ _ ?_
  refine And.intro (show Pre_X6_goods mm [vR 6 g, vI s] from ⟨g, ns, nm, n, hV, s, rfl⟩) ?_
  refine And.intro (show Pre_X6_saying mm [vR 6 g, vI ((thA (abV mm g) s) &&& ((mm.1 1 g 5) ||| (mm.1 1 g 6))), vI (nI d)] from ⟨g, ns, nm, n, d, hV, hd, _, rfl⟩) ?_
  show ((some (vI (syA (abV mm g) ((thA (abV mm g) s) &&& ((mm.1 1 g 5) ||| (mm.1 1 g 6))) (nI d).toNatClampNeg)) : Option MV), mm) = _
  exact rfl
theorem con_X6_hears (l : Launch) : CON l y_X6_hears prog_8_method_18_code 3 (some .int) rm_X6_hears Pre_X6_hears Fn_X6_hears := CON_of (by decide) rfl rfl (sa_X6_hears l) vc_X6_hears
--tpl ⟨_, {1N}, by omega, rfl⟩ || brA (abV {m} {g0}) {1n} (abV {m} {g0} 6)
def Pre_X6_barNow : PreT := fun _ as => ∃ g d : Nat, d < 4 ∧ as = [vR 6 g, vI (nI d)]
def Fn_X6_barNow : FnT := fun m as => match as with
  | [Sum.inr (Sum.inr q), Sum.inl d] => (some (vI (brA (abV m q.2) d.toNatClampNeg (abV m q.2 6))), m)
  | _ => (none, m)
abbrev y_X6_barNow : MethodName := ⟨"GivenUp$Valley", "barNow", "(I)I"⟩
def P_X6_barNow : List StpT := [s_aload 0, s_getR 6 3 32, s_iload 1, s_iald, s_aload 0, s_getR 6 4 33, s_iload 1, s_iald, s_aload 0, s_getR 6 11 1, s_getI 1 4, s_imul, s_iadd, s_iret]
def pc_X6_barNow : Nat → Nat := fun i => [0, 1, 4, 5, 6, 7, 10, 11, 12, 13, 16, 19, 20, 21].getD i 0
def dl_X6_barNow : List (Nat × Instr × Nat) := [(0, .aload_n 0, 1), (1, .getfield 22, 3), (4, .iload_n 1, 1), (5, .iaload, 1), (6, .aload_n 0, 1), (7, .getfield 25, 3), (10, .iload_n 1, 1), (11, .iaload, 1), (12, .aload_n 0, 1), (13, .getfield 49, 3), (16, .getfield 142, 3), (19, .imul, 1), (20, .iadd, 1), (21, .ireturn, 1)]
theorem dc_X6_barNow : DEC prog_8_method_19_code pc_X6_barNow dl_X6_barNow := DEC_of (by decide +kernel)
abbrev rm_X6_barNow : Room := { frames := 0, cells := 0, slots := 0, locals := 0 }
set_option maxRecDepth 20000 in
theorem sa_X6_barNow (l : Launch) : SNDALL l prog_8_method_19_code "GivenUp$Valley" 2 (some .int) rm_X6_barNow P_X6_barNow pc_X6_barNow := fun p e s m args below meth c cells slots Q D dA ad A RR hC hR => by
  have hM := RTX_room (R := rm_X6_barNow) hR
  exact ⟨st_aload_n hC (n := 0) (k := 0) (dc_X6_barNow 0 (0, .aload_n 0, 1) rfl rfl) rfl rfl,
    st_getR hC (n := 1) (k := 6) (j := 3) (dc_X6_barNow 1 (1, .getfield 22, 3) rfl rfl) rfl clf_6 (by decide) rfl (by decide) wd_585,
    st_iload_n hC (n := 2) (k := 1) (dc_X6_barNow 2 (4, .iload_n 1, 1) rfl rfl) rfl rfl,
    st_iald hC (n := 3) (dc_X6_barNow 3 (5, .iaload, 1) rfl rfl) rfl,
    st_aload_n hC (n := 4) (k := 0) (dc_X6_barNow 4 (6, .aload_n 0, 1) rfl rfl) rfl rfl,
    st_getR hC (n := 5) (k := 6) (j := 4) (dc_X6_barNow 5 (7, .getfield 25, 3) rfl rfl) rfl clf_6 (by decide) rfl (by decide) wd_588,
    st_iload_n hC (n := 6) (k := 1) (dc_X6_barNow 6 (10, .iload_n 1, 1) rfl rfl) rfl rfl,
    st_iald hC (n := 7) (dc_X6_barNow 7 (11, .iaload, 1) rfl rfl) rfl,
    st_aload_n hC (n := 8) (k := 0) (dc_X6_barNow 8 (12, .aload_n 0, 1) rfl rfl) rfl rfl,
    st_getR hC (n := 9) (k := 6) (j := 11) (dc_X6_barNow 9 (13, .getfield 49, 3) rfl rfl) rfl clf_6 (by decide) rfl (by decide) wd_610,
    st_getI hC (n := 10) (k := 1) (j := 4) (dc_X6_barNow 10 (16, .getfield 142, 3) rfl rfl) rfl clf_1 (by decide) rfl wd_480,
    st_imul hC (n := 11) (dc_X6_barNow 11 (19, .imul, 1) rfl rfl) rfl,
    st_iadd hC (n := 12) (dc_X6_barNow 12 (20, .iadd, 1) rfl rfl) rfl,
    st_iret hC (n := 13) hR (dc_X6_barNow 13 (21, .ireturn, 1) rfl rfl), trivial⟩
set_option maxRecDepth 8000 in
theorem vc_X6_barNow : VC P_X6_barNow 2 Pre_X6_barNow Fn_X6_barNow := by
  rintro mm as hom hoa ⟨g, d, hd, rfl⟩
  refine ⟨Nat.le_of_ble_eq_true rfl, fun X h => ?_⟩
  have ed : (nI d).toNatClampNeg = d := nI_clamp (by omega)
  have hF : Fn_X6_barNow mm [vR 6 g, vI (nI d)] = (some (vI (mm.1 32 g d + mm.1 33 g d * mm.1 1 g 4)), mm) := by
    show (some (vI (brA (abV mm g) (nI d).toNatClampNeg (abV mm g 6))), mm) = _
    unfold brA
    rw [ed, ab_bar hd, ab_ris hd]
    rfl
  rw [hF] at h
  show X 0 [some (vR 6 g), some (vI (nI d))] [] mm
  refine h (fun _ => false) 3000 0 _ _ _ ?_
  refine And.intro (show inb (nI d) (alen 32) = true from (inb_o 4 rfl rfl rfl (by omega))) ?_
  refine And.intro (show inb (nI d) (alen 33) = true from (inb_o 4 rfl rfl rfl (by omega))) ?_
  show ((some (vI ((mm.1 32 g ((nI d).toNatClampNeg)) + ((mm.1 33 g ((nI d).toNatClampNeg)) * (mm.1 1 g 4)))) : Option MV), mm) = _
  (try simp only [ed])
  all_goals exact rfl
theorem con_X6_barNow (l : Launch) : CON l y_X6_barNow prog_8_method_19_code 2 (some .int) rm_X6_barNow Pre_X6_barNow Fn_X6_barNow := CON_of (by decide) rfl rfl (sa_X6_barNow l) vc_X6_barNow
theorem neg_m1 {x : Int32} {n : Nat} (h : x = -1 ∨ ∃ d, d < n ∧ x = nI d) (hn : n ≤ 1000 := by omega) : x < 0 ↔ x = -1 := by
  rcases h with h | ⟨d, hd, h⟩
  · rw [h]; exact ⟨fun _ => rfl, fun _ => by decide⟩
  · rw [h]
    exact ⟨fun z => absurd z (nI_pos (by omega)), fun z => absurd ((gu_m1 (by omega)).mp z) id⟩

--tpl ⟨_, _, _, _, {1N}, by assumption, by omega, rfl⟩ || bI (¬ abV {m} {g0} (15 + 4 * {1n}) = -1)
def Pre_X6_isWed : PreT := fun m as => ∃ g ns nm nt s, VC2 m g ns nm nt ∧ s < 4 ∧ as = [vR 6 g, vI (nI s)]
def Fn_X6_isWed : FnT := fun m as => match as with
  | [Sum.inr (Sum.inr q), Sum.inl s] => (some (vI (bI (¬ abV m q.2 (15 + 4 * s.toNatClampNeg) = -1))), m)
  | _ => (none, m)
abbrev y_X6_isWed : MethodName := ⟨"GivenUp$Valley", "isWed", "(I)Z"⟩
def P_X6_isWed : List StpT := [s_aload 0, s_getR 6 11 1, s_getR 1 2 18, s_iload 1, s_iald, s_iflt 8, s_ic (1), s_goto 9, s_ic (0), s_zret]
def pc_X6_isWed : Nat → Nat := fun i => [0, 1, 4, 7, 8, 9, 12, 13, 16, 17].getD i 0
def dl_X6_isWed : List (Nat × Instr × Nat) := [(0, .aload_n 0, 1), (1, .getfield 49, 3), (4, .getfield 145, 3), (7, .iload_n 1, 1), (8, .iaload, 1), (9, .ifCond .lt 7, 3), (12, .iconst 1, 1), (13, .goto 4, 3), (16, .iconst 0, 1), (17, .ireturn, 1)]
theorem dc_X6_isWed : DEC prog_8_method_20_code pc_X6_isWed dl_X6_isWed := DEC_of (by decide +kernel)
abbrev rm_X6_isWed : Room := { frames := 0, cells := 0, slots := 0, locals := 0 }
set_option maxRecDepth 20000 in
theorem sa_X6_isWed (l : Launch) : SNDALL l prog_8_method_20_code "GivenUp$Valley" 2 (some .boolean) rm_X6_isWed P_X6_isWed pc_X6_isWed := fun p e s m args below meth c cells slots Q D dA ad A RR hC hR => by
  have hM := RTX_room (R := rm_X6_isWed) hR
  exact ⟨st_aload_n hC (n := 0) (k := 0) (dc_X6_isWed 0 (0, .aload_n 0, 1) rfl rfl) rfl rfl,
    st_getR hC (n := 1) (k := 6) (j := 11) (dc_X6_isWed 1 (1, .getfield 49, 3) rfl rfl) rfl clf_6 (by decide) rfl (by decide) wd_610,
    st_getR hC (n := 2) (k := 1) (j := 2) (dc_X6_isWed 2 (4, .getfield 145, 3) rfl rfl) rfl clf_1 (by decide) rfl (by decide) wd_473,
    st_iload_n hC (n := 3) (k := 1) (dc_X6_isWed 3 (7, .iload_n 1, 1) rfl rfl) rfl rfl,
    st_iald hC (n := 4) (dc_X6_isWed 4 (8, .iaload, 1) rfl rfl) rfl,
    st_iflt hC (n := 5) (dc_X6_isWed 5 (9, .ifCond .lt 7, 3) rfl rfl) rfl (by decide),
    st_iconst hC (n := 6) (x := 1) (dc_X6_isWed 6 (12, .iconst 1, 1) rfl rfl) rfl (by decide),
    st_goto hC (n := 7) (dc_X6_isWed 7 (13, .goto 4, 3) rfl rfl) (by decide),
    st_iconst hC (n := 8) (x := 0) (dc_X6_isWed 8 (16, .iconst 0, 1) rfl rfl) rfl (by decide),
    st_zret hC (n := 9) hR (dc_X6_isWed 9 (17, .ireturn, 1) rfl rfl), trivial⟩
set_option maxRecDepth 8000 in
theorem vc_X6_isWed : VC P_X6_isWed 2 Pre_X6_isWed Fn_X6_isWed := by
  rintro mm as hom hoa ⟨g, ns, nm, n, s, hV, hs, rfl⟩
  refine ⟨Nat.le_of_ble_eq_true rfl, fun X h => ?_⟩
  have es : (nI s).toNatClampNeg = s := nI_clamp (by omega)
  have hF : Fn_X6_isWed mm [vR 6 g, vI (nI s)] = (some (vI (bI (¬ mm.1 18 g s = -1))), mm) := by
    show (some (vI (bI (¬ abV mm g (15 + 4 * (nI s).toNatClampNeg) = -1))), mm) = _
    simp only [es, ab_mai hs]
  rw [hF] at h
  have key := hV.2.1 s hs
  rw [ab_mai hs] at key
  have k2 : mm.1 18 g s < 0 ↔ mm.1 18 g s = -1 := neg_m1 key
  show X 0 [some (vR 6 g), some (vI (nI s))] [] mm
  refine h (fun _ => false) 3000 0 _ _ _ ?_
  refine And.intro (show inb (nI s) (alen 18) = true from (inb_o 4 rfl rfl rfl (by omega))) ?_
  refine br_c (fun b5 => ?_) (fun b5 => ?_)
  · -- 5: mm.1 18 g ((nI s).toNatClampNeg) < 0 taken
    replace b5 : mm.1 18 g ((nI s).toNatClampNeg) < 0 := b5
    (try simp only [es] at b5)
    refine And.intro (Or.inl rfl) ?_
    show ((some (vI 0) : Option MV), mm) = _
    (try simp only [es])
    exact ret_f (fun z => z (k2.mp b5))
  · -- 5: mm.1 18 g ((nI s).toNatClampNeg) < 0 on
    replace b5 : ¬ (mm.1 18 g ((nI s).toNatClampNeg) < 0) := b5
    (try simp only [es] at b5)
    refine And.intro (Or.inr rfl) ?_
    show ((some (vI 1) : Option MV), mm) = _
    (try simp only [es])
    exact ret_t (fun z => b5 (k2.mpr z))
theorem con_X6_isWed (l : Launch) : CON l y_X6_isWed prog_8_method_20_code 2 (some .boolean) rm_X6_isWed Pre_X6_isWed Fn_X6_isWed := CON_of (by decide) rfl rfl (sa_X6_isWed l) vc_X6_isWed
--tpl ⟨_, _, _, _, {1N}, by assumption, by omega, rfl⟩ || bI (¬ abV {m} {g0} (31 + 4 * {1n}) = -1)
def Pre_X6_isTaken : PreT := fun m as => ∃ g ns nm nt s, VC2 m g ns nm nt ∧ s < 4 ∧ as = [vR 6 g, vI (nI s)]
def Fn_X6_isTaken : FnT := fun m as => match as with
  | [Sum.inr (Sum.inr q), Sum.inl s] => (some (vI (bI (¬ abV m q.2 (31 + 4 * s.toNatClampNeg) = -1))), m)
  | _ => (none, m)
abbrev y_X6_isTaken : MethodName := ⟨"GivenUp$Valley", "isTaken", "(I)Z"⟩
def P_X6_isTaken : List StpT := [s_aload 0, s_getR 6 11 1, s_getR 1 3 19, s_iload 1, s_iald, s_iflt 8, s_ic (1), s_goto 9, s_ic (0), s_zret]
def pc_X6_isTaken : Nat → Nat := fun i => [0, 1, 4, 7, 8, 9, 12, 13, 16, 17].getD i 0
def dl_X6_isTaken : List (Nat × Instr × Nat) := [(0, .aload_n 0, 1), (1, .getfield 49, 3), (4, .getfield 148, 3), (7, .iload_n 1, 1), (8, .iaload, 1), (9, .ifCond .lt 7, 3), (12, .iconst 1, 1), (13, .goto 4, 3), (16, .iconst 0, 1), (17, .ireturn, 1)]
theorem dc_X6_isTaken : DEC prog_8_method_21_code pc_X6_isTaken dl_X6_isTaken := DEC_of (by decide +kernel)
abbrev rm_X6_isTaken : Room := { frames := 0, cells := 0, slots := 0, locals := 0 }
set_option maxRecDepth 20000 in
theorem sa_X6_isTaken (l : Launch) : SNDALL l prog_8_method_21_code "GivenUp$Valley" 2 (some .boolean) rm_X6_isTaken P_X6_isTaken pc_X6_isTaken := fun p e s m args below meth c cells slots Q D dA ad A RR hC hR => by
  have hM := RTX_room (R := rm_X6_isTaken) hR
  exact ⟨st_aload_n hC (n := 0) (k := 0) (dc_X6_isTaken 0 (0, .aload_n 0, 1) rfl rfl) rfl rfl,
    st_getR hC (n := 1) (k := 6) (j := 11) (dc_X6_isTaken 1 (1, .getfield 49, 3) rfl rfl) rfl clf_6 (by decide) rfl (by decide) wd_610,
    st_getR hC (n := 2) (k := 1) (j := 3) (dc_X6_isTaken 2 (4, .getfield 148, 3) rfl rfl) rfl clf_1 (by decide) rfl (by decide) wd_476,
    st_iload_n hC (n := 3) (k := 1) (dc_X6_isTaken 3 (7, .iload_n 1, 1) rfl rfl) rfl rfl,
    st_iald hC (n := 4) (dc_X6_isTaken 4 (8, .iaload, 1) rfl rfl) rfl,
    st_iflt hC (n := 5) (dc_X6_isTaken 5 (9, .ifCond .lt 7, 3) rfl rfl) rfl (by decide),
    st_iconst hC (n := 6) (x := 1) (dc_X6_isTaken 6 (12, .iconst 1, 1) rfl rfl) rfl (by decide),
    st_goto hC (n := 7) (dc_X6_isTaken 7 (13, .goto 4, 3) rfl rfl) (by decide),
    st_iconst hC (n := 8) (x := 0) (dc_X6_isTaken 8 (16, .iconst 0, 1) rfl rfl) rfl (by decide),
    st_zret hC (n := 9) hR (dc_X6_isTaken 9 (17, .ireturn, 1) rfl rfl), trivial⟩
set_option maxRecDepth 8000 in
theorem vc_X6_isTaken : VC P_X6_isTaken 2 Pre_X6_isTaken Fn_X6_isTaken := by
  rintro mm as hom hoa ⟨g, ns, nm, n, s, hV, hs, rfl⟩
  refine ⟨Nat.le_of_ble_eq_true rfl, fun X h => ?_⟩
  have es : (nI s).toNatClampNeg = s := nI_clamp (by omega)
  have hF : Fn_X6_isTaken mm [vR 6 g, vI (nI s)] = (some (vI (bI (¬ mm.1 19 g s = -1))), mm) := by
    show (some (vI (bI (¬ abV mm g (31 + 4 * (nI s).toNatClampNeg) = -1))), mm) = _
    simp only [es, ab_sui hs]
  rw [hF] at h
  have key := hV.2.2.1 s hs
  rw [ab_sui hs] at key
  have k2 : mm.1 19 g s < 0 ↔ mm.1 19 g s = -1 := neg_m1 key
  show X 0 [some (vR 6 g), some (vI (nI s))] [] mm
  refine h (fun _ => false) 3000 0 _ _ _ ?_
  refine And.intro (show inb (nI s) (alen 19) = true from (inb_o 4 rfl rfl rfl (by omega))) ?_
  refine br_c (fun b5 => ?_) (fun b5 => ?_)
  · -- 5: mm.1 19 g ((nI s).toNatClampNeg) < 0 taken
    replace b5 : mm.1 19 g ((nI s).toNatClampNeg) < 0 := b5
    (try simp only [es] at b5)
    refine And.intro (Or.inl rfl) ?_
    show ((some (vI 0) : Option MV), mm) = _
    (try simp only [es])
    exact ret_f (fun z => z (k2.mp b5))
  · -- 5: mm.1 19 g ((nI s).toNatClampNeg) < 0 on
    replace b5 : ¬ (mm.1 19 g ((nI s).toNatClampNeg) < 0) := b5
    (try simp only [es] at b5)
    refine And.intro (Or.inr rfl) ?_
    show ((some (vI 1) : Option MV), mm) = _
    (try simp only [es])
    exact ret_t (fun z => b5 (k2.mpr z))
theorem con_X6_isTaken (l : Launch) : CON l y_X6_isTaken prog_8_method_21_code 2 (some .boolean) rm_X6_isTaken Pre_X6_isTaken Fn_X6_isTaken := CON_of (by decide) rfl rfl (sa_X6_isTaken l) vc_X6_isTaken
