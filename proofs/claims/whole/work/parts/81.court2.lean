/-! PART 81: the class: asked in rounds -/

/-- the dearest MAID that has not refused -/
def dmA (a : Nat → Int32) (N : Int32) (s : Nat) : Nat → Int32
  | 0 => -1
  | d + 1 => if ¬ inS N (nI d) ∧ (dmA a N s d = -1 ∨ a (128 + 4 * s + (dmA a N s d).toNatClampNeg) < a (128 + 4 * s + d)) then nI d else dmA a N s d
theorem dmA_in (a : Nat → Int32) (N : Int32) (s : Nat) : ∀ d, d ≤ 4 → dmA a N s d = -1 ∨ ∃ o, o < 4 ∧ dmA a N s d = nI o
  | 0, _ => Or.inl rfl
  | d + 1, h => by
    rw [dmA]
    split
    · exact Or.inr ⟨d, by omega, rfl⟩
    · exact dmA_in a N s d (by omega)

--tpl ⟨_, _, _, _, {2N}, by assumption, by omega, rfl⟩ || dmA (abV {m} {g1}) ({m}.1 14 0 {2n}) {2n} ({r 1 6 {g1} 14}).toNatClampNeg
def Pre_X0_dearestMaid : PreT := fun m as => ∃ v ns nm nt s : Nat, VC2 m v ns nm nt ∧ s < 4 ∧ as = [vR 0 0, vR 6 v, vI (nI s)]
def Fn_X0_dearestMaid : FnT := fun m as => match as with
  | [_, Sum.inr (Sum.inr q), Sum.inl s] => (some (vI (dmA (abV m q.2) (m.1 14 0 s.toNatClampNeg) s.toNatClampNeg (m.1 6 q.2 14).toNatClampNeg)), m)
  | _ => (none, m)
abbrev y_X0_dearestMaid : MethodName := ⟨"GivenUp$Courtship", "dearestMaid", "(LGivenUp$Valley;I)I"⟩
def P_X0_dearestMaid : List StpT := [s_ic (-1), s_istore 3, s_ic (0), s_istore 4, s_iload 4, s_aload 1, s_getI 6 14, s_icge 38, s_aload 0, s_getR 0 1 14, s_iload 2, s_iald, s_iload 4, s_callS 2 Pre_X11_holds Fn_X11_holds, s_ifne 36, s_iload 3, s_iflt 34, s_aload 1, s_getR 6 2 31, s_iload 2, s_ic (4), s_imul, s_iload 4, s_iadd, s_iald, s_aload 1, s_getR 6 2 31, s_iload 2, s_ic (4), s_imul, s_iload 3, s_iadd, s_iald, s_icle 36, s_iload 4, s_istore 3, s_iinc 4 (1), s_goto 4, s_iload 3, s_iret]
def pc_X0_dearestMaid : Nat → Nat := fun i => [0, 1, 2, 3, 5, 7, 8, 11, 14, 15, 18, 19, 20, 22, 25, 28, 29, 32, 33, 36, 37, 38, 39, 41, 42, 43, 44, 47, 48, 49, 50, 51, 52, 53, 56, 58, 59, 62, 65, 66].getD i 0
def dl_X0_dearestMaid : List (Nat × Instr × Nat) := [(0, .iconst (-1), 1), (1, .istore_n 3, 1), (2, .iconst 0, 1), (3, .istore 4, 2), (5, .iload 4, 2), (7, .aload_n 1, 1), (8, .getfield 47, 3), (11, .if_icmp .ge 54, 3), (14, .aload_n 0, 1), (15, .getfield 15, 3), (18, .iload_n 2, 1), (19, .iaload, 1), (20, .iload 4, 2), (22, .invokestatic 50, 3), (25, .ifCond .ne 34, 3), (28, .iload_n 3, 1), (29, .ifCond .lt 27, 3), (32, .aload_n 1, 1), (33, .getfield 58, 3), (36, .iload_n 2, 1), (37, .iconst 4, 1), (38, .imul, 1), (39, .iload 4, 2), (41, .iadd, 1), (42, .iaload, 1), (43, .aload_n 1, 1), (44, .getfield 58, 3), (47, .iload_n 2, 1), (48, .iconst 4, 1), (49, .imul, 1), (50, .iload_n 3, 1), (51, .iadd, 1), (52, .iaload, 1), (53, .if_icmp .le 6, 3), (56, .iload 4, 2), (58, .istore_n 3, 1), (59, .iinc 4 1, 3), (62, .goto (-57), 3), (65, .iload_n 3, 1), (66, .ireturn, 1)]
theorem dc_X0_dearestMaid : DEC prog_2_method_6_code pc_X0_dearestMaid dl_X0_dearestMaid := DEC_of (by decide +kernel)
abbrev rm_X0_dearestMaid : Room := { frames := 1, cells := 0, slots := 0, locals := 21 }
set_option maxRecDepth 20000 in
theorem sa_X0_dearestMaid (l : Launch) : SNDALL l prog_2_method_6_code "GivenUp$Courtship" 5 (some .int) rm_X0_dearestMaid P_X0_dearestMaid pc_X0_dearestMaid := fun p e s m args below meth c cells slots Q D dA ad A RR hC hR => by
  have hM := RTX_room (R := rm_X0_dearestMaid) hR
  exact ⟨st_iconst hC (n := 0) (x := (-1)) (dc_X0_dearestMaid 0 (0, .iconst (-1), 1) rfl rfl) rfl (by decide),
    st_istore_n hC (n := 1) (k := 3) (dc_X0_dearestMaid 1 (1, .istore_n 3, 1) rfl rfl) rfl rfl (by decide),
    st_iconst hC (n := 2) (x := 0) (dc_X0_dearestMaid 2 (2, .iconst 0, 1) rfl rfl) rfl (by decide),
    st_istore hC (n := 3) (dc_X0_dearestMaid 3 (3, .istore 4, 2) rfl rfl) rfl (by decide),
    st_iload hC (n := 4) (dc_X0_dearestMaid 4 (5, .iload 4, 2) rfl rfl) rfl,
    st_aload_n hC (n := 5) (k := 1) (dc_X0_dearestMaid 5 (7, .aload_n 1, 1) rfl rfl) rfl rfl,
    st_getI hC (n := 6) (k := 6) (j := 14) (dc_X0_dearestMaid 6 (8, .getfield 47, 3) rfl rfl) rfl clf_6 (by decide) rfl wd_625,
    st_icge hC (n := 7) (dc_X0_dearestMaid 7 (11, .if_icmp .ge 54, 3) rfl rfl) rfl (by decide),
    st_aload_n hC (n := 8) (k := 0) (dc_X0_dearestMaid 8 (14, .aload_n 0, 1) rfl rfl) rfl rfl,
    st_getR hC (n := 9) (k := 0) (j := 1) (dc_X0_dearestMaid 9 (15, .getfield 15, 3) rfl rfl) rfl clf_0 (by decide) rfl (by decide) wd_405,
    st_iload_n hC (n := 10) (k := 2) (dc_X0_dearestMaid 10 (18, .iload_n 2, 1) rfl rfl) rfl rfl,
    st_iald hC (n := 11) (dc_X0_dearestMaid 11 (19, .iaload, 1) rfl rfl) rfl,
    st_iload hC (n := 12) (dc_X0_dearestMaid 12 (20, .iload 4, 2) rfl rfl) rfl,
    st_callSN hC (n := 13) (na := 2) (con_X11_holds l) (dc_X0_dearestMaid 13 (22, .invokestatic 50, 3) rfl rfl) rfl wd_955 wd_143 (by decide) ⟨rfl, rfl, by decide, by decide⟩ hM ⟨"GivenUp", by decide⟩ wd_954,
    st_ifne hC (n := 14) (dc_X0_dearestMaid 14 (25, .ifCond .ne 34, 3) rfl rfl) rfl (by decide),
    st_iload_n hC (n := 15) (k := 3) (dc_X0_dearestMaid 15 (28, .iload_n 3, 1) rfl rfl) rfl rfl,
    st_iflt hC (n := 16) (dc_X0_dearestMaid 16 (29, .ifCond .lt 27, 3) rfl rfl) rfl (by decide),
    st_aload_n hC (n := 17) (k := 1) (dc_X0_dearestMaid 17 (32, .aload_n 1, 1) rfl rfl) rfl rfl,
    st_getR hC (n := 18) (k := 6) (j := 2) (dc_X0_dearestMaid 18 (33, .getfield 58, 3) rfl rfl) rfl clf_6 (by decide) rfl (by decide) wd_582,
    st_iload_n hC (n := 19) (k := 2) (dc_X0_dearestMaid 19 (36, .iload_n 2, 1) rfl rfl) rfl rfl,
    st_iconst hC (n := 20) (x := 4) (dc_X0_dearestMaid 20 (37, .iconst 4, 1) rfl rfl) rfl (by decide),
    st_imul hC (n := 21) (dc_X0_dearestMaid 21 (38, .imul, 1) rfl rfl) rfl,
    st_iload hC (n := 22) (dc_X0_dearestMaid 22 (39, .iload 4, 2) rfl rfl) rfl,
    st_iadd hC (n := 23) (dc_X0_dearestMaid 23 (41, .iadd, 1) rfl rfl) rfl,
    st_iald hC (n := 24) (dc_X0_dearestMaid 24 (42, .iaload, 1) rfl rfl) rfl,
    st_aload_n hC (n := 25) (k := 1) (dc_X0_dearestMaid 25 (43, .aload_n 1, 1) rfl rfl) rfl rfl,
    st_getR hC (n := 26) (k := 6) (j := 2) (dc_X0_dearestMaid 26 (44, .getfield 58, 3) rfl rfl) rfl clf_6 (by decide) rfl (by decide) wd_582,
    st_iload_n hC (n := 27) (k := 2) (dc_X0_dearestMaid 27 (47, .iload_n 2, 1) rfl rfl) rfl rfl,
    st_iconst hC (n := 28) (x := 4) (dc_X0_dearestMaid 28 (48, .iconst 4, 1) rfl rfl) rfl (by decide),
    st_imul hC (n := 29) (dc_X0_dearestMaid 29 (49, .imul, 1) rfl rfl) rfl,
    st_iload_n hC (n := 30) (k := 3) (dc_X0_dearestMaid 30 (50, .iload_n 3, 1) rfl rfl) rfl rfl,
    st_iadd hC (n := 31) (dc_X0_dearestMaid 31 (51, .iadd, 1) rfl rfl) rfl,
    st_iald hC (n := 32) (dc_X0_dearestMaid 32 (52, .iaload, 1) rfl rfl) rfl,
    st_icle hC (n := 33) (dc_X0_dearestMaid 33 (53, .if_icmp .le 6, 3) rfl rfl) rfl (by decide),
    st_iload hC (n := 34) (dc_X0_dearestMaid 34 (56, .iload 4, 2) rfl rfl) rfl,
    st_istore_n hC (n := 35) (k := 3) (dc_X0_dearestMaid 35 (58, .istore_n 3, 1) rfl rfl) rfl rfl (by decide),
    st_iinc hC (n := 36) (x := 1) (dc_X0_dearestMaid 36 (59, .iinc 4 1, 3) rfl rfl) rfl (by decide) (by decide),
    st_goto hC (n := 37) (dc_X0_dearestMaid 37 (62, .goto (-57), 3) rfl rfl) (by decide),
    st_iload_n hC (n := 38) (k := 3) (dc_X0_dearestMaid 38 (65, .iload_n 3, 1) rfl rfl) rfl rfl,
    st_iret hC (n := 39) hR (dc_X0_dearestMaid 39 (66, .ireturn, 1) rfl rfl), trivial⟩
set_option maxRecDepth 8000 in
theorem vc_X0_dearestMaid : VC P_X0_dearestMaid 5 Pre_X0_dearestMaid Fn_X0_dearestMaid := by
  rintro mm as hom hoa ⟨v, ns, nm, nt, s, hV, hs, rfl⟩
  refine ⟨Nat.le_of_ble_eq_true rfl, fun X h => ?_⟩
  have es : (nI s).toNatClampNeg = s := nI_clamp (by omega)
  have hN : mm.1 6 v 14 = nI nm := hV.1.2.1.1
  have hm4 : nm ≤ 4 := hV.1.2.1.2
  obtain ⟨N, eN⟩ : ∃ N, mm.1 14 0 s = N := ⟨_, rfl⟩
  have hF : Fn_X0_dearestMaid mm [vR 0 0, vR 6 v, vI (nI s)] = (some (vI (dmA (abV mm v) N s nm)), mm) := by
    show (some (vI (dmA (abV mm v) (mm.1 14 0 (nI s).toNatClampNeg) (nI s).toNatClampNeg (mm.1 6 v 14).toNatClampNeg)), mm) = _
    rw [hN, nI_clamp (show nm < 2 ^ 31 by omega)]
    simp only [es, eN]
  rw [hF] at h
  have loop : ∀ d, d ≤ nm → X 4 [some (vR 0 0), some (vR 6 v), some (vI (nI s)), some (vI (dmA (abV mm v) N s d)), some (vI (nI d))] [] mm := by
    refine up_ind nm ?_ (fun d hd ih => ?_)
    ·
      show X 4 [some (vR 0 0), some (vR 6 v), some (vI (nI s)), some (vI (dmA (abV mm v) N s nm)), some (vI (nI nm))] [] mm
      refine h (fun _ => false) 3000 4 _ _ _ ?_
      refine br_t (show mm.1 6 v 14 ≤ nI nm from by rw [hN]; exact Int32.le_refl _) ?_
      show ((some (vI (dmA (abV mm v) N s nm)) : Option MV), mm) = _
      exact rfl
    · rw [dmA] at ih
      obtain ⟨B, hB⟩ : ∃ B, B = dmA (abV mm v) N s d := ⟨_, rfl⟩
      have hin := dmA_in (abV mm v) N s d (by omega)
      rw [← hB] at ih hin ⊢
      have no : ¬ (¬ inS N (nI d) ∧ (B = -1 ∨ abV mm v (128 + 4 * s + B.toNatClampNeg) < abV mm v (128 + 4 * s + d))) → X 36 [some (vR 0 0), some (vR 6 v), some (vI (nI s)), some (vI (B)), some (vI (nI d))] [] mm := by
        intro hc
        rw [if_neg hc] at ih
        show X 36 [some (vR 0 0), some (vR 6 v), some (vI (nI s)), some (vI B), some (vI (nI d))] [] mm
        refine h (fun i => Nat.beq i 4) 3000 36 _ _ _ ?_
        show X 4 [some (vR 0 0), some (vR 6 v), some (vI (nI s)), some (vI B), some (vI ((nI d) + 1))] [] mm
        rw [nI_1]
        exact ih
      have yes : ¬ inS N (nI d) ∧ (B = -1 ∨ abV mm v (128 + 4 * s + B.toNatClampNeg) < abV mm v (128 + 4 * s + d)) → X 34 [some (vR 0 0), some (vR 6 v), some (vI (nI s)), some (vI (B)), some (vI (nI d))] [] mm := by
        intro hc
        rw [if_pos hc] at ih
        show X 34 [some (vR 0 0), some (vR 6 v), some (vI (nI s)), some (vI B), some (vI (nI d))] [] mm
        refine h (fun i => Nat.beq i 4) 3000 34 _ _ _ ?_
        show X 4 [some (vR 0 0), some (vR 6 v), some (vI (nI s)), some (vI (nI d)), some (vI ((nI d) + 1))] [] mm
        rw [nI_1]
        exact ih
      have l1 := ab_lik (m := mm) (g := v) hs (show d < 4 by omega)
      have x1 : nI s * 4 + nI d = nI (4 * s + d) := by rw [show (4 : Int32) = nI 4 from rfl, pk_mul, nI_add, Nat.mul_comm s 4]
      have c1 : (nI (4 * s + d)).toNatClampNeg = 4 * s + d := nI_clamp (by omega)
      rcases hin with e | ⟨o, ho, e⟩
      ·
        show X 4 [some (vR 0 0), some (vR 6 v), some (vI (nI s)), some (vI B), some (vI (nI d))] [] mm
        refine h (fun i => Nat.beq i 34 || Nat.beq i 36) 3000 4 _ _ _ ?_
        refine br_f (show ¬ (mm.1 6 v 14 ≤ nI d) from by rw [hN]; exact nI_ge hd (by omega)) ?_
        refine And.intro (show inb (nI s) (alen 14) = true from (inb_o 4 rfl rfl rfl (by omega))) ?_
        refine And.intro (show Pre_X11_holds mm [vI (mm.1 14 0 ((nI s).toNatClampNeg)), vI (nI d)] from ⟨_, _, rfl⟩) ?_
        refine brn_c (fun b14 => ?_) (fun b14 => ?_)
        · -- 14: bI (inS (mm.1 14 0 ((nI s).toNatClampNeg)) (nI d)) = 0 taken
          replace b14 : inS (mm.1 14 0 ((nI s).toNatClampNeg)) (nI d) := bI_n0.mp b14
          (try simp only [es, eN] at b14)
          show X 36 [some (vR 0 0), some (vR 6 v), some (vI (nI s)), some (vI B), some (vI (nI d))] [] mm
          (try simp only [es, eN])
          exact no (fun z => z.1 b14)
        · -- 14: bI (inS (mm.1 14 0 ((nI s).toNatClampNeg)) (nI d)) = 0 on
          replace b14 : ¬ (inS (mm.1 14 0 ((nI s).toNatClampNeg)) (nI d)) := bI_0.mp b14
          (try simp only [es, eN] at b14)
          refine br_t (show B < 0 from by rw [e]; decide) ?_
          show X 34 [some (vR 0 0), some (vR 6 v), some (vI (nI s)), some (vI B), some (vI (nI d))] [] mm
          (try simp only [es, eN])
          exact yes ⟨b14, Or.inl e⟩
      · have l2 := ab_lik (m := mm) (g := v) hs ho
        have x2 : nI s * 4 + B = nI (4 * s + o) := by rw [e, show (4 : Int32) = nI 4 from rfl, pk_mul, nI_add, Nat.mul_comm s 4]
        have c2 : (nI (4 * s + o)).toNatClampNeg = 4 * s + o := nI_clamp (by omega)
        have eo : B.toNatClampNeg = o := by rw [e]; exact nI_clamp (by omega)
        have n1 : ¬ B = -1 := by rw [e]; exact nI_n1 (by omega)
        show X 4 [some (vR 0 0), some (vR 6 v), some (vI (nI s)), some (vI B), some (vI (nI d))] [] mm
        refine h (fun i => Nat.beq i 34 || Nat.beq i 36) 3000 4 _ _ _ ?_
        refine br_f (show ¬ (mm.1 6 v 14 ≤ nI d) from by rw [hN]; exact nI_ge hd (by omega)) ?_
        refine And.intro (show inb (nI s) (alen 14) = true from (inb_o 4 rfl rfl rfl (by omega))) ?_
        refine And.intro (show Pre_X11_holds mm [vI (mm.1 14 0 ((nI s).toNatClampNeg)), vI (nI d)] from ⟨_, _, rfl⟩) ?_
        refine brn_c (fun b14 => ?_) (fun b14 => ?_)
        · -- 14: bI (inS (mm.1 14 0 ((nI s).toNatClampNeg)) (nI d)) = 0 taken
          replace b14 : inS (mm.1 14 0 ((nI s).toNatClampNeg)) (nI d) := bI_n0.mp b14
          (try simp only [es, eN, x1, x2, c1, c2] at b14)
          show X 36 [some (vR 0 0), some (vR 6 v), some (vI (nI s)), some (vI B), some (vI (nI d))] [] mm
          (try simp only [es, eN, x1, x2, c1, c2])
          exact no (fun z => z.1 b14)
        · -- 14: bI (inS (mm.1 14 0 ((nI s).toNatClampNeg)) (nI d)) = 0 on
          replace b14 : ¬ (inS (mm.1 14 0 ((nI s).toNatClampNeg)) (nI d)) := bI_0.mp b14
          (try simp only [es, eN, x1, x2, c1, c2] at b14)
          refine br_f (show ¬ (B < 0) from by rw [e]; exact nI_pos (by omega)) ?_
          refine And.intro (show inb (((nI s) * 4) + (nI d)) (alen 31) = true from (inb_o 16 rfl rfl x1 (by omega))) ?_
          refine And.intro (show inb (((nI s) * 4) + B) (alen 31) = true from (inb_o 16 rfl rfl x2 (by omega))) ?_
          refine br_c (fun b33 => ?_) (fun b33 => ?_)
          · -- 33: mm.1 31 v ((((nI s) * 4) + (nI d)).toNatClampNeg) ≤ mm.1 31 v ((((nI s) * 4) + B).toNatClampNeg) taken
            replace b33 : mm.1 31 v ((((nI s) * 4) + (nI d)).toNatClampNeg) ≤ mm.1 31 v ((((nI s) * 4) + B).toNatClampNeg) := b33
            (try simp only [es, eN, x1, x2, c1, c2] at b33)
            show X 36 [some (vR 0 0), some (vR 6 v), some (vI (nI s)), some (vI B), some (vI (nI d))] [] mm
            (try simp only [es, eN, x1, x2, c1, c2])
            exact no (fun z => z.2.elim n1 (fun y => Int32.not_lt.mpr b33 (by rw [eo, l1, l2] at y; exact y)))
          · -- 33: mm.1 31 v ((((nI s) * 4) + (nI d)).toNatClampNeg) ≤ mm.1 31 v ((((nI s) * 4) + B).toNatClampNeg) on
            replace b33 : ¬ (mm.1 31 v ((((nI s) * 4) + (nI d)).toNatClampNeg) ≤ mm.1 31 v ((((nI s) * 4) + B).toNatClampNeg)) := b33
            (try simp only [es, eN, x1, x2, c1, c2] at b33)
            show X 34 [some (vR 0 0), some (vR 6 v), some (vI (nI s)), some (vI B), some (vI (nI d))] [] mm
            (try simp only [es, eN, x1, x2, c1, c2])
            exact yes ⟨b14, Or.inr (by rw [eo, l1, l2]; exact Int32.not_le.mp b33)⟩
  show X 0 [some (vR 0 0), some (vR 6 v), some (vI (nI s)), none, none] [] mm
  refine h (fun i => Nat.beq i 4) 3000 0 _ _ _ ?_
  show X 4 [some (vR 0 0), some (vR 6 v), some (vI (nI s)), some (vI (-1)), some (vI 0)] [] mm
  exact loop 0 (by omega)
theorem con_X0_dearestMaid (l : Launch) : CON l y_X0_dearestMaid prog_2_method_6_code 5 (some .int) rm_X0_dearestMaid Pre_X0_dearestMaid Fn_X0_dearestMaid := CON_of (by decide) rfl rfl (sa_X0_dearestMaid l) vc_X0_dearestMaid
/-- the first of those who ask d -/
def roB (a Q : Nat → Int32) (d : Nat) : Nat → Int32
  | 0 => -1
  | t + 1 => if Q t = nI d ∧ (roB a Q d t = -1 ∨ ahP a d t (roB a Q d t).toNatClampNeg) then nI t else roB a Q d t
theorem roB_in (a Q : Nat → Int32) (d : Nat) : ∀ t, t ≤ 4 → roB a Q d t = -1 ∨ ∃ o, o < 4 ∧ roB a Q d t = nI o
  | 0, _ => Or.inl rfl
  | t + 1, h => by
    rw [roB]
    split
    · exact Or.inr ⟨t, by omega, rfl⟩
    · exact roB_in a Q d t (by omega)
def ro1 (m : MM) (s d : Nat) : MM := mI (mRow m 14 0 (upd (m.1 14 0) s (m.1 14 0 s ||| 1 <<< (nI d &&& 31)))) 0 0 6 (m.1 0 0 6 + 1)
def roL (Q : Nat → Int32) (b : Int32) (d : Nat) : Nat → Nat → PR → PR
  | 0, _, p => p
  | k + 1, s, p => roL Q b d k (s + 1) (if Q s = nI d ∧ ¬ nI s = b then (true, ro1 p.2 s d) else p)
def roF (a : Nat → Int32) (ns : Nat) (m : MM) (d : Nat) : PR := roL (m.1 15 0) (roB a (m.1 15 0) d ns) d ns 0 (false, m)
/-- the numbers of courtship and who refused moved -/
def SM1 (m m' : MM) : Prop := ∀ k g, k ≠ 0 → k ≠ 14 → m'.1 k g = m.1 k g
theorem SM1_r (m : MM) : SM1 m m := fun _ _ _ _ => rfl
theorem SM1_t {a b c : MM} (h : SM1 a b) (h' : SM1 b c) : SM1 a c := fun k g z y => (h' k g z y).trans (h k g z y)
theorem SM1_1 (m : MM) (s d : Nat) : SM1 m (ro1 m s d) := fun k g z y => Eq.trans (show (ro1 m s d).1 k g = (mRow m 14 0 (upd (m.1 14 0) s (m.1 14 0 s ||| 1 <<< (nI d &&& 31)))).1 k g from if_neg (fun x => z x.1)) (if_neg (fun x => y x.1))
theorem SM1_L (Q : Nat → Int32) (b : Int32) (d : Nat) : ∀ k s p, SM1 p.2 (roL Q b d k s p).2
  | 0, _, p => SM1_r p.2
  | k + 1, s, p => by
    rw [roL]
    refine SM1_t ?_ (SM1_L Q b d k (s + 1) _)
    split
    · exact SM1_1 _ _ _
    · exact SM1_r _

--tpl ⟨_, _, _, _, {2N}, by assumption, by omega, rfl⟩ || bI ((roF (abV {m} {g1}) ({r 1 6 {g1} 13}).toNatClampNeg {m} {2n}).1 = true) || (roF (abV {m} {g1}) ({r 1 6 {g1} 13}).toNatClampNeg {m} {2n}).2
def Pre_X0_refuseOthers : PreT := fun m as => ∃ v ns nm nt d : Nat, VC2 m v ns nm nt ∧ d < 4 ∧ as = [vR 0 0, vR 6 v, vI (nI d)]
def Fn_X0_refuseOthers : FnT := fun m as => match as with
  | [_, Sum.inr (Sum.inr q), Sum.inl d] => (some (vI (bI ((roF (abV m q.2) (m.1 6 q.2 13).toNatClampNeg m d.toNatClampNeg).1 = true))), (roF (abV m q.2) (m.1 6 q.2 13).toNatClampNeg m d.toNatClampNeg).2)
  | _ => (none, m)
abbrev y_X0_refuseOthers : MethodName := ⟨"GivenUp$Courtship", "refuseOthers", "(LGivenUp$Valley;I)Z"⟩
def P_X0_refuseOthers : List StpT := [s_ic (-1), s_istore 3, s_ic (0), s_istore 4, s_iload 4, s_aload 1, s_getI 6 13, s_icge 26, s_aload 0, s_getR 0 2 15, s_iload 4, s_iald, s_iload 2, s_icne 24, s_iload 3, s_iflt 22, s_aload 1, s_iload 4, s_iload 3, s_iload 2, s_callV 6 3 Pre_X6_isAhead Fn_X6_isAhead, s_ifeq 24, s_iload 4, s_istore 3, s_iinc 4 (1), s_goto 4, s_ic (0), s_istore 4, s_ic (0), s_istore 5, s_iload 5, s_aload 1, s_getI 6 13, s_icge 63, s_aload 0, s_getR 0 2 15, s_iload 5, s_iald, s_iload 2, s_icne 61, s_iload 5, s_iload 3, s_iceq 61, s_aload 0, s_getR 0 1 14, s_iload 5, s_dup2, s_iald, s_ic (1), s_iload 2, s_ishl, s_ior, s_iast, s_aload 0, s_dup, s_getI 0 6, s_ic (1), s_iadd, s_putI 0 6, s_ic (1), s_istore 4, s_iinc 5 (1), s_goto 30, s_iload 4, s_zret]
def pc_X0_refuseOthers : Nat → Nat := fun i => [0, 1, 2, 3, 5, 7, 8, 11, 14, 15, 18, 20, 21, 22, 25, 26, 29, 30, 32, 33, 34, 37, 40, 42, 43, 46, 49, 50, 52, 53, 55, 57, 58, 61, 64, 65, 68, 70, 71, 72, 75, 77, 78, 81, 82, 85, 87, 88, 89, 90, 91, 92, 93, 94, 95, 96, 99, 100, 101, 104, 105, 107, 110, 113, 115].getD i 0
def dl_X0_refuseOthers : List (Nat × Instr × Nat) := [(0, .iconst (-1), 1), (1, .istore_n 3, 1), (2, .iconst 0, 1), (3, .istore 4, 2), (5, .iload 4, 2), (7, .aload_n 1, 1), (8, .getfield 34, 3), (11, .if_icmp .ge 38, 3), (14, .aload_n 0, 1), (15, .getfield 18, 3), (18, .iload 4, 2), (20, .iaload, 1), (21, .iload_n 2, 1), (22, .if_icmp .ne 21, 3), (25, .iload_n 3, 1), (26, .ifCond .lt 14, 3), (29, .aload_n 1, 1), (30, .iload 4, 2), (32, .iload_n 3, 1), (33, .iload_n 2, 1), (34, .invokevirtual 79, 3), (37, .ifCond .eq 6, 3), (40, .iload 4, 2), (42, .istore_n 3, 1), (43, .iinc 4 1, 3), (46, .goto (-41), 3), (49, .iconst 0, 1), (50, .istore 4, 2), (52, .iconst 0, 1), (53, .istore 5, 2), (55, .iload 5, 2), (57, .aload_n 1, 1), (58, .getfield 34, 3), (61, .if_icmp .ge 52, 3), (64, .aload_n 0, 1), (65, .getfield 18, 3), (68, .iload 5, 2), (70, .iaload, 1), (71, .iload_n 2, 1), (72, .if_icmp .ne 35, 3), (75, .iload 5, 2), (77, .iload_n 3, 1), (78, .if_icmp .eq 29, 3), (81, .aload_n 0, 1), (82, .getfield 15, 3), (85, .iload 5, 2), (87, .dup2, 1), (88, .iaload, 1), (89, .iconst 1, 1), (90, .iload_n 2, 1), (91, .ishl, 1), (92, .ior, 1), (93, .iastore, 1), (94, .aload_n 0, 1), (95, .dup, 1), (96, .getfield 31, 3), (99, .iconst 1, 1), (100, .iadd, 1), (101, .putfield 31, 3), (104, .iconst 1, 1), (105, .istore 4, 2), (107, .iinc 5 1, 3), (110, .goto (-55), 3), (113, .iload 4, 2), (115, .ireturn, 1)]
theorem dc_X0_refuseOthers : DEC prog_2_method_7_code pc_X0_refuseOthers dl_X0_refuseOthers := DEC_of (by decide +kernel)
abbrev rm_X0_refuseOthers : Room := { frames := 3, cells := 0, slots := 0, locals := 71 }
set_option maxRecDepth 20000 in
theorem sa_X0_refuseOthers (l : Launch) : SNDALL l prog_2_method_7_code "GivenUp$Courtship" 6 (some .boolean) rm_X0_refuseOthers P_X0_refuseOthers pc_X0_refuseOthers := fun p e s m args below meth c cells slots Q D dA ad A RR hC hR => by
  have hM := RTX_room (R := rm_X0_refuseOthers) hR
  exact ⟨st_iconst hC (n := 0) (x := (-1)) (dc_X0_refuseOthers 0 (0, .iconst (-1), 1) rfl rfl) rfl (by decide),
    st_istore_n hC (n := 1) (k := 3) (dc_X0_refuseOthers 1 (1, .istore_n 3, 1) rfl rfl) rfl rfl (by decide),
    st_iconst hC (n := 2) (x := 0) (dc_X0_refuseOthers 2 (2, .iconst 0, 1) rfl rfl) rfl (by decide),
    st_istore hC (n := 3) (dc_X0_refuseOthers 3 (3, .istore 4, 2) rfl rfl) rfl (by decide),
    st_iload hC (n := 4) (dc_X0_refuseOthers 4 (5, .iload 4, 2) rfl rfl) rfl,
    st_aload_n hC (n := 5) (k := 1) (dc_X0_refuseOthers 5 (7, .aload_n 1, 1) rfl rfl) rfl rfl,
    st_getI hC (n := 6) (k := 6) (j := 13) (dc_X0_refuseOthers 6 (8, .getfield 34, 3) rfl rfl) rfl clf_6 (by decide) rfl wd_619,
    st_icge hC (n := 7) (dc_X0_refuseOthers 7 (11, .if_icmp .ge 38, 3) rfl rfl) rfl (by decide),
    st_aload_n hC (n := 8) (k := 0) (dc_X0_refuseOthers 8 (14, .aload_n 0, 1) rfl rfl) rfl rfl,
    st_getR hC (n := 9) (k := 0) (j := 2) (dc_X0_refuseOthers 9 (15, .getfield 18, 3) rfl rfl) rfl clf_0 (by decide) rfl (by decide) wd_406,
    st_iload hC (n := 10) (dc_X0_refuseOthers 10 (18, .iload 4, 2) rfl rfl) rfl,
    st_iald hC (n := 11) (dc_X0_refuseOthers 11 (20, .iaload, 1) rfl rfl) rfl,
    st_iload_n hC (n := 12) (k := 2) (dc_X0_refuseOthers 12 (21, .iload_n 2, 1) rfl rfl) rfl rfl,
    st_icne hC (n := 13) (dc_X0_refuseOthers 13 (22, .if_icmp .ne 21, 3) rfl rfl) rfl (by decide),
    st_iload_n hC (n := 14) (k := 3) (dc_X0_refuseOthers 14 (25, .iload_n 3, 1) rfl rfl) rfl rfl,
    st_iflt hC (n := 15) (dc_X0_refuseOthers 15 (26, .ifCond .lt 14, 3) rfl rfl) rfl (by decide),
    st_aload_n hC (n := 16) (k := 1) (dc_X0_refuseOthers 16 (29, .aload_n 1, 1) rfl rfl) rfl rfl,
    st_iload hC (n := 17) (dc_X0_refuseOthers 17 (30, .iload 4, 2) rfl rfl) rfl,
    st_iload_n hC (n := 18) (k := 3) (dc_X0_refuseOthers 18 (32, .iload_n 3, 1) rfl rfl) rfl rfl,
    st_iload_n hC (n := 19) (k := 2) (dc_X0_refuseOthers 19 (33, .iload_n 2, 1) rfl rfl) rfl rfl,
    st_callV hC (n := 20) (k := 6) (na := 3) (con_X6_isAhead l) (dc_X0_refuseOthers 20 (34, .invokevirtual 79, 3) rfl rfl) rfl wd_1218 wd_155 (by decide) ⟨rfl, rfl, by decide, by decide⟩ hM wd_1413 wd_1216 wd_1217 clf_6,
    st_ifeq hC (n := 21) (dc_X0_refuseOthers 21 (37, .ifCond .eq 6, 3) rfl rfl) rfl (by decide),
    st_iload hC (n := 22) (dc_X0_refuseOthers 22 (40, .iload 4, 2) rfl rfl) rfl,
    st_istore_n hC (n := 23) (k := 3) (dc_X0_refuseOthers 23 (42, .istore_n 3, 1) rfl rfl) rfl rfl (by decide),
    st_iinc hC (n := 24) (x := 1) (dc_X0_refuseOthers 24 (43, .iinc 4 1, 3) rfl rfl) rfl (by decide) (by decide),
    st_goto hC (n := 25) (dc_X0_refuseOthers 25 (46, .goto (-41), 3) rfl rfl) (by decide),
    st_iconst hC (n := 26) (x := 0) (dc_X0_refuseOthers 26 (49, .iconst 0, 1) rfl rfl) rfl (by decide),
    st_istore hC (n := 27) (dc_X0_refuseOthers 27 (50, .istore 4, 2) rfl rfl) rfl (by decide),
    st_iconst hC (n := 28) (x := 0) (dc_X0_refuseOthers 28 (52, .iconst 0, 1) rfl rfl) rfl (by decide),
    st_istore hC (n := 29) (dc_X0_refuseOthers 29 (53, .istore 5, 2) rfl rfl) rfl (by decide),
    st_iload hC (n := 30) (dc_X0_refuseOthers 30 (55, .iload 5, 2) rfl rfl) rfl,
    st_aload_n hC (n := 31) (k := 1) (dc_X0_refuseOthers 31 (57, .aload_n 1, 1) rfl rfl) rfl rfl,
    st_getI hC (n := 32) (k := 6) (j := 13) (dc_X0_refuseOthers 32 (58, .getfield 34, 3) rfl rfl) rfl clf_6 (by decide) rfl wd_619,
    st_icge hC (n := 33) (dc_X0_refuseOthers 33 (61, .if_icmp .ge 52, 3) rfl rfl) rfl (by decide),
    st_aload_n hC (n := 34) (k := 0) (dc_X0_refuseOthers 34 (64, .aload_n 0, 1) rfl rfl) rfl rfl,
    st_getR hC (n := 35) (k := 0) (j := 2) (dc_X0_refuseOthers 35 (65, .getfield 18, 3) rfl rfl) rfl clf_0 (by decide) rfl (by decide) wd_406,
    st_iload hC (n := 36) (dc_X0_refuseOthers 36 (68, .iload 5, 2) rfl rfl) rfl,
    st_iald hC (n := 37) (dc_X0_refuseOthers 37 (70, .iaload, 1) rfl rfl) rfl,
    st_iload_n hC (n := 38) (k := 2) (dc_X0_refuseOthers 38 (71, .iload_n 2, 1) rfl rfl) rfl rfl,
    st_icne hC (n := 39) (dc_X0_refuseOthers 39 (72, .if_icmp .ne 35, 3) rfl rfl) rfl (by decide),
    st_iload hC (n := 40) (dc_X0_refuseOthers 40 (75, .iload 5, 2) rfl rfl) rfl,
    st_iload_n hC (n := 41) (k := 3) (dc_X0_refuseOthers 41 (77, .iload_n 3, 1) rfl rfl) rfl rfl,
    st_iceq hC (n := 42) (dc_X0_refuseOthers 42 (78, .if_icmp .eq 29, 3) rfl rfl) rfl (by decide),
    st_aload_n hC (n := 43) (k := 0) (dc_X0_refuseOthers 43 (81, .aload_n 0, 1) rfl rfl) rfl rfl,
    st_getR hC (n := 44) (k := 0) (j := 1) (dc_X0_refuseOthers 44 (82, .getfield 15, 3) rfl rfl) rfl clf_0 (by decide) rfl (by decide) wd_405,
    st_iload hC (n := 45) (dc_X0_refuseOthers 45 (85, .iload 5, 2) rfl rfl) rfl,
    st_dup2 hC (n := 46) (dc_X0_refuseOthers 46 (87, .dup2, 1) rfl rfl) rfl,
    st_iald hC (n := 47) (dc_X0_refuseOthers 47 (88, .iaload, 1) rfl rfl) rfl,
    st_iconst hC (n := 48) (x := 1) (dc_X0_refuseOthers 48 (89, .iconst 1, 1) rfl rfl) rfl (by decide),
    st_iload_n hC (n := 49) (k := 2) (dc_X0_refuseOthers 49 (90, .iload_n 2, 1) rfl rfl) rfl rfl,
    st_ishl hC (n := 50) (dc_X0_refuseOthers 50 (91, .ishl, 1) rfl rfl) rfl,
    st_ior hC (n := 51) (dc_X0_refuseOthers 51 (92, .ior, 1) rfl rfl) rfl,
    st_iast hC (n := 52) (dc_X0_refuseOthers 52 (93, .iastore, 1) rfl rfl) rfl,
    st_aload_n hC (n := 53) (k := 0) (dc_X0_refuseOthers 53 (94, .aload_n 0, 1) rfl rfl) rfl rfl,
    st_dup hC (n := 54) (dc_X0_refuseOthers 54 (95, .dup, 1) rfl rfl) rfl,
    st_getI hC (n := 55) (k := 0) (j := 6) (dc_X0_refuseOthers 55 (96, .getfield 31, 3) rfl rfl) rfl clf_0 (by decide) rfl wd_414,
    st_iconst hC (n := 56) (x := 1) (dc_X0_refuseOthers 56 (99, .iconst 1, 1) rfl rfl) rfl (by decide),
    st_iadd hC (n := 57) (dc_X0_refuseOthers 57 (100, .iadd, 1) rfl rfl) rfl,
    st_putI hC (n := 58) (k := 0) (j := 6) (dc_X0_refuseOthers 58 (101, .putfield 31, 3) rfl rfl) rfl clf_0 (by decide) rfl rfl rfl wd_414,
    st_iconst hC (n := 59) (x := 1) (dc_X0_refuseOthers 59 (104, .iconst 1, 1) rfl rfl) rfl (by decide),
    st_istore hC (n := 60) (dc_X0_refuseOthers 60 (105, .istore 4, 2) rfl rfl) rfl (by decide),
    st_iinc hC (n := 61) (x := 1) (dc_X0_refuseOthers 61 (107, .iinc 5 1, 3) rfl rfl) rfl (by decide) (by decide),
    st_goto hC (n := 62) (dc_X0_refuseOthers 62 (110, .goto (-55), 3) rfl rfl) (by decide),
    st_iload hC (n := 63) (dc_X0_refuseOthers 63 (113, .iload 4, 2) rfl rfl) rfl,
    st_zret hC (n := 64) hR (dc_X0_refuseOthers 64 (115, .ireturn, 1) rfl rfl), trivial⟩
set_option maxRecDepth 8000 in
theorem vc_X0_refuseOthers : VC P_X0_refuseOthers 6 Pre_X0_refuseOthers Fn_X0_refuseOthers := by
  rintro mm as hom hoa ⟨v, ns, nm, nt, d, hV, hd, rfl⟩
  refine ⟨Nat.le_of_ble_eq_true rfl, fun X h => ?_⟩
  replace h : RUN P_X0_refuseOthers (RT (roF (abV mm v) (mm.1 6 v 13).toNatClampNeg mm (nI d).toNatClampNeg)) X := h
  have hS : mm.1 6 v 13 = nI ns := hV.1.1.1
  have hn4 : ns ≤ 4 := hV.1.1.2
  have ed : (nI d).toNatClampNeg = d := nI_clamp (by omega)
  rw [hS, ed, nI_clamp (show ns < 2 ^ 31 by omega)] at h
  unfold roF at h
  obtain ⟨Q, eQ⟩ : ∃ Q, Q = mm.1 15 0 := ⟨_, rfl⟩
  rw [← eQ] at h
  obtain ⟨b, eb⟩ : ∃ b, b = roB (abV mm v) Q d ns := ⟨_, rfl⟩
  rw [← eb] at h
  obtain ⟨p, ep⟩ : ∃ p, p = roL Q b d ns 0 (false, mm) := ⟨_, rfl⟩
  rw [← ep] at h
  have loop2 : ∀ k s q, s + k = ns → SM1 mm q.2 → p = roL Q b d k s q → X 30 [some (vR 0 0), some (vR 6 v), some (vI (nI d)), some (vI (b)), some (vI (bI (q.1 = true))), some (vI (nI s))] [] (q.2) := by
    intro k
    induction k with
    | zero =>
      intro s q hs hM hp
      have hs2 : s = ns := by omega
      rw [roL] at hp
      show X 30 [some (vR 0 0), some (vR 6 v), some (vI (nI d)), some (vI b), some (vI (bI (q.1 = true))), some (vI (nI s))] [] q.2
      refine h (fun _ => false) 3000 30 _ _ _ ?_
      refine br_t (show (q.2).1 6 v 13 ≤ nI s from by rw [hM 6 v (by decide) (by decide), hS, hs2]; exact Int32.le_refl _) ?_
      refine And.intro bI_in ?_
      show ((some (vI (bI (q.1 = true))) : Option MV), q.2) = _
      rw [hp]
    | succ k ih =>
      intro s q hs hM hp
      rw [roL] at hp
      have es : (nI s).toNatClampNeg = s := nI_clamp (by omega)
      have e15 : q.2.1 15 0 = Q := by rw [hM 15 0 (by decide) (by decide), eQ]
      have no : ¬ (Q s = nI d ∧ ¬ nI s = b) → X 61 [some (vR 0 0), some (vR 6 v), some (vI (nI d)), some (vI (b)), some (vI (bI (q.1 = true))), some (vI (nI s))] [] (q.2) := by
        intro c
        rw [if_neg c] at hp
        have z := ih (s + 1) q (by omega) hM hp
        show X 61 [some (vR 0 0), some (vR 6 v), some (vI (nI d)), some (vI b), some (vI (bI (q.1 = true))), some (vI (nI s))] [] q.2
        refine h (fun i => Nat.beq i 30) 3000 61 _ _ _ ?_
        show X 30 [some (vR 0 0), some (vR 6 v), some (vI (nI d)), some (vI b), some (vI (bI (q.1 = true))), some (vI ((nI s) + 1))] [] q.2
        rw [nI_1]
        exact z
      have yes : (Q s = nI d ∧ ¬ nI s = b) → X 61 [some (vR 0 0), some (vR 6 v), some (vI (nI d)), some (vI (b)), some (vI (1)), some (vI (nI s))] [] (ro1 q.2 s d) := by
        intro c
        rw [if_pos c] at hp
        have z := ih (s + 1) (true, ro1 q.2 s d) (by omega) (SM1_t hM (SM1_1 _ _ _)) hp
        rw [show bI (((true, ro1 q.2 s d) : PR).1 = true) = 1 from rfl] at z
        revert z
        obtain ⟨N, hN⟩ : ∃ N, N = ro1 q.2 s d := ⟨_, rfl⟩
        rw [← hN]
        intro z
        show X 61 [some (vR 0 0), some (vR 6 v), some (vI (nI d)), some (vI b), some (vI 1), some (vI (nI s))] [] N
        refine h (fun i => Nat.beq i 30) 3000 61 _ _ _ ?_
        show X 30 [some (vR 0 0), some (vR 6 v), some (vI (nI d)), some (vI b), some (vI 1), some (vI ((nI s) + 1))] [] N
        rw [nI_1]
        exact z
      show X 30 [some (vR 0 0), some (vR 6 v), some (vI (nI d)), some (vI b), some (vI (bI (q.1 = true))), some (vI (nI s))] [] q.2
      refine h (fun i => Nat.beq i 61) 3000 30 _ _ _ ?_
      refine br_f (show ¬ ((q.2).1 6 v 13 ≤ nI s) from by rw [hM 6 v (by decide) (by decide), hS]; exact nI_ge (by omega) (by omega)) ?_
      refine And.intro (show inb (nI s) (alen 15) = true from (inb_o 4 rfl rfl rfl (by omega))) ?_
      refine brn_c (fun b39 => ?_) (fun b39 => ?_)
      · -- 39: (q.2).1 15 0 ((nI s).toNatClampNeg) = nI d taken
        replace b39 : ¬ ((q.2).1 15 0 ((nI s).toNatClampNeg) = nI d) := b39
        (try simp only [es, e15] at b39)
        show X 61 [some (vR 0 0), some (vR 6 v), some (vI (nI d)), some (vI b), some (vI (bI (q.1 = true))), some (vI (nI s))] [] q.2
        (try simp only [es, e15])
        exact no (fun z => b39 z.1)
      · -- 39: (q.2).1 15 0 ((nI s).toNatClampNeg) = nI d on
        replace b39 : (q.2).1 15 0 ((nI s).toNatClampNeg) = nI d := b39
        (try simp only [es, e15] at b39)
        refine br_c (fun b42 => ?_) (fun b42 => ?_)
        · -- 42: nI s = b taken
          replace b42 : nI s = b := b42
          (try simp only [es, e15] at b42)
          show X 61 [some (vR 0 0), some (vR 6 v), some (vI (nI d)), some (vI b), some (vI (bI (q.1 = true))), some (vI (nI s))] [] q.2
          (try simp only [es, e15])
          exact no (fun z => z.2 b42)
        · -- 42: nI s = b on
          replace b42 : ¬ (nI s = b) := b42
          (try simp only [es, e15] at b42)
          refine And.intro (show inb (nI s) (alen 14) = true from (inb_o 4 rfl rfl rfl (by omega))) ?_
          refine And.intro (show inb (nI s) (alen 14) = true from (inb_o 4 rfl rfl rfl (by omega))) ?_
          show X 61 [some (vR 0 0), some (vR 6 v), some (vI (nI d)), some (vI b), some (vI 1), some (vI (nI s))] [] (mI (mRow q.2 14 0 (upd ((q.2).1 14 0) (nI s).toNatClampNeg (((q.2).1 14 0 ((nI s).toNatClampNeg)) ||| (1 <<< ((nI d) &&& 31))))) 0 0 6 (((q.2).1 0 0 6) + 1))
          (try simp only [es, e15])
          exact yes ⟨b39, b42⟩
  have loop : ∀ t, t ≤ ns → X 4 [some (vR 0 0), some (vR 6 v), some (vI (nI d)), some (vI (roB (abV mm v) Q d t)), some (vI (nI t)), none] [] mm := by
    refine up_ind ns ?_ (fun t ht ih => ?_)
    · have z := loop2 ns 0 (false, mm) (by omega) (SM1_r mm) ep
      rw [← eb]
      show X 4 [some (vR 0 0), some (vR 6 v), some (vI (nI d)), some (vI b), some (vI (nI ns)), none] [] mm
      refine h (fun i => Nat.beq i 30) 3000 4 _ _ _ ?_
      refine br_t (show mm.1 6 v 13 ≤ nI ns from by rw [hS]; exact Int32.le_refl _) ?_
      show X 30 [some (vR 0 0), some (vR 6 v), some (vI (nI d)), some (vI b), some (vI 0), some (vI 0)] [] mm
      exact z
    · have et : (nI t).toNatClampNeg = t := nI_clamp (by omega)
      rw [roB] at ih
      obtain ⟨B, hB⟩ : ∃ B, B = roB (abV mm v) Q d t := ⟨_, rfl⟩
      have hin := roB_in (abV mm v) Q d t (by omega)
      rw [← hB] at ih hin ⊢
      have k2 : B < 0 ↔ B = -1 := neg_m1 hin
      have no : ¬ (Q t = nI d ∧ (B = -1 ∨ ahP (abV mm v) d t B.toNatClampNeg)) → X 24 [some (vR 0 0), some (vR 6 v), some (vI (nI d)), some (vI (B)), some (vI (nI t)), none] [] mm := by
        intro hc
        rw [if_neg hc] at ih
        show X 24 [some (vR 0 0), some (vR 6 v), some (vI (nI d)), some (vI B), some (vI (nI t)), none] [] mm
        refine h (fun i => Nat.beq i 4) 3000 24 _ _ _ ?_
        show X 4 [some (vR 0 0), some (vR 6 v), some (vI (nI d)), some (vI B), some (vI ((nI t) + 1)), none] [] mm
        rw [nI_1]
        exact ih
      have yes : (Q t = nI d ∧ (B = -1 ∨ ahP (abV mm v) d t B.toNatClampNeg)) → X 22 [some (vR 0 0), some (vR 6 v), some (vI (nI d)), some (vI (B)), some (vI (nI t)), none] [] mm := by
        intro hc
        rw [if_pos hc] at ih
        show X 22 [some (vR 0 0), some (vR 6 v), some (vI (nI d)), some (vI B), some (vI (nI t)), none] [] mm
        refine h (fun i => Nat.beq i 4) 3000 22 _ _ _ ?_
        show X 4 [some (vR 0 0), some (vR 6 v), some (vI (nI d)), some (vI (nI t)), some (vI ((nI t) + 1)), none] [] mm
        rw [nI_1]
        exact ih
      have inB : ¬ B < 0 → ∃ o, o < 4 ∧ B = nI o := fun z => hin.resolve_left (fun y => z (k2.mpr y))
      show X 4 [some (vR 0 0), some (vR 6 v), some (vI (nI d)), some (vI B), some (vI (nI t)), none] [] mm
      refine h (fun i => Nat.beq i 22 || Nat.beq i 24) 3000 4 _ _ _ ?_
      refine br_f (show ¬ (mm.1 6 v 13 ≤ nI t) from by rw [hS]; exact nI_ge ht (by omega)) ?_
      refine And.intro (show inb (nI t) (alen 15) = true from (inb_o 4 rfl rfl rfl (by omega))) ?_
      refine brn_c (fun b13 => ?_) (fun b13 => ?_)
      · -- 13: mm.1 15 0 ((nI t).toNatClampNeg) = nI d taken
        replace b13 : ¬ (mm.1 15 0 ((nI t).toNatClampNeg) = nI d) := b13
        (try simp only [et, ed, ← eQ] at b13)
        show X 24 [some (vR 0 0), some (vR 6 v), some (vI (nI d)), some (vI B), some (vI (nI t)), none] [] mm
        (try simp only [et, ed, ← eQ])
        exact no (fun z => b13 z.1)
      · -- 13: mm.1 15 0 ((nI t).toNatClampNeg) = nI d on
        replace b13 : mm.1 15 0 ((nI t).toNatClampNeg) = nI d := b13
        (try simp only [et, ed, ← eQ] at b13)
        refine br_c (fun b15 => ?_) (fun b15 => ?_)
        · -- 15: B < 0 taken
          replace b15 : B < 0 := b15
          (try simp only [et, ed, ← eQ] at b15)
          show X 22 [some (vR 0 0), some (vR 6 v), some (vI (nI d)), some (vI B), some (vI (nI t)), none] [] mm
          (try simp only [et, ed, ← eQ])
          exact yes ⟨b13, Or.inl (k2.mp b15)⟩
        · -- 15: B < 0 on
          replace b15 : ¬ (B < 0) := b15
          (try simp only [et, ed, ← eQ] at b15)
          refine And.intro (show Pre_X6_isAhead mm [vR 6 v, vI (nI t), vI B, vI (nI d)] from (by obtain ⟨o, ho, e⟩ := inB b15; exact ⟨v, ns, nm, nt, t, o, d, hV, by omega, ho, hd, by rw [e]⟩)) ?_
          refine br_c (fun b21 => ?_) (fun b21 => ?_)
          · -- 21: bI (ahP (abV mm v) (nI d).toNatClampNeg (nI t).toNatClampNeg B.toNatClampNeg) = 0 taken
            replace b21 : ¬ (ahP (abV mm v) (nI d).toNatClampNeg (nI t).toNatClampNeg B.toNatClampNeg) := bI_0.mp b21
            (try simp only [et, ed, ← eQ] at b21)
            show X 24 [some (vR 0 0), some (vR 6 v), some (vI (nI d)), some (vI B), some (vI (nI t)), none] [] mm
            (try simp only [et, ed, ← eQ])
            exact no (fun z => z.2.elim (fun y => b15 (k2.mpr y)) b21)
          · -- 21: bI (ahP (abV mm v) (nI d).toNatClampNeg (nI t).toNatClampNeg B.toNatClampNeg) = 0 on
            replace b21 : ahP (abV mm v) (nI d).toNatClampNeg (nI t).toNatClampNeg B.toNatClampNeg := bI_n0.mp b21
            (try simp only [et, ed, ← eQ] at b21)
            show X 22 [some (vR 0 0), some (vR 6 v), some (vI (nI d)), some (vI B), some (vI (nI t)), none] [] mm
            (try simp only [et, ed, ← eQ])
            exact yes ⟨b13, Or.inr b21⟩
  show X 0 [some (vR 0 0), some (vR 6 v), some (vI (nI d)), none, none, none] [] mm
  refine h (fun i => Nat.beq i 4) 3000 0 _ _ _ ?_
  show X 4 [some (vR 0 0), some (vR 6 v), some (vI (nI d)), some (vI (-1)), some (vI 0), none] [] mm
  exact loop 0 (by omega)
theorem con_X0_refuseOthers (l : Launch) : CON l y_X0_refuseOthers prog_2_method_7_code 6 (some .boolean) rm_X0_refuseOthers Pre_X0_refuseOthers Fn_X0_refuseOthers := CON_of (by decide) rfl rfl (sa_X0_refuseOthers l) vc_X0_refuseOthers
/-- each asks the dearest -/
def dmL (a : Nat → Int32) (nm : Nat) : Nat → Nat → MM → MM
  | 0, _, m => m
  | k + 1, s, m => dmL a nm k (s + 1) (mRow m 15 0 (upd (m.1 15 0) s (dmA a (m.1 14 0 s) s nm)))
def rsL (a : Nat → Int32) (ns : Nat) : Nat → Nat → PR → PR
  | 0, _, p => p
  | k + 1, d, p => rsL a ns k (d + 1) (p.1 || (roF a ns p.2 d).1, (roF a ns p.2 d).2)
def akL (a : Nat → Int32) (ns nm : Nat) : Nat → MM → MM
  | 0, m => m
  | f + 1, m => if (rsL a ns nm 0 (false, dmL a nm ns 0 m)).1 = true then akL a ns nm f (rsL a ns nm 0 (false, dmL a nm ns 0 m)).2 else (rsL a ns nm 0 (false, dmL a nm ns 0 m)).2
def ak0 (m : MM) : MM := mRow (mI m 0 0 6 0) 14 0 (flR ((mI m 0 0 6 0).1 14 0) 0 (alen 14))
def akM (m : MM) (v : Nat) : MM := akL (abV m v) (m.1 6 v 13).toNatClampNeg (m.1 6 v 14).toNatClampNeg 17 (ak0 m)
/-- courtship alone moved -/
def SM2 (m m' : MM) : Prop := ∀ k g, k ≠ 0 → k ≠ 14 → k ≠ 15 → m'.1 k g = m.1 k g
theorem SM2_r (m : MM) : SM2 m m := fun _ _ _ _ _ => rfl
theorem SM2_t {a b c : MM} (h : SM2 a b) (h' : SM2 b c) : SM2 a c := fun k g z y x => (h' k g z y x).trans (h k g z y x)
theorem SM2_1 {a b : MM} (h : SM1 a b) : SM2 a b := fun k g z y _ => h k g z y
theorem SM2_15 {m : MM} {f : Nat → Int32} : SM2 m (mRow m 15 0 f) := fun _ _ _ _ z => if_neg (fun x => z x.1)
theorem SM2_F (a : Nat → Int32) (ns : Nat) (m : MM) (d : Nat) : SM2 m (roF a ns m d).2 := SM2_1 (SM1_L _ _ _ _ _ _)
theorem bI_or (x y : Bool) : bI (x = true) ||| bI (y = true) = bI ((x || y) = true) := by
  cases x <;> cases y <;> rfl

--tpl ⟨_, _, _, _, by assumption, rfl⟩ ||  || akM {m} {g1}
def Pre_X0_ask : PreT := fun m as => ∃ v ns nm nt : Nat, VC2 m v ns nm nt ∧ as = [vR 0 0, vR 6 v]
def Fn_X0_ask : FnT := fun m as => match as with
  | [_, Sum.inr (Sum.inr q)] => (none, akM m q.2)
  | _ => (none, m)
abbrev y_X0_ask : MethodName := ⟨"GivenUp$Courtship", "ask", "(LGivenUp$Valley;)V"⟩
def P_X0_ask : List StpT := [s_aload 0, s_ic (0), s_putI 0 6, s_aload 0, s_getR 0 1 14, s_ic (0), s_callS 2 Pre_J7_fill_53178 Fn_J7_fill_53178, s_ic (1), s_istore 2, s_ic (0), s_istore 3, s_iload 3, s_ic (16), s_icgt 51, s_iload 2, s_ifeq 51, s_ic (0), s_istore 4, s_iload 4, s_aload 1, s_getI 6 13, s_icge 32, s_aload 0, s_getR 0 2 15, s_iload 4, s_aload 0, s_aload 1, s_iload 4, s_callV 0 2 Pre_X0_dearestMaid Fn_X0_dearestMaid, s_iast, s_iinc 4 (1), s_goto 18, s_ic (0), s_istore 2, s_ic (0), s_istore 4, s_iload 4, s_aload 1, s_getI 6 14, s_icge 49, s_iload 2, s_aload 0, s_aload 1, s_iload 4, s_callV 0 2 Pre_X0_refuseOthers Fn_X0_refuseOthers, s_ior, s_istore 2, s_iinc 4 (1), s_goto 36, s_iinc 3 (1), s_goto 11, s_vret]
def pc_X0_ask : Nat → Nat := fun i => [0, 1, 2, 5, 6, 9, 10, 13, 14, 15, 16, 17, 18, 20, 23, 24, 27, 28, 30, 32, 33, 36, 39, 40, 43, 45, 46, 47, 49, 52, 53, 56, 59, 60, 61, 62, 64, 66, 67, 70, 73, 74, 75, 76, 78, 81, 82, 83, 86, 89, 92, 95].getD i 0
def dl_X0_ask : List (Nat × Instr × Nat) := [(0, .aload_n 0, 1), (1, .iconst 0, 1), (2, .putfield 31, 3), (5, .aload_n 0, 1), (6, .getfield 15, 3), (9, .iconst 0, 1), (10, .invokestatic 65, 3), (13, .iconst 1, 1), (14, .istore_n 2, 1), (15, .iconst 0, 1), (16, .istore_n 3, 1), (17, .iload_n 3, 1), (18, .bipush 16, 2), (20, .if_icmp .gt 75, 3), (23, .iload_n 2, 1), (24, .ifCond .eq 71, 3), (27, .iconst 0, 1), (28, .istore 4, 2), (30, .iload 4, 2), (32, .aload_n 1, 1), (33, .getfield 34, 3), (36, .if_icmp .ge 23, 3), (39, .aload_n 0, 1), (40, .getfield 18, 3), (43, .iload 4, 2), (45, .aload_n 0, 1), (46, .aload_n 1, 1), (47, .iload 4, 2), (49, .invokevirtual 71, 3), (52, .iastore, 1), (53, .iinc 4 1, 3), (56, .goto (-26), 3), (59, .iconst 0, 1), (60, .istore_n 2, 1), (61, .iconst 0, 1), (62, .istore 4, 2), (64, .iload 4, 2), (66, .aload_n 1, 1), (67, .getfield 47, 3), (70, .if_icmp .ge 19, 3), (73, .iload_n 2, 1), (74, .aload_n 0, 1), (75, .aload_n 1, 1), (76, .iload 4, 2), (78, .invokevirtual 75, 3), (81, .ior, 1), (82, .istore_n 2, 1), (83, .iinc 4 1, 3), (86, .goto (-22), 3), (89, .iinc 3 1, 3), (92, .goto (-75), 3), (95, .return_, 1)]
theorem dc_X0_ask : DEC prog_2_method_5_code pc_X0_ask dl_X0_ask := DEC_of (by decide +kernel)
abbrev rm_X0_ask : Room := { frames := 4, cells := 0, slots := 0, locals := 96 }
set_option maxRecDepth 20000 in
theorem sa_X0_ask (l : Launch) : SNDALL l prog_2_method_5_code "GivenUp$Courtship" 5 none rm_X0_ask P_X0_ask pc_X0_ask := fun p e s m args below meth c cells slots Q D dA ad A RR hC hR => by
  have hM := RTX_room (R := rm_X0_ask) hR
  exact ⟨st_aload_n hC (n := 0) (k := 0) (dc_X0_ask 0 (0, .aload_n 0, 1) rfl rfl) rfl rfl,
    st_iconst hC (n := 1) (x := 0) (dc_X0_ask 1 (1, .iconst 0, 1) rfl rfl) rfl (by decide),
    st_putI hC (n := 2) (k := 0) (j := 6) (dc_X0_ask 2 (2, .putfield 31, 3) rfl rfl) rfl clf_0 (by decide) rfl rfl rfl wd_414,
    st_aload_n hC (n := 3) (k := 0) (dc_X0_ask 3 (5, .aload_n 0, 1) rfl rfl) rfl rfl,
    st_getR hC (n := 4) (k := 0) (j := 1) (dc_X0_ask 4 (6, .getfield 15, 3) rfl rfl) rfl clf_0 (by decide) rfl (by decide) wd_405,
    st_iconst hC (n := 5) (x := 0) (dc_X0_ask 5 (9, .iconst 0, 1) rfl rfl) rfl (by decide),
    st_callS hC (n := 6) (na := 2) (con_J7_fill_53178 l) (dc_X0_ask 6 (10, .invokestatic 65, 3) rfl rfl) rfl wd_565 wd_158 (by decide) ⟨rfl, rfl, by decide, by decide⟩ hM wd_1404 wd_564,
    st_iconst hC (n := 7) (x := 1) (dc_X0_ask 7 (13, .iconst 1, 1) rfl rfl) rfl (by decide),
    st_istore_n hC (n := 8) (k := 2) (dc_X0_ask 8 (14, .istore_n 2, 1) rfl rfl) rfl rfl (by decide),
    st_iconst hC (n := 9) (x := 0) (dc_X0_ask 9 (15, .iconst 0, 1) rfl rfl) rfl (by decide),
    st_istore_n hC (n := 10) (k := 3) (dc_X0_ask 10 (16, .istore_n 3, 1) rfl rfl) rfl rfl (by decide),
    st_iload_n hC (n := 11) (k := 3) (dc_X0_ask 11 (17, .iload_n 3, 1) rfl rfl) rfl rfl,
    st_bipush hC (n := 12) (x := 16) (dc_X0_ask 12 (18, .bipush 16, 2) rfl rfl) rfl (by decide),
    st_icgt hC (n := 13) (dc_X0_ask 13 (20, .if_icmp .gt 75, 3) rfl rfl) rfl (by decide),
    st_iload_n hC (n := 14) (k := 2) (dc_X0_ask 14 (23, .iload_n 2, 1) rfl rfl) rfl rfl,
    st_ifeq hC (n := 15) (dc_X0_ask 15 (24, .ifCond .eq 71, 3) rfl rfl) rfl (by decide),
    st_iconst hC (n := 16) (x := 0) (dc_X0_ask 16 (27, .iconst 0, 1) rfl rfl) rfl (by decide),
    st_istore hC (n := 17) (dc_X0_ask 17 (28, .istore 4, 2) rfl rfl) rfl (by decide),
    st_iload hC (n := 18) (dc_X0_ask 18 (30, .iload 4, 2) rfl rfl) rfl,
    st_aload_n hC (n := 19) (k := 1) (dc_X0_ask 19 (32, .aload_n 1, 1) rfl rfl) rfl rfl,
    st_getI hC (n := 20) (k := 6) (j := 13) (dc_X0_ask 20 (33, .getfield 34, 3) rfl rfl) rfl clf_6 (by decide) rfl wd_619,
    st_icge hC (n := 21) (dc_X0_ask 21 (36, .if_icmp .ge 23, 3) rfl rfl) rfl (by decide),
    st_aload_n hC (n := 22) (k := 0) (dc_X0_ask 22 (39, .aload_n 0, 1) rfl rfl) rfl rfl,
    st_getR hC (n := 23) (k := 0) (j := 2) (dc_X0_ask 23 (40, .getfield 18, 3) rfl rfl) rfl clf_0 (by decide) rfl (by decide) wd_406,
    st_iload hC (n := 24) (dc_X0_ask 24 (43, .iload 4, 2) rfl rfl) rfl,
    st_aload_n hC (n := 25) (k := 0) (dc_X0_ask 25 (45, .aload_n 0, 1) rfl rfl) rfl rfl,
    st_aload_n hC (n := 26) (k := 1) (dc_X0_ask 26 (46, .aload_n 1, 1) rfl rfl) rfl rfl,
    st_iload hC (n := 27) (dc_X0_ask 27 (47, .iload 4, 2) rfl rfl) rfl,
    st_callV hC (n := 28) (k := 0) (na := 2) (con_X0_dearestMaid l) (dc_X0_ask 28 (49, .invokevirtual 71, 3) rfl rfl) rfl wd_1408 wd_153 (by decide) ⟨rfl, rfl, by decide, by decide⟩ hM wd_1405 wd_1407 wd_40 clf_0,
    st_iast hC (n := 29) (dc_X0_ask 29 (52, .iastore, 1) rfl rfl) rfl,
    st_iinc hC (n := 30) (x := 1) (dc_X0_ask 30 (53, .iinc 4 1, 3) rfl rfl) rfl (by decide) (by decide),
    st_goto hC (n := 31) (dc_X0_ask 31 (56, .goto (-26), 3) rfl rfl) (by decide),
    st_iconst hC (n := 32) (x := 0) (dc_X0_ask 32 (59, .iconst 0, 1) rfl rfl) rfl (by decide),
    st_istore_n hC (n := 33) (k := 2) (dc_X0_ask 33 (60, .istore_n 2, 1) rfl rfl) rfl rfl (by decide),
    st_iconst hC (n := 34) (x := 0) (dc_X0_ask 34 (61, .iconst 0, 1) rfl rfl) rfl (by decide),
    st_istore hC (n := 35) (dc_X0_ask 35 (62, .istore 4, 2) rfl rfl) rfl (by decide),
    st_iload hC (n := 36) (dc_X0_ask 36 (64, .iload 4, 2) rfl rfl) rfl,
    st_aload_n hC (n := 37) (k := 1) (dc_X0_ask 37 (66, .aload_n 1, 1) rfl rfl) rfl rfl,
    st_getI hC (n := 38) (k := 6) (j := 14) (dc_X0_ask 38 (67, .getfield 47, 3) rfl rfl) rfl clf_6 (by decide) rfl wd_625,
    st_icge hC (n := 39) (dc_X0_ask 39 (70, .if_icmp .ge 19, 3) rfl rfl) rfl (by decide),
    st_iload_n hC (n := 40) (k := 2) (dc_X0_ask 40 (73, .iload_n 2, 1) rfl rfl) rfl rfl,
    st_aload_n hC (n := 41) (k := 0) (dc_X0_ask 41 (74, .aload_n 0, 1) rfl rfl) rfl rfl,
    st_aload_n hC (n := 42) (k := 1) (dc_X0_ask 42 (75, .aload_n 1, 1) rfl rfl) rfl rfl,
    st_iload hC (n := 43) (dc_X0_ask 43 (76, .iload 4, 2) rfl rfl) rfl,
    st_callV hC (n := 44) (k := 0) (na := 2) (con_X0_refuseOthers l) (dc_X0_ask 44 (78, .invokevirtual 75, 3) rfl rfl) rfl wd_1412 wd_153 (by decide) ⟨rfl, rfl, by decide, by decide⟩ hM wd_1409 wd_1411 wd_41 clf_0,
    st_ior hC (n := 45) (dc_X0_ask 45 (81, .ior, 1) rfl rfl) rfl,
    st_istore_n hC (n := 46) (k := 2) (dc_X0_ask 46 (82, .istore_n 2, 1) rfl rfl) rfl rfl (by decide),
    st_iinc hC (n := 47) (x := 1) (dc_X0_ask 47 (83, .iinc 4 1, 3) rfl rfl) rfl (by decide) (by decide),
    st_goto hC (n := 48) (dc_X0_ask 48 (86, .goto (-22), 3) rfl rfl) (by decide),
    st_iinc hC (n := 49) (x := 1) (dc_X0_ask 49 (89, .iinc 3 1, 3) rfl rfl) rfl (by decide) (by decide),
    st_goto hC (n := 50) (dc_X0_ask 50 (92, .goto (-75), 3) rfl rfl) (by decide),
    st_vret hC (n := 51) hR (dc_X0_ask 51 (95, .return_, 1) rfl rfl), trivial⟩
set_option maxRecDepth 8000 in
theorem vc_X0_ask : VC P_X0_ask 5 Pre_X0_ask Fn_X0_ask := by
  rintro mm as hom hoa ⟨v, ns, nm, nt, hV, rfl⟩
  refine ⟨Nat.le_of_ble_eq_true rfl, fun X h => ?_⟩
  replace h : RUN P_X0_ask (fun r m' => (r, m') = (none, akM mm v)) X := h
  have hS : mm.1 6 v 13 = nI ns := hV.1.1.1
  have hn4 : ns ≤ 4 := hV.1.1.2
  have hN : mm.1 6 v 14 = nI nm := hV.1.2.1.1
  have hm4 : nm ≤ 4 := hV.1.2.1.2
  have ens : (nI ns).toNatClampNeg = ns := nI_clamp (by omega)
  have enm : (nI nm).toNatClampNeg = nm := nI_clamp (by omega)
  unfold akM at h
  rw [hS, hN, ens, enm] at h
  obtain ⟨R, eR⟩ : ∃ R, R = akL (abV mm v) ns nm 17 (ak0 mm) := ⟨_, rfl⟩
  rw [← eR] at h
  have h13 : ∀ M, SM2 mm M → M.1 6 v 13 = nI ns := fun M hM => by rw [hM 6 v (by decide) (by decide) (by decide)]; exact hS
  have h14 : ∀ M, SM2 mm M → M.1 6 v 14 = nI nm := fun M hM => by rw [hM 6 v (by decide) (by decide) (by decide)]; exact hN
  have hA : ∀ M, SM2 mm M → abV M v = abV mm v := fun M hM => abV_c (fun k hk => hM k v (by omega) (by omega) (by omega))
  have out : ∀ M i, R = M → ∀ L4, X 11 [some (vR 0 0), some (vR 6 v), some (vI (0)), some (vI (i)), L4] [] (M) := by
    intro M i hR L4
    show X 11 [some (vR 0 0), some (vR 6 v), some (vI 0), some (vI i), L4] [] M
    refine h (fun _ => false) 3000 11 _ _ _ ?_
    refine br_c (fun b13 => ?_) (fun b13 => ?_)
    · -- 13: 16 < i taken
      replace b13 : 16 < i := b13
      show ((none : Option MV), M) = _
      rw [hR]
    · -- 13: 16 < i on
      replace b13 : ¬ (16 < i) := b13
      refine br_t (show 0 = 0 from by decide) ?_
      show ((none : Option MV), M) = _
      rw [hR]
  have loop : ∀ i, i ≤ 17 → ∀ M, SM2 mm M → R = akL (abV mm v) ns nm (17 - i) M → ∀ L4, X 11 [some (vR 0 0), some (vR 6 v), some (vI (1)), some (vI (nI i)), L4] [] (M) := by
    refine up_ind 17 ?_ (fun i hi ih => ?_)
    · intro M hM hR L4
      rw [Nat.sub_self, akL] at hR
      show X 11 [some (vR 0 0), some (vR 6 v), some (vI 1), some (vI (nI 17)), L4] [] M
      refine h (fun _ => false) 3000 11 _ _ _ ?_
      refine br_t (show 16 < nI 17 from by decide) ?_
      show ((none : Option MV), M) = _
      rw [hR]
    · intro M hM hR L4
      rw [show 17 - i = (17 - (i + 1)) + 1 by omega, akL] at hR
      obtain ⟨D, eD⟩ : ∃ D, D = dmL (abV mm v) nm ns 0 M := ⟨_, rfl⟩
      rw [← eD] at hR
      obtain ⟨E, eE⟩ : ∃ E, E = rsL (abV mm v) ns nm 0 (false, D) := ⟨_, rfl⟩
      rw [← eE] at hR
      have inner2 : ∀ k d q, d + k = nm → SM2 mm q.2 → E = rsL (abV mm v) ns k d q → X 36 [some (vR 0 0), some (vR 6 v), some (vI (bI (q.1 = true))), some (vI (nI i)), some (vI (nI d))] [] (q.2) := by
        intro k
        induction k with
        | zero =>
          intro d q hd hM hq
          have hd2 : d = nm := by omega
          rw [rsL] at hq
          rw [hq] at hR
          by_cases c : q.1 = true
          · rw [if_pos c] at hR
            have z := ih q.2 hM hR
            rw [show bI (q.1 = true) = 1 from if_pos c]
            show X 36 [some (vR 0 0), some (vR 6 v), some (vI 1), some (vI (nI i)), some (vI (nI d))] [] q.2
            refine h (fun i => Nat.beq i 11) 3000 36 _ _ _ ?_
            refine br_t (show (q.2).1 6 v 14 ≤ nI d from by rw [h14 _ hM, hd2]; exact Int32.le_refl _) ?_
            show X 11 [some (vR 0 0), some (vR 6 v), some (vI 1), some (vI ((nI i) + 1)), some (vI (nI d))] [] q.2
            rw [nI_1]
            exact z _
          · rw [if_neg c] at hR
            have z := out q.2 (nI i + 1) hR
            rw [show bI (q.1 = true) = 0 from if_neg c]
            show X 36 [some (vR 0 0), some (vR 6 v), some (vI 0), some (vI (nI i)), some (vI (nI d))] [] q.2
            refine h (fun i => Nat.beq i 11) 3000 36 _ _ _ ?_
            refine br_t (show (q.2).1 6 v 14 ≤ nI d from by rw [h14 _ hM, hd2]; exact Int32.le_refl _) ?_
            show X 11 [some (vR 0 0), some (vR 6 v), some (vI 0), some (vI ((nI i) + 1)), some (vI (nI d))] [] q.2
            exact z _
        | succ k ihk =>
          intro d q hd hM hq
          rw [rsL] at hq
          have ed : (nI d).toNatClampNeg = d := nI_clamp (by omega)
          have e1 := hA _ hM
          have e2 := h13 _ hM
          obtain ⟨F, eF⟩ : ∃ F, F = roF (abV mm v) ns q.2 d := ⟨_, rfl⟩
          have hF : SM2 mm F.2 := by rw [eF]; exact SM2_t hM (SM2_F _ _ _ _)
          rw [← eF] at hq
          have z := ihk (d + 1) (q.1 || F.1, F.2) (by omega) hF hq
          have s45 : X 45 [some (vR 0 0), some (vR 6 v), some (vI (bI (q.1 = true))), some (vI (nI i)), some (vI (nI d))] [vI (bI (F.1 = true)), vI (bI (q.1 = true))] (F.2) := by
            show X 45 [some (vR 0 0), some (vR 6 v), some (vI (bI (q.1 = true))), some (vI (nI i)), some (vI (nI d))] [vI (bI (F.1 = true)), vI (bI (q.1 = true))] F.2
            refine h (fun i => Nat.beq i 36) 3000 45 _ _ _ ?_
            show X 36 [some (vR 0 0), some (vR 6 v), some (vI ((bI (q.1 = true)) ||| (bI (F.1 = true)))), some (vI (nI i)), some (vI ((nI d) + 1))] [] F.2
            rw [nI_1, bI_or]
            exact z
          show X 36 [some (vR 0 0), some (vR 6 v), some (vI (bI (q.1 = true))), some (vI (nI i)), some (vI (nI d))] [] q.2
          refine h (fun i => Nat.beq i 45) 3000 36 _ _ _ ?_
          refine br_f (show ¬ ((q.2).1 6 v 14 ≤ nI d) from by rw [h14 _ hM]; exact nI_ge (by omega) (by omega)) ?_
          refine And.intro (show Pre_X0_refuseOthers q.2 [vR 0 0, vR 6 v, vI (nI d)] from ⟨v, ns, nm, nt, d, VC2_c e1 hV, by omega, rfl⟩) ?_
          show X 45 [some (vR 0 0), some (vR 6 v), some (vI (bI (q.1 = true))), some (vI (nI i)), some (vI (nI d))] [vI (bI ((roF (abV (q.2) v) ((q.2).1 6 v 13).toNatClampNeg (q.2) (nI d).toNatClampNeg).1 = true)), vI (bI (q.1 = true))] ((roF (abV (q.2) v) ((q.2).1 6 v 13).toNatClampNeg (q.2) (nI d).toNatClampNeg).2)
          rw [e1, e2, ens, ed, ← eF]
          exact s45
      have inner1 : ∀ k s N, s + k = ns → SM2 mm N → D = dmL (abV mm v) nm k s N → X 18 [some (vR 0 0), some (vR 6 v), some (vI (1)), some (vI (nI i)), some (vI (nI s))] [] (N) := by
        intro k
        induction k with
        | zero =>
          intro s N hs hN' hD
          have hs2 : s = ns := by omega
          rw [dmL] at hD
          have z := inner2 nm 0 (false, D) (by omega) (by rw [hD]; exact hN') eE
          rw [hD] at z
          show X 18 [some (vR 0 0), some (vR 6 v), some (vI 1), some (vI (nI i)), some (vI (nI s))] [] N
          refine h (fun i => Nat.beq i 36) 3000 18 _ _ _ ?_
          refine br_t (show N.1 6 v 13 ≤ nI s from by rw [h13 _ hN', hs2]; exact Int32.le_refl _) ?_
          show X 36 [some (vR 0 0), some (vR 6 v), some (vI 0), some (vI (nI i)), some (vI 0)] [] N
          exact z
        | succ k ihk =>
          intro s N hs hN' hD
          rw [dmL] at hD
          have es : (nI s).toNatClampNeg = s := nI_clamp (by omega)
          have e1 := hA _ hN'
          have e2 := h14 _ hN'
          have z := ihk (s + 1) _ (by omega) (SM2_t hN' SM2_15) hD
          show X 18 [some (vR 0 0), some (vR 6 v), some (vI 1), some (vI (nI i)), some (vI (nI s))] [] N
          refine h (fun i => Nat.beq i 18) 3000 18 _ _ _ ?_
          refine br_f (show ¬ (N.1 6 v 13 ≤ nI s) from by rw [h13 _ hN']; exact nI_ge (by omega) (by omega)) ?_
          refine And.intro (show Pre_X0_dearestMaid N [vR 0 0, vR 6 v, vI (nI s)] from ⟨v, ns, nm, nt, s, VC2_c e1 hV, by omega, rfl⟩) ?_
          refine And.intro (show inb (nI s) (alen 15) = true from (inb_o 4 rfl rfl rfl (by omega))) ?_
          show X 18 [some (vR 0 0), some (vR 6 v), some (vI 1), some (vI (nI i)), some (vI ((nI s) + 1))] [] (mRow N 15 0 (upd (N.1 15 0) (nI s).toNatClampNeg (dmA (abV N v) (N.1 14 0 (nI s).toNatClampNeg) (nI s).toNatClampNeg (N.1 6 v 14).toNatClampNeg)))
          rw [e1, e2, enm, es, nI_1]
          exact z
      have z := inner1 ns 0 M (by omega) hM eD
      show X 11 [some (vR 0 0), some (vR 6 v), some (vI 1), some (vI (nI i)), L4] [] M
      refine h (fun i => Nat.beq i 18) 3000 11 _ _ _ ?_
      refine br_f (show ¬ (16 < nI i) from show ¬ nI 16 < nI i by rw [nI_ltI (by omega) (by omega)]; omega) ?_
      refine br_f (show ¬ (1 = 0) from by decide) ?_
      show X 18 [some (vR 0 0), some (vR 6 v), some (vI 1), some (vI (nI i)), some (vI 0)] [] M
      exact z
  have s0 : SM2 mm (ak0 mm) := fun k g z y _ => Eq.trans (show (ak0 mm).1 k g = (mI mm 0 0 6 0).1 k g from if_neg (fun x => y x.1)) (if_neg (fun x => z x.1))
  have l0 := loop 0 (by omega) (ak0 mm) s0 eR
  show X 0 [some (vR 0 0), some (vR 6 v), none, none, none] [] mm
  refine h (fun i => Nat.beq i 11) 3000 0 _ _ _ ?_
  refine And.intro (show Pre_J7_fill_53178 (mI mm 0 0 6 0) [vR 14 0, vI 0] from ⟨_, _, by decide, _, rfl⟩) ?_
  show X 11 [some (vR 0 0), some (vR 6 v), some (vI 1), some (vI 0), none] [] (mRow (mI mm 0 0 6 0) 14 0 (flR (mm.1 14 0) 0 (alen 14)))
  exact l0 none
theorem con_X0_ask (l : Launch) : CON l y_X0_ask prog_2_method_5_code 5 none rm_X0_ask Pre_X0_ask Fn_X0_ask := CON_of (by decide) rfl rfl (sa_X0_ask l) vc_X0_ask
