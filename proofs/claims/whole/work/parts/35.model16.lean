/-! PART 35: the model: who keeps whom -/

/-- the MAID whom a SUITOR asks next, of the first t -/
def askF (a : Nat → Int32) (r : Int32) (i : Nat) : Nat → Int32
  | 0 => -1
  | t + 1 => if ¬ inS r (nI t) ∧ (askF a r i t = -1 ∨ ¬ a (128 + 4 * i + t) ≤ a (128 + 4 * i + (askF a r i t).toNatClampNeg)) then nI t else askF a r i t
theorem askF_in (a : Nat → Int32) (r : Int32) (i : Nat) : ∀ t, askF a r i t = -1 ∨ ∃ o, o < t ∧ askF a r i t = nI o ∧ ¬ inS r (nI o)
  | 0 => Or.inl rfl
  | t + 1 => by
    rw [askF]
    split
    · rename_i h; exact Or.inr ⟨t, by omega, rfl, h.1⟩
    · exact (askF_in a r i t).imp id (fun ⟨o, ho, e⟩ => ⟨o, by omega, e⟩)

--tpl ⟨hM, {1N}, by omega, rfl⟩ || askF {A} ({m}.1 67 0 {1n}) {1n} ({a} 1).toNatClampNeg
def Pre_X12_askedBy : PreT := fun m as => VM m ∧ ∃ i : Nat, i < 4 ∧ as = [vR 12 0, vI (nI i)]
def Fn_X12_askedBy : FnT := fun m as => match as with
  | [_, Sum.inl i] => (some (vI (askF (m.1 54 0) (m.1 67 0 i.toNatClampNeg) i.toNatClampNeg (m.1 54 0 1).toNatClampNeg)), m)
  | _ => (none, m)
abbrev y_X12_askedBy : MethodName := ⟨"GivenUpModel", "askedBy", "(I)I"⟩
def P_X12_askedBy : List StpT := [s_ic (-1), s_istore 2, s_ic (0), s_istore 3, s_iload 3, s_aload 0, s_getR 12 0 54, s_ic (1), s_iald, s_icge 46, s_aload 0, s_aload 0, s_getR 12 31 67, s_iload 1, s_iald, s_iload 3, s_callV 12 2 Pre_X12_isIn Fn_X12_isIn, s_ifne 44, s_iload 2, s_ic (-1), s_iceq 42, s_aload 0, s_getR 12 0 54, s_ic (128), s_ic (4), s_iload 1, s_imul, s_iadd, s_iload 3, s_iadd, s_iald, s_aload 0, s_getR 12 0 54, s_ic (128), s_ic (4), s_iload 1, s_imul, s_iadd, s_iload 2, s_iadd, s_iald, s_icle 44, s_iload 3, s_istore 2, s_iinc 3 (1), s_goto 4, s_iload 2, s_iret]
def pc_X12_askedBy : Nat → Nat := fun i => [0, 1, 2, 3, 4, 5, 6, 9, 10, 11, 14, 15, 16, 19, 20, 21, 22, 25, 28, 29, 30, 33, 34, 37, 40, 41, 42, 43, 44, 45, 46, 47, 48, 51, 54, 55, 56, 57, 58, 59, 60, 61, 64, 65, 66, 69, 72, 73].getD i 0
def dl_X12_askedBy : List (Nat × Instr × Nat) := [(0, .iconst (-1), 1), (1, .istore_n 2, 1), (2, .iconst 0, 1), (3, .istore_n 3, 1), (4, .iload_n 3, 1), (5, .aload_n 0, 1), (6, .getfield 7, 3), (9, .iconst 1, 1), (10, .iaload, 1), (11, .if_icmp .ge 61, 3), (14, .aload_n 0, 1), (15, .aload_n 0, 1), (16, .getfield 62, 3), (19, .iload_n 1, 1), (20, .iaload, 1), (21, .iload_n 3, 1), (22, .invokevirtual 277, 3), (25, .ifCond .ne 41, 3), (28, .iload_n 2, 1), (29, .iconst (-1), 1), (30, .if_icmp .eq 34, 3), (33, .aload_n 0, 1), (34, .getfield 7, 3), (37, .sipush 128, 3), (40, .iconst 4, 1), (41, .iload_n 1, 1), (42, .imul, 1), (43, .iadd, 1), (44, .iload_n 3, 1), (45, .iadd, 1), (46, .iaload, 1), (47, .aload_n 0, 1), (48, .getfield 7, 3), (51, .sipush 128, 3), (54, .iconst 4, 1), (55, .iload_n 1, 1), (56, .imul, 1), (57, .iadd, 1), (58, .iload_n 2, 1), (59, .iadd, 1), (60, .iaload, 1), (61, .if_icmp .le 5, 3), (64, .iload_n 3, 1), (65, .istore_n 2, 1), (66, .iinc 3 1, 3), (69, .goto (-65), 3), (72, .iload_n 2, 1), (73, .ireturn, 1)]
theorem dc_X12_askedBy : DEC prog_14_method_134_code pc_X12_askedBy dl_X12_askedBy := DEC_of (by decide +kernel)
abbrev rm_X12_askedBy : Room := { frames := 1, cells := 0, slots := 0, locals := 22 }
set_option maxRecDepth 20000 in
theorem sa_X12_askedBy (l : Launch) : SNDALL l prog_14_method_134_code "GivenUpModel" 4 (some .int) rm_X12_askedBy P_X12_askedBy pc_X12_askedBy := fun p e s m args below meth c cells slots Q D dA ad A RR hC hR => by
  have hM := RTX_room (R := rm_X12_askedBy) hR
  exact ⟨st_iconst hC (n := 0) (x := (-1)) (dc_X12_askedBy 0 (0, .iconst (-1), 1) rfl rfl) rfl (by decide),
    st_istore_n hC (n := 1) (k := 2) (dc_X12_askedBy 1 (1, .istore_n 2, 1) rfl rfl) rfl rfl (by decide),
    st_iconst hC (n := 2) (x := 0) (dc_X12_askedBy 2 (2, .iconst 0, 1) rfl rfl) rfl (by decide),
    st_istore_n hC (n := 3) (k := 3) (dc_X12_askedBy 3 (3, .istore_n 3, 1) rfl rfl) rfl rfl (by decide),
    st_iload_n hC (n := 4) (k := 3) (dc_X12_askedBy 4 (4, .iload_n 3, 1) rfl rfl) rfl rfl,
    st_aload_n hC (n := 5) (k := 0) (dc_X12_askedBy 5 (5, .aload_n 0, 1) rfl rfl) rfl rfl,
    st_getR hC (n := 6) (k := 12) (j := 0) (dc_X12_askedBy 6 (6, .getfield 7, 3) rfl rfl) rfl clf_12 (by decide) rfl (by decide) wd_1552,
    st_iconst hC (n := 7) (x := 1) (dc_X12_askedBy 7 (9, .iconst 1, 1) rfl rfl) rfl (by decide),
    st_iald hC (n := 8) (dc_X12_askedBy 8 (10, .iaload, 1) rfl rfl) rfl,
    st_icge hC (n := 9) (dc_X12_askedBy 9 (11, .if_icmp .ge 61, 3) rfl rfl) rfl (by decide),
    st_aload_n hC (n := 10) (k := 0) (dc_X12_askedBy 10 (14, .aload_n 0, 1) rfl rfl) rfl rfl,
    st_aload_n hC (n := 11) (k := 0) (dc_X12_askedBy 11 (15, .aload_n 0, 1) rfl rfl) rfl rfl,
    st_getR hC (n := 12) (k := 12) (j := 31) (dc_X12_askedBy 12 (16, .getfield 62, 3) rfl rfl) rfl clf_12 (by decide) rfl (by decide) wd_1583,
    st_iload_n hC (n := 13) (k := 1) (dc_X12_askedBy 13 (19, .iload_n 1, 1) rfl rfl) rfl rfl,
    st_iald hC (n := 14) (dc_X12_askedBy 14 (20, .iaload, 1) rfl rfl) rfl,
    st_iload_n hC (n := 15) (k := 3) (dc_X12_askedBy 15 (21, .iload_n 3, 1) rfl rfl) rfl rfl,
    st_callV hC (n := 16) (k := 12) (na := 2) (con_X12_isIn l) (dc_X12_askedBy 16 (22, .invokevirtual 277, 3) rfl rfl) rfl wd_1907 wd_160 (by decide) ⟨rfl, rfl, by decide, by decide⟩ hM wd_1904 wd_1906 wd_89 clf_12,
    st_ifne hC (n := 17) (dc_X12_askedBy 17 (25, .ifCond .ne 41, 3) rfl rfl) rfl (by decide),
    st_iload_n hC (n := 18) (k := 2) (dc_X12_askedBy 18 (28, .iload_n 2, 1) rfl rfl) rfl rfl,
    st_iconst hC (n := 19) (x := (-1)) (dc_X12_askedBy 19 (29, .iconst (-1), 1) rfl rfl) rfl (by decide),
    st_iceq hC (n := 20) (dc_X12_askedBy 20 (30, .if_icmp .eq 34, 3) rfl rfl) rfl (by decide),
    st_aload_n hC (n := 21) (k := 0) (dc_X12_askedBy 21 (33, .aload_n 0, 1) rfl rfl) rfl rfl,
    st_getR hC (n := 22) (k := 12) (j := 0) (dc_X12_askedBy 22 (34, .getfield 7, 3) rfl rfl) rfl clf_12 (by decide) rfl (by decide) wd_1552,
    st_sipush hC (n := 23) (x := 128) (dc_X12_askedBy 23 (37, .sipush 128, 3) rfl rfl) rfl (by decide),
    st_iconst hC (n := 24) (x := 4) (dc_X12_askedBy 24 (40, .iconst 4, 1) rfl rfl) rfl (by decide),
    st_iload_n hC (n := 25) (k := 1) (dc_X12_askedBy 25 (41, .iload_n 1, 1) rfl rfl) rfl rfl,
    st_imul hC (n := 26) (dc_X12_askedBy 26 (42, .imul, 1) rfl rfl) rfl,
    st_iadd hC (n := 27) (dc_X12_askedBy 27 (43, .iadd, 1) rfl rfl) rfl,
    st_iload_n hC (n := 28) (k := 3) (dc_X12_askedBy 28 (44, .iload_n 3, 1) rfl rfl) rfl rfl,
    st_iadd hC (n := 29) (dc_X12_askedBy 29 (45, .iadd, 1) rfl rfl) rfl,
    st_iald hC (n := 30) (dc_X12_askedBy 30 (46, .iaload, 1) rfl rfl) rfl,
    st_aload_n hC (n := 31) (k := 0) (dc_X12_askedBy 31 (47, .aload_n 0, 1) rfl rfl) rfl rfl,
    st_getR hC (n := 32) (k := 12) (j := 0) (dc_X12_askedBy 32 (48, .getfield 7, 3) rfl rfl) rfl clf_12 (by decide) rfl (by decide) wd_1552,
    st_sipush hC (n := 33) (x := 128) (dc_X12_askedBy 33 (51, .sipush 128, 3) rfl rfl) rfl (by decide),
    st_iconst hC (n := 34) (x := 4) (dc_X12_askedBy 34 (54, .iconst 4, 1) rfl rfl) rfl (by decide),
    st_iload_n hC (n := 35) (k := 1) (dc_X12_askedBy 35 (55, .iload_n 1, 1) rfl rfl) rfl rfl,
    st_imul hC (n := 36) (dc_X12_askedBy 36 (56, .imul, 1) rfl rfl) rfl,
    st_iadd hC (n := 37) (dc_X12_askedBy 37 (57, .iadd, 1) rfl rfl) rfl,
    st_iload_n hC (n := 38) (k := 2) (dc_X12_askedBy 38 (58, .iload_n 2, 1) rfl rfl) rfl rfl,
    st_iadd hC (n := 39) (dc_X12_askedBy 39 (59, .iadd, 1) rfl rfl) rfl,
    st_iald hC (n := 40) (dc_X12_askedBy 40 (60, .iaload, 1) rfl rfl) rfl,
    st_icle hC (n := 41) (dc_X12_askedBy 41 (61, .if_icmp .le 5, 3) rfl rfl) rfl (by decide),
    st_iload_n hC (n := 42) (k := 3) (dc_X12_askedBy 42 (64, .iload_n 3, 1) rfl rfl) rfl rfl,
    st_istore_n hC (n := 43) (k := 2) (dc_X12_askedBy 43 (65, .istore_n 2, 1) rfl rfl) rfl rfl (by decide),
    st_iinc hC (n := 44) (x := 1) (dc_X12_askedBy 44 (66, .iinc 3 1, 3) rfl rfl) rfl (by decide) (by decide),
    st_goto hC (n := 45) (dc_X12_askedBy 45 (69, .goto (-65), 3) rfl rfl) (by decide),
    st_iload_n hC (n := 46) (k := 2) (dc_X12_askedBy 46 (72, .iload_n 2, 1) rfl rfl) rfl rfl,
    st_iret hC (n := 47) hR (dc_X12_askedBy 47 (73, .ireturn, 1) rfl rfl), trivial⟩
set_option maxRecDepth 8000 in
theorem vc_X12_askedBy : VC P_X12_askedBy 4 Pre_X12_askedBy Fn_X12_askedBy := by
  rintro mm as hom hoa ⟨⟨ns, nm, n, hV⟩, i, hi, rfl⟩
  refine ⟨Nat.le_of_ble_eq_true rfl, fun X h => ?_⟩
  have hnm : mm.1 54 0 1 = nI nm := hV.2.1.1
  have hnm4 : nm ≤ 4 := hV.2.1.2
  have ei : (nI i).toNatClampNeg = i := nI_clamp (by omega)
  have eF : Fn_X12_askedBy mm [vR 12 0, vI (nI i)] = (some (vI (askF (mm.1 54 0) (mm.1 67 0 i) i nm)), mm) := by
    show (some (vI (askF (mm.1 54 0) (mm.1 67 0 (nI i).toNatClampNeg) (nI i).toNatClampNeg (mm.1 54 0 1).toNatClampNeg)), mm) = _
    rw [hnm, ei, nI_clamp (show nm < 2 ^ 31 by omega)]
  rw [eF] at h
  have loop : ∀ t, t ≤ nm → X 4 [some (vR 12 0), some (vI (nI i)), some (vI (askF (mm.1 54 0) (mm.1 67 0 i) i t)), some (vI (nI t))] [] mm := by
    refine up_ind nm ?_ (fun t ht hk => ?_)
    ·
      show X 4 [some (vR 12 0), some (vI (nI i)), some (vI (askF (mm.1 54 0) (mm.1 67 0 i) i nm)), some (vI (nI nm))] [] mm
      refine h (fun _ => false) 3000 4 _ _ _ ?_
      refine And.intro rfl ?_
      refine br_t (by ((try simp (disch := omega) only [hnm, li, pk_mul, nI_add, nI_clamp, nI_leI, nI_ltI, nI_eq, bI_0, bI_n0, Decidable.not_not, gu_m1]); first | done | omega | assumption)) ?_
      show ((some (vI (askF (mm.1 54 0) (mm.1 67 0 i) i nm)) : Option MV), mm) = _
      exact rfl
    · have et : (nI t).toNatClampNeg = t := nI_clamp (by omega)
      have x1 : (128 + 4 * nI i + nI t).toNatClampNeg = 128 + 4 * i + t := by simp (disch := omega) only [li, pk_mul, nI_add, nI_clamp]
      have st : ∀ v, v = askF (mm.1 54 0) (mm.1 67 0 i) i (t + 1) → X 44 [some (vR 12 0), some (vI (nI i)), some (vI (v)), some (vI (nI t))] [] mm := by
        intro v ev
        show X 44 [some (vR 12 0), some (vI (nI i)), some (vI v), some (vI (nI t))] [] mm
        refine h (fun i => Nat.beq i 4) 3000 44 _ _ _ ?_
        show X 4 [some (vR 12 0), some (vI (nI i)), some (vI v), some (vI ((nI t) + 1))] [] mm
        rw [nI_1, ev]
        exact hk
      have mid : ¬ inS (mm.1 67 0 i) (nI t) → X 18 [some (vR 12 0), some (vI (nI i)), some (vI (askF (mm.1 54 0) (mm.1 67 0 i) i t)), some (vI (nI t))] [] mm := by
        intro hb
        rcases askF_in (mm.1 54 0) (mm.1 67 0 i) i t with e0 | ⟨o, ho, e0, -⟩
        ·
          show X 18 [some (vR 12 0), some (vI (nI i)), some (vI (askF (mm.1 54 0) (mm.1 67 0 i) i t)), some (vI (nI t))] [] mm
          refine h (fun i => Nat.beq i 44) 3000 18 _ _ _ ?_
          refine br_t (e0) ?_
          show X 44 [some (vR 12 0), some (vI (nI i)), some (vI (nI t)), some (vI (nI t))] [] mm
          refine st _ ?_
          rw [askF, if_pos ⟨hb, Or.inl e0⟩]
        · have n1 : ¬ askF (mm.1 54 0) (mm.1 67 0 i) i t = -1 := fun z => (gu_m1 (n := o) (by omega)).mp (e0.symm.trans z)
          have x2 : 128 + 4 * nI i + askF (mm.1 54 0) (mm.1 67 0 i) i t = nI (128 + 4 * i + o) := by rw [e0]; simp (disch := omega) only [li, pk_mul, nI_add, nI_clamp]
          have x3 : (128 + 4 * nI i + askF (mm.1 54 0) (mm.1 67 0 i) i t).toNatClampNeg = 128 + 4 * i + (askF (mm.1 54 0) (mm.1 67 0 i) i t).toNatClampNeg := by rw [x2, e0, nI_clamp (by omega), nI_clamp (by omega)]
          show X 18 [some (vR 12 0), some (vI (nI i)), some (vI (askF (mm.1 54 0) (mm.1 67 0 i) i t)), some (vI (nI t))] [] mm
          refine h (fun i => Nat.beq i 44) 3000 18 _ _ _ ?_
          refine br_f (n1) ?_
          refine And.intro (inb_o 3060 rfl rfl (show (128 + (4 * (nI i))) + (nI t) = nI ((128 + (4 * ( i))) + ( t)) by simp (disch := omega) only [li, pk_mul, nI_add, nI_clamp]) (by omega)) ?_
          refine And.intro (inb_o 3060 rfl rfl x2 (by omega)) ?_
          refine br_c (fun b41 => ?_) (fun b41 => ?_)
          · -- 41: mm.1 54 0 ((128 + (4 * (nI i))) + (nI t)).toNatClampNeg ≤ mm.1 54 0 ((128 + (4 * (nI i))) + (askF (mm.1 54 0) (mm.1 67 0 i) i t)).toNatClampNeg taken
            replace b41 : mm.1 54 0 ((128 + (4 * (nI i))) + (nI t)).toNatClampNeg ≤ mm.1 54 0 ((128 + (4 * (nI i))) + (askF (mm.1 54 0) (mm.1 67 0 i) i t)).toNatClampNeg := b41
            rw [x1, x3] at b41
            show X 44 [some (vR 12 0), some (vI (nI i)), some (vI (askF (mm.1 54 0) (mm.1 67 0 i) i t)), some (vI (nI t))] [] mm
            refine st _ ?_
            rw [askF, if_neg (fun z => z.2.elim n1 (fun y => y b41))]
          · -- 41: mm.1 54 0 ((128 + (4 * (nI i))) + (nI t)).toNatClampNeg ≤ mm.1 54 0 ((128 + (4 * (nI i))) + (askF (mm.1 54 0) (mm.1 67 0 i) i t)).toNatClampNeg on
            replace b41 : ¬ (mm.1 54 0 ((128 + (4 * (nI i))) + (nI t)).toNatClampNeg ≤ mm.1 54 0 ((128 + (4 * (nI i))) + (askF (mm.1 54 0) (mm.1 67 0 i) i t)).toNatClampNeg) := b41
            rw [x1, x3] at b41
            show X 44 [some (vR 12 0), some (vI (nI i)), some (vI (nI t)), some (vI (nI t))] [] mm
            refine st _ ?_
            rw [askF, if_pos ⟨hb, Or.inr b41⟩]
      show X 4 [some (vR 12 0), some (vI (nI i)), some (vI (askF (mm.1 54 0) (mm.1 67 0 i) i t)), some (vI (nI t))] [] mm
      refine h (fun i => Nat.beq i 18 || Nat.beq i 44) 3000 4 _ _ _ ?_
      refine And.intro rfl ?_
      refine br_f (by ((try simp (disch := omega) only [hnm, li, pk_mul, nI_add, nI_clamp, nI_leI, nI_ltI, nI_eq, bI_0, bI_n0, Decidable.not_not, gu_m1]); first | done | omega | assumption)) ?_
      refine And.intro (inb_o 4 rfl rfl rfl (by omega)) ?_
      refine And.intro ⟨_, _, rfl⟩ ?_
      refine brn_c (fun b17 => ?_) (fun b17 => ?_)
      · -- 17: bI (inS (mm.1 67 0 (nI i).toNatClampNeg) (nI t)) = 0 taken
        replace b17 : inS (mm.1 67 0 (nI i).toNatClampNeg) (nI t) := bI_n0.mp b17
        rw [ei] at b17
        show X 44 [some (vR 12 0), some (vI (nI i)), some (vI (askF (mm.1 54 0) (mm.1 67 0 i) i t)), some (vI (nI t))] [] mm
        refine st _ ?_
        rw [askF, if_neg (fun z => z.1 b17)]
      · -- 17: bI (inS (mm.1 67 0 (nI i).toNatClampNeg) (nI t)) = 0 on
        replace b17 : ¬ (inS (mm.1 67 0 (nI i).toNatClampNeg) (nI t)) := bI_0.mp b17
        rw [ei] at b17
        show X 18 [some (vR 12 0), some (vI (nI i)), some (vI (askF (mm.1 54 0) (mm.1 67 0 i) i t)), some (vI (nI t))] [] mm
        exact mid b17
  show X 0 [some (vR 12 0), some (vI (nI i)), none, none] [] mm
  refine h (fun i => Nat.beq i 4) 3000 0 _ _ _ ?_
  show X 4 [some (vR 12 0), some (vI (nI i)), some (vI (-1)), some (vI 0)] [] mm
  exact loop 0 (by omega)
theorem con_X12_askedBy (l : Launch) : CON l y_X12_askedBy prog_14_method_134_code 4 (some .int) rm_X12_askedBy Pre_X12_askedBy Fn_X12_askedBy := CON_of (by decide) rfl rfl (sa_X12_askedBy l) vc_X12_askedBy
abbrev kpP (K : Nat → Int32) (nm : Nat) (s : Int32) : Prop := ¬ ∀ m, m < nm → ¬ K m = s

--tpl ⟨hM, _, rfl⟩ || bI (kpP ({m}.1 66 0) ({a} 1).toNatClampNeg {1})
def Pre_X12_isKept : PreT := fun m as => VM m ∧ ∃ s : Int32, as = [vR 12 0, vI s]
def Fn_X12_isKept : FnT := fun m as => match as with
  | [_, Sum.inl s] => (some (vI (bI (kpP (m.1 66 0) (m.1 54 0 1).toNatClampNeg s))), m)
  | _ => (none, m)
abbrev y_X12_isKept : MethodName := ⟨"GivenUpModel", "isKept", "(I)Z"⟩
def P_X12_isKept : List StpT := [s_ic (0), s_istore 2, s_iload 2, s_aload 0, s_getR 12 0 54, s_ic (1), s_iald, s_icge 18, s_aload 0, s_getR 12 30 66, s_iload 2, s_iald, s_iload 1, s_icne 16, s_ic (1), s_zret, s_iinc 2 (1), s_goto 2, s_ic (0), s_zret]
def pc_X12_isKept : Nat → Nat := fun i => [0, 1, 2, 3, 4, 7, 8, 9, 12, 13, 16, 17, 18, 19, 22, 23, 24, 27, 30, 31].getD i 0
def dl_X12_isKept : List (Nat × Instr × Nat) := [(0, .iconst 0, 1), (1, .istore_n 2, 1), (2, .iload_n 2, 1), (3, .aload_n 0, 1), (4, .getfield 7, 3), (7, .iconst 1, 1), (8, .iaload, 1), (9, .if_icmp .ge 21, 3), (12, .aload_n 0, 1), (13, .getfield 59, 3), (16, .iload_n 2, 1), (17, .iaload, 1), (18, .iload_n 1, 1), (19, .if_icmp .ne 5, 3), (22, .iconst 1, 1), (23, .ireturn, 1), (24, .iinc 2 1, 3), (27, .goto (-25), 3), (30, .iconst 0, 1), (31, .ireturn, 1)]
theorem dc_X12_isKept : DEC prog_14_method_135_code pc_X12_isKept dl_X12_isKept := DEC_of (by decide +kernel)
abbrev rm_X12_isKept : Room := { frames := 0, cells := 0, slots := 0, locals := 0 }
set_option maxRecDepth 20000 in
theorem sa_X12_isKept (l : Launch) : SNDALL l prog_14_method_135_code "GivenUpModel" 3 (some .boolean) rm_X12_isKept P_X12_isKept pc_X12_isKept := fun p e s m args below meth c cells slots Q D dA ad A RR hC hR => by
  have hM := RTX_room (R := rm_X12_isKept) hR
  exact ⟨st_iconst hC (n := 0) (x := 0) (dc_X12_isKept 0 (0, .iconst 0, 1) rfl rfl) rfl (by decide),
    st_istore_n hC (n := 1) (k := 2) (dc_X12_isKept 1 (1, .istore_n 2, 1) rfl rfl) rfl rfl (by decide),
    st_iload_n hC (n := 2) (k := 2) (dc_X12_isKept 2 (2, .iload_n 2, 1) rfl rfl) rfl rfl,
    st_aload_n hC (n := 3) (k := 0) (dc_X12_isKept 3 (3, .aload_n 0, 1) rfl rfl) rfl rfl,
    st_getR hC (n := 4) (k := 12) (j := 0) (dc_X12_isKept 4 (4, .getfield 7, 3) rfl rfl) rfl clf_12 (by decide) rfl (by decide) wd_1552,
    st_iconst hC (n := 5) (x := 1) (dc_X12_isKept 5 (7, .iconst 1, 1) rfl rfl) rfl (by decide),
    st_iald hC (n := 6) (dc_X12_isKept 6 (8, .iaload, 1) rfl rfl) rfl,
    st_icge hC (n := 7) (dc_X12_isKept 7 (9, .if_icmp .ge 21, 3) rfl rfl) rfl (by decide),
    st_aload_n hC (n := 8) (k := 0) (dc_X12_isKept 8 (12, .aload_n 0, 1) rfl rfl) rfl rfl,
    st_getR hC (n := 9) (k := 12) (j := 30) (dc_X12_isKept 9 (13, .getfield 59, 3) rfl rfl) rfl clf_12 (by decide) rfl (by decide) wd_1582,
    st_iload_n hC (n := 10) (k := 2) (dc_X12_isKept 10 (16, .iload_n 2, 1) rfl rfl) rfl rfl,
    st_iald hC (n := 11) (dc_X12_isKept 11 (17, .iaload, 1) rfl rfl) rfl,
    st_iload_n hC (n := 12) (k := 1) (dc_X12_isKept 12 (18, .iload_n 1, 1) rfl rfl) rfl rfl,
    st_icne hC (n := 13) (dc_X12_isKept 13 (19, .if_icmp .ne 5, 3) rfl rfl) rfl (by decide),
    st_iconst hC (n := 14) (x := 1) (dc_X12_isKept 14 (22, .iconst 1, 1) rfl rfl) rfl (by decide),
    st_zret hC (n := 15) hR (dc_X12_isKept 15 (23, .ireturn, 1) rfl rfl),
    st_iinc hC (n := 16) (x := 1) (dc_X12_isKept 16 (24, .iinc 2 1, 3) rfl rfl) rfl (by decide) (by decide),
    st_goto hC (n := 17) (dc_X12_isKept 17 (27, .goto (-25), 3) rfl rfl) (by decide),
    st_iconst hC (n := 18) (x := 0) (dc_X12_isKept 18 (30, .iconst 0, 1) rfl rfl) rfl (by decide),
    st_zret hC (n := 19) hR (dc_X12_isKept 19 (31, .ireturn, 1) rfl rfl), trivial⟩
set_option maxRecDepth 8000 in
theorem vc_X12_isKept : VC P_X12_isKept 3 Pre_X12_isKept Fn_X12_isKept := by
  rintro mm as hom hoa ⟨⟨ns, nm, n, hV⟩, s, rfl⟩
  refine ⟨Nat.le_of_ble_eq_true rfl, fun X h => ?_⟩
  have hnm : mm.1 54 0 1 = nI nm := hV.2.1.1
  have hnm4 : nm ≤ 4 := hV.2.1.2
  have eF : Fn_X12_isKept mm [vR 12 0, vI s] = (some (vI (bI (kpP (mm.1 66 0) nm s))), mm) := by
    show (some (vI (bI (kpP (mm.1 66 0) (mm.1 54 0 1).toNatClampNeg s))), mm) = _
    rw [hnm, nI_clamp (show nm < 2 ^ 31 by omega)]
  rw [eF] at h
  have loop : ∀ t, t ≤ nm → (∀ m, m < t → ¬ mm.1 66 0 m = s) → X 2 [some (vR 12 0), some (vI (s)), some (vI (nI t))] [] mm := by
    refine up_ind nm ?_ (fun t ht hk => ?_)
    · intro hn
      show X 2 [some (vR 12 0), some (vI s), some (vI (nI nm))] [] mm
      refine h (fun _ => false) 3000 2 _ _ _ ?_
      refine And.intro rfl ?_
      refine br_t (by ((try simp (disch := omega) only [hnm, li, pk_mul, nI_add, nI_clamp, nI_leI, nI_ltI, nI_eq, bI_0, bI_n0, Decidable.not_not, gu_m1]); first | done | omega | assumption)) ?_
      refine And.intro (Or.inl rfl) ?_
      show ((some (vI 0) : Option MV), mm) = _
      exact ret_f (fun z => z hn)
    · intro hn
      have et : (nI t).toNatClampNeg = t := nI_clamp (by omega)
      show X 2 [some (vR 12 0), some (vI s), some (vI (nI t))] [] mm
      refine h (fun i => Nat.beq i 2) 3000 2 _ _ _ ?_
      refine And.intro rfl ?_
      refine br_f (by ((try simp (disch := omega) only [hnm, li, pk_mul, nI_add, nI_clamp, nI_leI, nI_ltI, nI_eq, bI_0, bI_n0, Decidable.not_not, gu_m1]); first | done | omega | assumption)) ?_
      refine And.intro (inb_o 4 rfl rfl rfl (by omega)) ?_
      refine brn_c (fun b13 => ?_) (fun b13 => ?_)
      · -- 13: mm.1 66 0 (nI t).toNatClampNeg = s taken
        replace b13 : ¬ (mm.1 66 0 (nI t).toNatClampNeg = s) := b13
        rw [et] at b13
        show X 2 [some (vR 12 0), some (vI s), some (vI ((nI t) + 1))] [] mm
        rw [nI_1]
        refine hk (fun m hm => ?_) 
        rcases Nat.lt_or_eq_of_le (Nat.le_of_lt_succ hm) with q | q 
        · exact hn m q 
        · rw [q]; exact b13
      · -- 13: mm.1 66 0 (nI t).toNatClampNeg = s on
        replace b13 : mm.1 66 0 (nI t).toNatClampNeg = s := b13
        rw [et] at b13
        refine And.intro (Or.inr rfl) ?_
        show ((some (vI 1) : Option MV), mm) = _
        exact ret_t (fun z => z t ht b13)
  show X 0 [some (vR 12 0), some (vI s), none] [] mm
  refine h (fun i => Nat.beq i 2) 3000 0 _ _ _ ?_
  show X 2 [some (vR 12 0), some (vI s), some (vI 0)] [] mm
  exact loop 0 (by omega) (fun m hm => absurd hm (by omega))
theorem con_X12_isKept (l : Launch) : CON l y_X12_isKept prog_14_method_135_code 3 (some .boolean) rm_X12_isKept Pre_X12_isKept Fn_X12_isKept := CON_of (by decide) rfl rfl (sa_X12_isKept l) vc_X12_isKept
def kfV : Option Nat → Int32
  | some m => nI m
  | none => -1
abbrev kfF (K : Nat → Int32) (nm : Nat) (s : Int32) : Int32 := kfV (bfI (fun m => K m = s) nm 0)

--tpl ⟨hM, _, rfl⟩ || kfF ({m}.1 66 0) ({a} 1).toNatClampNeg {1}
def Pre_X12_keeperOf : PreT := fun m as => VM m ∧ ∃ s : Int32, as = [vR 12 0, vI s]
def Fn_X12_keeperOf : FnT := fun m as => match as with
  | [_, Sum.inl s] => (some (vI (kfF (m.1 66 0) (m.1 54 0 1).toNatClampNeg s)), m)
  | _ => (none, m)
abbrev y_X12_keeperOf : MethodName := ⟨"GivenUpModel", "keeperOf", "(I)I"⟩
def P_X12_keeperOf : List StpT := [s_ic (0), s_istore 2, s_iload 2, s_aload 0, s_getR 12 0 54, s_ic (1), s_iald, s_icge 18, s_aload 0, s_getR 12 30 66, s_iload 2, s_iald, s_iload 1, s_icne 16, s_iload 2, s_iret, s_iinc 2 (1), s_goto 2, s_ic (-1), s_iret]
def pc_X12_keeperOf : Nat → Nat := fun i => [0, 1, 2, 3, 4, 7, 8, 9, 12, 13, 16, 17, 18, 19, 22, 23, 24, 27, 30, 31].getD i 0
def dl_X12_keeperOf : List (Nat × Instr × Nat) := [(0, .iconst 0, 1), (1, .istore_n 2, 1), (2, .iload_n 2, 1), (3, .aload_n 0, 1), (4, .getfield 7, 3), (7, .iconst 1, 1), (8, .iaload, 1), (9, .if_icmp .ge 21, 3), (12, .aload_n 0, 1), (13, .getfield 59, 3), (16, .iload_n 2, 1), (17, .iaload, 1), (18, .iload_n 1, 1), (19, .if_icmp .ne 5, 3), (22, .iload_n 2, 1), (23, .ireturn, 1), (24, .iinc 2 1, 3), (27, .goto (-25), 3), (30, .iconst (-1), 1), (31, .ireturn, 1)]
theorem dc_X12_keeperOf : DEC prog_14_method_137_code pc_X12_keeperOf dl_X12_keeperOf := DEC_of (by decide +kernel)
abbrev rm_X12_keeperOf : Room := { frames := 0, cells := 0, slots := 0, locals := 0 }
set_option maxRecDepth 20000 in
theorem sa_X12_keeperOf (l : Launch) : SNDALL l prog_14_method_137_code "GivenUpModel" 3 (some .int) rm_X12_keeperOf P_X12_keeperOf pc_X12_keeperOf := fun p e s m args below meth c cells slots Q D dA ad A RR hC hR => by
  have hM := RTX_room (R := rm_X12_keeperOf) hR
  exact ⟨st_iconst hC (n := 0) (x := 0) (dc_X12_keeperOf 0 (0, .iconst 0, 1) rfl rfl) rfl (by decide),
    st_istore_n hC (n := 1) (k := 2) (dc_X12_keeperOf 1 (1, .istore_n 2, 1) rfl rfl) rfl rfl (by decide),
    st_iload_n hC (n := 2) (k := 2) (dc_X12_keeperOf 2 (2, .iload_n 2, 1) rfl rfl) rfl rfl,
    st_aload_n hC (n := 3) (k := 0) (dc_X12_keeperOf 3 (3, .aload_n 0, 1) rfl rfl) rfl rfl,
    st_getR hC (n := 4) (k := 12) (j := 0) (dc_X12_keeperOf 4 (4, .getfield 7, 3) rfl rfl) rfl clf_12 (by decide) rfl (by decide) wd_1552,
    st_iconst hC (n := 5) (x := 1) (dc_X12_keeperOf 5 (7, .iconst 1, 1) rfl rfl) rfl (by decide),
    st_iald hC (n := 6) (dc_X12_keeperOf 6 (8, .iaload, 1) rfl rfl) rfl,
    st_icge hC (n := 7) (dc_X12_keeperOf 7 (9, .if_icmp .ge 21, 3) rfl rfl) rfl (by decide),
    st_aload_n hC (n := 8) (k := 0) (dc_X12_keeperOf 8 (12, .aload_n 0, 1) rfl rfl) rfl rfl,
    st_getR hC (n := 9) (k := 12) (j := 30) (dc_X12_keeperOf 9 (13, .getfield 59, 3) rfl rfl) rfl clf_12 (by decide) rfl (by decide) wd_1582,
    st_iload_n hC (n := 10) (k := 2) (dc_X12_keeperOf 10 (16, .iload_n 2, 1) rfl rfl) rfl rfl,
    st_iald hC (n := 11) (dc_X12_keeperOf 11 (17, .iaload, 1) rfl rfl) rfl,
    st_iload_n hC (n := 12) (k := 1) (dc_X12_keeperOf 12 (18, .iload_n 1, 1) rfl rfl) rfl rfl,
    st_icne hC (n := 13) (dc_X12_keeperOf 13 (19, .if_icmp .ne 5, 3) rfl rfl) rfl (by decide),
    st_iload_n hC (n := 14) (k := 2) (dc_X12_keeperOf 14 (22, .iload_n 2, 1) rfl rfl) rfl rfl,
    st_iret hC (n := 15) hR (dc_X12_keeperOf 15 (23, .ireturn, 1) rfl rfl),
    st_iinc hC (n := 16) (x := 1) (dc_X12_keeperOf 16 (24, .iinc 2 1, 3) rfl rfl) rfl (by decide) (by decide),
    st_goto hC (n := 17) (dc_X12_keeperOf 17 (27, .goto (-25), 3) rfl rfl) (by decide),
    st_iconst hC (n := 18) (x := (-1)) (dc_X12_keeperOf 18 (30, .iconst (-1), 1) rfl rfl) rfl (by decide),
    st_iret hC (n := 19) hR (dc_X12_keeperOf 19 (31, .ireturn, 1) rfl rfl), trivial⟩
set_option maxRecDepth 8000 in
theorem vc_X12_keeperOf : VC P_X12_keeperOf 3 Pre_X12_keeperOf Fn_X12_keeperOf := by
  rintro mm as hom hoa ⟨⟨ns, nm, n, hV⟩, s, rfl⟩
  refine ⟨Nat.le_of_ble_eq_true rfl, fun X h => ?_⟩
  have hnm : mm.1 54 0 1 = nI nm := hV.2.1.1
  have hnm4 : nm ≤ 4 := hV.2.1.2
  obtain ⟨R, eR⟩ : ∃ R, R = bfI (fun m => mm.1 66 0 m = s) nm 0 := ⟨_, rfl⟩
  have eF : Fn_X12_keeperOf mm [vR 12 0, vI s] = (some (vI (kfV R)), mm) := by
    show (some (vI (kfF (mm.1 66 0) (mm.1 54 0 1).toNatClampNeg s)), mm) = _
    rw [hnm, nI_clamp (show nm < 2 ^ 31 by omega), eR]
  rw [eF] at h
  have loop : ∀ k t, t + k = nm → bfI (fun m => mm.1 66 0 m = s) k t = R → X 2 [some (vR 12 0), some (vI (s)), some (vI (nI t))] [] mm := by
    intro k
    induction k with
    | zero =>
      intro t ht hR
      have ht2 : t = nm := by omega
      show X 2 [some (vR 12 0), some (vI s), some (vI (nI t))] [] mm
      refine h (fun _ => false) 3000 2 _ _ _ ?_
      refine And.intro rfl ?_
      refine br_t (by ((try simp (disch := omega) only [hnm, li, pk_mul, nI_add, nI_clamp, nI_leI, nI_ltI, nI_eq, bI_0, bI_n0, Decidable.not_not, gu_m1]); first | done | omega | assumption)) ?_
      show ((some (vI (-1)) : Option MV), mm) = _
      rw [← hR]
      exact rfl
    | succ k ih =>
      intro t ht hR
      have et : (nI t).toNatClampNeg = t := nI_clamp (by omega)
      rw [bfI] at hR
      show X 2 [some (vR 12 0), some (vI s), some (vI (nI t))] [] mm
      refine h (fun i => Nat.beq i 2) 3000 2 _ _ _ ?_
      refine And.intro rfl ?_
      refine br_f (by ((try simp (disch := omega) only [hnm, li, pk_mul, nI_add, nI_clamp, nI_leI, nI_ltI, nI_eq, bI_0, bI_n0, Decidable.not_not, gu_m1]); first | done | omega | assumption)) ?_
      refine And.intro (inb_o 4 rfl rfl rfl (by omega)) ?_
      refine brn_c (fun b13 => ?_) (fun b13 => ?_)
      · -- 13: mm.1 66 0 (nI t).toNatClampNeg = s taken
        replace b13 : ¬ (mm.1 66 0 (nI t).toNatClampNeg = s) := b13
        rw [et] at b13
        show X 2 [some (vR 12 0), some (vI s), some (vI ((nI t) + 1))] [] mm
        rw [nI_1]
        rw [if_neg b13] at hR 
        exact ih _ (by omega) hR
      · -- 13: mm.1 66 0 (nI t).toNatClampNeg = s on
        replace b13 : mm.1 66 0 (nI t).toNatClampNeg = s := b13
        rw [et] at b13
        show ((some (vI (nI t)) : Option MV), mm) = _
        rw [if_pos b13] at hR
        rw [← hR] 
        exact rfl
  show X 0 [some (vR 12 0), some (vI s), none] [] mm
  refine h (fun i => Nat.beq i 2) 3000 0 _ _ _ ?_
  show X 2 [some (vR 12 0), some (vI s), some (vI 0)] [] mm
  exact loop nm 0 (by omega) eR.symm
theorem con_X12_keeperOf (l : Launch) : CON l y_X12_keeperOf prog_14_method_137_code 3 (some .int) rm_X12_keeperOf Pre_X12_keeperOf Fn_X12_keeperOf := CON_of (by decide) rfl rfl (sa_X12_keeperOf l) vc_X12_keeperOf
/-- keepers, refused, how many -/
abbrev AS : Type := (Nat → Int32) × (Nat → Int32) × Int32
def stQ (q : AS) (s m : Nat) (out : Int32) : AS := if out = -1 then (upd q.1 m (nI s), q.2.1, q.2.2) else (if out = nI s then q.1 else upd q.1 m (nI s), upd q.2.1 out.toNatClampNeg (q.2.1 out.toNatClampNeg ||| 1 <<< (nI m &&& 31)), q.2.2 + 1)
def stO (a : Nat → Int32) (q : AS) (s m : Nat) : Int32 := if q.1 m = -1 ∨ pfP a m s (q.1 m).toNatClampNeg then q.1 m else nI s
def stA (a : Nat → Int32) (nm s : Nat) (q : AS) : Int32 := if kpP q.1 nm (nI s) then -1 else askF a (q.2.1 s) s nm
def stS (a : Nat → Int32) (nm s : Nat) (q : AS) : Bool × AS := if stA a nm s q = -1 then (false, q) else (true, stQ q s (stA a nm s q).toNatClampNeg (stO a q s (stA a nm s q).toNatClampNeg))
def rdS (a : Nat → Int32) (nm : Nat) (q : AS) : Nat → Bool × AS
  | 0 => (false, q)
  | s + 1 => ((rdS a nm q s).1 || (stS a nm s (rdS a nm q s).2).1, (stS a nm s (rdS a nm q s).2).2)
def rnS (a : Nat → Int32) (ns nm : Nat) : Nat → AS → AS
  | 0, q => q
  | f + 1, q => if (rdS a nm q ns).1 = true then rnS a ns nm f (rdS a nm q ns).2 else (rdS a nm q ns).2
/-- it holds while they ask -/
def okS (q : AS) : Prop := ∃ r : Nat → Nat, (∀ s, s < 4 → r s < 16 ∧ q.2.1 s = nI (r s)) ∧ ∀ m, m < 4 → q.1 m = -1 ∨ ∃ o, o < 4 ∧ q.1 m = nI o ∧ (r o).testBit m = false
def fl (x : Int32) : Nat := if x = -1 then 0 else 1
def pot (q : AS) : Nat := pcN (q.2.1 0).toNatClampNeg + pcN (q.2.1 1).toNatClampNeg + pcN (q.2.1 2).toNatClampNeg + pcN (q.2.1 3).toNatClampNeg + (fl (q.1 0) + fl (q.1 1) + fl (q.1 2) + fl (q.1 3))
theorem pc16 : ∀ r, r < 16 → pcN r ≤ 4 := by decide
theorem pc_or : ∀ r, r < 16 → ∀ m, m < 4 → r.testBit m = false → pcN (r ||| 2 ^ m) = pcN r + 1 ∧ r ||| 2 ^ m < 16 := by decide
theorem or_tb : ∀ r, r < 16 → ∀ m, m < 4 → ∀ k, k < 4 → m ≠ k → r.testBit k = false → (r ||| 2 ^ m).testBit k = false := by decide
theorem fl_le (x : Int32) : fl x ≤ 1 := by unfold fl; split <;> omega
theorem pot_le {q : AS} (h : okS q) : pot q ≤ 20 := by
  obtain ⟨r, h1, -⟩ := h
  have e : ∀ s, s < 4 → pcN (q.2.1 s).toNatClampNeg ≤ 4 := fun s hs => by
    rw [(h1 s hs).2, nI_clamp (by have := (h1 s hs).1; omega)]
    exact pc16 _ (h1 s hs).1
  have := e 0 (by omega); have := e 1 (by omega); have := e 2 (by omega); have := e 3 (by omega)
  have := fl_le (q.1 0); have := fl_le (q.1 1); have := fl_le (q.1 2); have := fl_le (q.1 3)
  unfold pot
  omega
theorem pot_R {K R R' : Nat → Int32} {c c' : Int32} {j : Nat} (hj : j < 4) (h : pcN (R' j).toNatClampNeg = pcN (R j).toNatClampNeg + 1) (hn : ∀ i, i ≠ j → R' i = R i) : pot (K, R', c') = pot (K, R, c) + 1 := by
  unfold pot
  show pcN (R' 0).toNatClampNeg + pcN (R' 1).toNatClampNeg + pcN (R' 2).toNatClampNeg + pcN (R' 3).toNatClampNeg + (fl (K 0) + fl (K 1) + fl (K 2) + fl (K 3)) = pcN (R 0).toNatClampNeg + pcN (R 1).toNatClampNeg + pcN (R 2).toNatClampNeg + pcN (R 3).toNatClampNeg + (fl (K 0) + fl (K 1) + fl (K 2) + fl (K 3)) + 1
  have : j = 0 ∨ j = 1 ∨ j = 2 ∨ j = 3 := by omega
  rcases this with rfl | rfl | rfl | rfl
  · rw [hn 1 (by omega), hn 2 (by omega), hn 3 (by omega)]; omega
  · rw [hn 0 (by omega), hn 2 (by omega), hn 3 (by omega)]; omega
  · rw [hn 0 (by omega), hn 1 (by omega), hn 3 (by omega)]; omega
  · rw [hn 0 (by omega), hn 1 (by omega), hn 2 (by omega)]; omega
theorem pot_K {K K' R : Nat → Int32} {c c' : Int32} {j : Nat} (hj : j < 4) (h : fl (K' j) = 1) (hn : ∀ i, i ≠ j → K' i = K i) : pot (K', R, c') = pot (K, R, c) + (1 - fl (K j)) := by
  unfold pot
  show pcN (R 0).toNatClampNeg + pcN (R 1).toNatClampNeg + pcN (R 2).toNatClampNeg + pcN (R 3).toNatClampNeg + (fl (K' 0) + fl (K' 1) + fl (K' 2) + fl (K' 3)) = pcN (R 0).toNatClampNeg + pcN (R 1).toNatClampNeg + pcN (R 2).toNatClampNeg + pcN (R 3).toNatClampNeg + (fl (K 0) + fl (K 1) + fl (K 2) + fl (K 3)) + (1 - fl (K j))
  have := fl_le (K j)
  have : j = 0 ∨ j = 1 ∨ j = 2 ∨ j = 3 := by omega
  rcases this with rfl | rfl | rfl | rfl
  · rw [hn 1 (by omega), hn 2 (by omega), hn 3 (by omega)]; omega
  · rw [hn 0 (by omega), hn 2 (by omega), hn 3 (by omega)]; omega
  · rw [hn 0 (by omega), hn 1 (by omega), hn 3 (by omega)]; omega
  · rw [hn 0 (by omega), hn 1 (by omega), hn 2 (by omega)]; omega
theorem nI_n1 {n : Nat} (h : n < 2 ^ 31) : ¬ nI n = -1 := fun z => (gu_m1 h).mp z
theorem fl_nI {n : Nat} (h : n < 4) : fl (nI n) = 1 := if_neg (nI_n1 (by omega))
/-- a step keeps it, and goes up -/
theorem stQ_ok {q : AS} {s m : Nat} {out : Int32} (h : okS q) (hs : s < 4) (hm : m < 4) (hr : ¬ inS (q.2.1 s) (nI m)) (hk : ¬ q.1 m = nI s) (ho : out = q.1 m ∨ out = nI s) : okS (stQ q s m out) ∧ pot q < pot (stQ q s m out) := by
  obtain ⟨r, h1, h2⟩ := h
  obtain ⟨K, R, c⟩ := q
  dsimp only at hr hk h1 h2 ho
  have hrs : (r s).testBit m = false := by
    have := (inS_nI (s := r s) (j := m) (by have := (h1 s hs).1; omega) (by omega))
    rw [← (h1 s hs).2] at this
    cases e : (r s).testBit m with
    | false => rfl
    | true => exact absurd (this.mpr e) hr
  by_cases h0 : out = -1
  · have e : stQ (K, R, c) s m out = (upd K m (nI s), R, c) := if_pos h0
    have hKm : K m = -1 := by
      rcases ho with e | e
      · rw [← e]; exact h0
      · exact absurd (e.symm.trans h0) (nI_n1 (by omega))
    rw [e]
    refine ⟨⟨r, h1, fun k hk4 => ?_⟩, ?_⟩
    · by_cases hkm : k = m
      · subst hkm
        exact Or.inr ⟨s, hs, upd_eq, hrs⟩
      · exact (h2 k hk4).imp (fun z => (upd_ne hkm).trans z) (fun ⟨o, a1, a2, a3⟩ => ⟨o, a1, (upd_ne hkm).trans a2, a3⟩)
    · rw [pot_K (K := K) (c := c) (j := m) hm (by rw [upd_eq]; exact fl_nI hs) (fun i hi => upd_ne hi), hKm]
      show pot (K, R, c) < pot (K, R, c) + (1 - 0)
      omega
  · have e : stQ (K, R, c) s m out = (if out = nI s then K else upd K m (nI s), upd R out.toNatClampNeg (R out.toNatClampNeg ||| 1 <<< (nI m &&& 31)), c + 1) := if_neg h0
    -- who is refused
    obtain ⟨o, ho4, eo, hro, hcase⟩ : ∃ o, o < 4 ∧ out = nI o ∧ (r o).testBit m = false ∧ (out = nI s ∨ (o ≠ s ∧ ¬ out = nI s ∧ K m = nI o)) := by
      by_cases hos : out = nI s
      · exact ⟨s, hs, hos, hrs, Or.inl hos⟩
      · have eK : out = K m := ho.elim id (fun z => absurd z hos)
        rcases h2 m hm with z | ⟨o, a1, a2, a3⟩
        · exact absurd (eK.trans z) h0
        · exact ⟨o, a1, eK.trans a2, a3, Or.inr ⟨fun z => hos (by rw [eK, a2, z]), hos, a2⟩⟩
    have eoc : out.toNatClampNeg = o := by rw [eo, nI_clamp (by omega)]
    have hpc := pc_or (r o) (h1 o ho4).1 m hm hro
    have eR : R o ||| 1 <<< (nI m &&& 31) = nI (r o ||| 2 ^ m) := by rw [(h1 o ho4).2, nIbit (by omega), nIor]
    rw [e, eoc, eR]
    refine ⟨⟨fun k => if k = o then r o ||| 2 ^ m else r k, fun k hk4 => ?_, fun k hk4 => ?_⟩, ?_⟩
    · by_cases hko : k = o
      · subst hko
        simp only [if_pos trivial]
        exact ⟨hpc.2, upd_eq⟩
      · simp only [if_neg hko]
        exact ⟨(h1 k hk4).1, (upd_ne hko).trans (h1 k hk4).2⟩
    · -- the keepers
      have old : k ≠ m ∨ ¬ K m = nI o → (K k = -1 ∨ ∃ p, p < 4 ∧ K k = nI p ∧ ((fun k => if k = o then r o ||| 2 ^ m else r k) p).testBit k = false) := by
        intro hc
        rcases h2 k hk4 with z | ⟨p, a1, a2, a3⟩
        · exact Or.inl z
        · refine Or.inr ⟨p, a1, a2, ?_⟩
          by_cases hpo : p = o
          · subst hpo
            have hmk : m ≠ k := fun z => hc.elim (fun y => y z.symm) (fun y => y (by rw [z]; exact a2))
            simp only [if_pos trivial]
            exact or_tb _ (h1 p a1).1 m hm k hk4 hmk a3
          · simp only [if_neg hpo]
            exact a3
      rcases hcase with hos | ⟨hne, hos, hKm⟩
      · rw [if_pos hos]
        refine old (Or.inr (fun z => hk ?_))
        rw [z, ← eo, hos]
      · rw [if_neg hos]
        by_cases hkm : k = m
        · subst hkm
          refine Or.inr ⟨s, hs, upd_eq, ?_⟩
          simp only [if_neg (Ne.symm hne)]
          exact hrs
        · rcases old (Or.inl hkm) with z | ⟨p, a1, a2, a3⟩
          · exact Or.inl ((upd_ne hkm).trans z)
          · exact Or.inr ⟨p, a1, (upd_ne hkm).trans a2, a3⟩
    · have hp1 : ∀ K' : Nat → Int32, pot (K', upd R o (nI (r o ||| 2 ^ m)), c + 1) = pot (K', R, c) + 1 := fun K' => by
        refine pot_R ho4 ?_ (fun i hi => upd_ne hi)
        rw [upd_eq, nI_clamp (by have := hpc.2; omega), hpc.1, (h1 o ho4).2, nI_clamp (by have := (h1 o ho4).1; omega)]
      rw [hp1]
      rcases hcase with hos | ⟨hne, hos, hKm⟩
      · rw [if_pos hos]; omega
      · rw [if_neg hos, pot_K (K := K) (c := c) (j := m) hm (by rw [upd_eq]; exact fl_nI hs) (fun i hi => upd_ne hi)]
        omega
theorem stS_ok {a : Nat → Int32} {nm s : Nat} {q : AS} (hn : nm ≤ 4) (h : okS q) (hs : s < 4) : okS (stS a nm s q).2 ∧ pot q ≤ pot (stS a nm s q).2 ∧ ((stS a nm s q).1 = true → pot q < pot (stS a nm s q).2) := by
  unfold stS
  by_cases h0 : stA a nm s q = -1
  · rw [if_pos h0]
    exact ⟨h, Nat.le_refl _, fun z => Bool.noConfusion z⟩
  · rw [if_neg h0]
    have hk : ¬ kpP q.1 nm (nI s) := fun z => h0 (if_pos z)
    have e : stA a nm s q = askF a (q.2.1 s) s nm := if_neg hk
    rcases askF_in a (q.2.1 s) s nm with z | ⟨m, hm, em, hb⟩
    · exact absurd (e.trans z) h0
    · rw [e, em, nI_clamp (by omega)]
      have hkm : ¬ q.1 m = nI s := fun z => hk (fun y => y m hm z)
      have := stQ_ok (out := stO a q s m) h hs (by omega) hb hkm (by unfold stO; split; exact Or.inl rfl; exact Or.inr rfl)
      exact ⟨this.1, Nat.le_of_lt this.2, fun _ => this.2⟩
theorem rdS_ok {a : Nat → Int32} {nm : Nat} {q : AS} (hn : nm ≤ 4) (h : okS q) : ∀ s, s ≤ 4 → okS (rdS a nm q s).2 ∧ pot q ≤ pot (rdS a nm q s).2 ∧ ((rdS a nm q s).1 = true → pot q < pot (rdS a nm q s).2)
  | 0, _ => ⟨h, Nat.le_refl _, fun z => Bool.noConfusion z⟩
  | s + 1, hs => by
    obtain ⟨h1, h2, h3⟩ := rdS_ok hn h s (by omega)
    obtain ⟨g1, g2, g3⟩ := stS_ok (a := a) (s := s) hn h1 (by omega)
    refine ⟨g1, Nat.le_trans h2 g2, fun z => ?_⟩
    rw [rdS, Bool.or_eq_true] at z
    rcases z with z | z
    · exact Nat.lt_of_lt_of_le (h3 z) g2
    · exact Nat.lt_of_le_of_lt h2 (g3 z)
/-- the memory while they ask -/
def asM (N : MM) (q : AS) : MM := mRow (mRow (mRow N 12 0 (upd (N.1 12 0) 32 q.2.2)) 66 0 q.1) 67 0 q.2.1
theorem as_K (N : MM) (K R K' : Nat → Int32) (c : Int32) : mRow (asM N (K, R, c)) 66 0 K' = asM N (K', R, c) := by
  show mRow (mRow (mRow (mRow N 12 0 _) 66 0 K) 67 0 R) 66 0 K' = mRow (mRow (mRow N 12 0 _) 66 0 K') 67 0 R
  rw [mRow_comm (by decide), mRow2]
theorem as_R (N : MM) (K R R' : Nat → Int32) (c : Int32) : mRow (asM N (K, R, c)) 67 0 R' = asM N (K, R', c) := by
  show mRow (mRow (mRow (mRow N 12 0 _) 66 0 K) 67 0 R) 67 0 R' = mRow (mRow (mRow N 12 0 _) 66 0 K) 67 0 R'
  rw [mRow2]
theorem as_c (N : MM) (K R : Nat → Int32) (c c' : Int32) : mRow (asM N (K, R, c)) 12 0 (upd (upd (N.1 12 0) 32 c) 32 c') = asM N (K, R, c') := by
  show mRow (mRow (mRow (mRow N 12 0 _) 66 0 K) 67 0 R) 12 0 _ = mRow (mRow (mRow N 12 0 (upd (N.1 12 0) 32 c')) 66 0 K) 67 0 R
  rw [mRow_comm (by decide), mRow_comm (m := mRow N 12 0 _) (by decide), mRow2, upd2]
def iniR (o : Nat → Int32) (v : Int32) : Nat → (Nat → Int32)
  | 0 => o
  | k + 1 => upd (iniR o v k) k v
theorem iniR_at (o : Nat → Int32) (v : Int32) : ∀ k j, j < k → iniR o v k j = v
  | 0, _, h => absurd h (by omega)
  | k + 1, j, h => by
    rw [iniR]
    by_cases hj : j = k
    · rw [hj, upd_eq]
    · rw [upd_ne hj]; exact iniR_at o v k j (by omega)
def as0 (m : MM) : AS := (iniR (m.1 66 0) (-1) 4, iniR (m.1 67 0) 0 4, 0)
theorem as0_ok (m : MM) : okS (as0 m) := ⟨fun _ => 0, fun s hs => ⟨Nat.succ_pos 15, iniR_at _ _ _ _ hs⟩, fun k hk => Or.inl (iniR_at _ _ _ _ hk)⟩
/-- when all have asked -/
def asF (m : MM) : AS := rnS (m.1 54 0) (m.1 54 0 0).toNatClampNeg (m.1 54 0 1).toNatClampNeg 32 (as0 m)

--tpl ⟨hM, rfl⟩ ||  || asM {m} (asF {m})
def Pre_X12_allAsk : PreT := fun m as => VM m ∧ as = [vR 12 0]
def Fn_X12_allAsk : FnT := fun m _ => (none, asM m (asF m))
abbrev y_X12_allAsk : MethodName := ⟨"GivenUpModel", "allAsk", "()V"⟩
def P_X12_allAsk : List StpT := [s_ic (0), s_istore 1, s_iload 1, s_ic (4), s_icge 17, s_aload 0, s_getR 12 30 66, s_iload 1, s_ic (-1), s_iast, s_aload 0, s_getR 12 31 67, s_iload 1, s_ic (0), s_iast, s_iinc 1 (1), s_goto 2, s_aload 0, s_ic (0), s_putI 12 32, s_ic (1), s_istore 1, s_iload 1, s_ifeq 97, s_ic (0), s_istore 1, s_ic (0), s_istore 2, s_iload 2, s_aload 0, s_getR 12 0 54, s_ic (0), s_iald, s_icge 96, s_aload 0, s_iload 2, s_callV 12 1 Pre_X12_isKept Fn_X12_isKept, s_ifeq 40, s_ic (-1), s_goto 43, s_aload 0, s_iload 2, s_callV 12 1 Pre_X12_askedBy Fn_X12_askedBy, s_istore 3, s_iload 3, s_ic (-1), s_icne 48, s_goto 94, s_ic (1), s_istore 1, s_aload 0, s_iload 3, s_iload 2, s_aload 0, s_getR 12 30 66, s_iload 3, s_iald, s_callV 12 3 Pre_X12_prefers Fn_X12_prefers, s_ifeq 64, s_aload 0, s_getR 12 30 66, s_iload 3, s_iald, s_goto 65, s_iload 2, s_istore 4, s_iload 4, s_iload 2, s_iceq 74, s_aload 0, s_getR 12 30 66, s_iload 3, s_iload 2, s_iast, s_iload 4, s_ic (-1), s_icne 78, s_goto 94, s_aload 0, s_getR 12 31 67, s_iload 4, s_dup2, s_iald, s_ic (1), s_iload 3, s_ishl, s_ior, s_iast, s_aload 0, s_dup, s_getI 12 32, s_ic (1), s_iadd, s_putI 12 32, s_iinc 2 (1), s_goto 28, s_goto 22, s_vret]
def pc_X12_allAsk : Nat → Nat := fun i => [0, 1, 2, 3, 4, 7, 8, 11, 12, 13, 14, 15, 18, 19, 20, 21, 24, 27, 28, 29, 32, 33, 34, 35, 38, 39, 40, 41, 42, 43, 44, 47, 48, 49, 52, 53, 54, 57, 60, 61, 64, 65, 66, 69, 70, 71, 72, 75, 78, 79, 80, 81, 82, 83, 84, 87, 88, 89, 92, 95, 96, 99, 100, 101, 104, 105, 107, 109, 110, 113, 114, 117, 118, 119, 120, 122, 123, 126, 129, 130, 133, 135, 136, 137, 138, 139, 140, 141, 142, 143, 144, 147, 148, 149, 152, 155, 158, 161].getD i 0
def dl_X12_allAsk : List (Nat × Instr × Nat) := [(0, .iconst 0, 1), (1, .istore_n 1, 1), (2, .iload_n 1, 1), (3, .iconst 4, 1), (4, .if_icmp .ge 23, 3), (7, .aload_n 0, 1), (8, .getfield 59, 3), (11, .iload_n 1, 1), (12, .iconst (-1), 1), (13, .iastore, 1), (14, .aload_n 0, 1), (15, .getfield 62, 3), (18, .iload_n 1, 1), (19, .iconst 0, 1), (20, .iastore, 1), (21, .iinc 1 1, 3), (24, .goto (-22), 3), (27, .aload_n 0, 1), (28, .iconst 0, 1), (29, .putfield 422, 3), (32, .iconst 1, 1), (33, .istore_n 1, 1), (34, .iload_n 1, 1), (35, .ifCond .eq 126, 3), (38, .iconst 0, 1), (39, .istore_n 1, 1), (40, .iconst 0, 1), (41, .istore_n 2, 1), (42, .iload_n 2, 1), (43, .aload_n 0, 1), (44, .getfield 7, 3), (47, .iconst 0, 1), (48, .iaload, 1), (49, .if_icmp .ge 109, 3), (52, .aload_n 0, 1), (53, .iload_n 2, 1), (54, .invokevirtual 425, 3), (57, .ifCond .eq 7, 3), (60, .iconst (-1), 1), (61, .goto 8, 3), (64, .aload_n 0, 1), (65, .iload_n 2, 1), (66, .invokevirtual 428, 3), (69, .istore_n 3, 1), (70, .iload_n 3, 1), (71, .iconst (-1), 1), (72, .if_icmp .ne 6, 3), (75, .goto 77, 3), (78, .iconst 1, 1), (79, .istore_n 1, 1), (80, .aload_n 0, 1), (81, .iload_n 3, 1), (82, .iload_n 2, 1), (83, .aload_n 0, 1), (84, .getfield 59, 3), (87, .iload_n 3, 1), (88, .iaload, 1), (89, .invokevirtual 364, 3), (92, .ifCond .eq 12, 3), (95, .aload_n 0, 1), (96, .getfield 59, 3), (99, .iload_n 3, 1), (100, .iaload, 1), (101, .goto 4, 3), (104, .iload_n 2, 1), (105, .istore 4, 2), (107, .iload 4, 2), (109, .iload_n 2, 1), (110, .if_icmp .eq 10, 3), (113, .aload_n 0, 1), (114, .getfield 59, 3), (117, .iload_n 3, 1), (118, .iload_n 2, 1), (119, .iastore, 1), (120, .iload 4, 2), (122, .iconst (-1), 1), (123, .if_icmp .ne 6, 3), (126, .goto 26, 3), (129, .aload_n 0, 1), (130, .getfield 62, 3), (133, .iload 4, 2), (135, .dup2, 1), (136, .iaload, 1), (137, .iconst 1, 1), (138, .iload_n 3, 1), (139, .ishl, 1), (140, .ior, 1), (141, .iastore, 1), (142, .aload_n 0, 1), (143, .dup, 1), (144, .getfield 422, 3), (147, .iconst 1, 1), (148, .iadd, 1), (149, .putfield 422, 3), (152, .iinc 2 1, 3), (155, .goto (-113), 3), (158, .goto (-124), 3), (161, .return_, 1)]
theorem dc_X12_allAsk : DEC prog_14_method_136_code pc_X12_allAsk dl_X12_allAsk := DEC_of (by decide +kernel)
abbrev rm_X12_allAsk : Room := { frames := 5, cells := 0, slots := 0, locals := 111 }
set_option maxRecDepth 20000 in
theorem sa_X12_allAsk (l : Launch) : SNDALL l prog_14_method_136_code "GivenUpModel" 5 none rm_X12_allAsk P_X12_allAsk pc_X12_allAsk := fun p e s m args below meth c cells slots Q D dA ad A RR hC hR => by
  have hM := RTX_room (R := rm_X12_allAsk) hR
  exact ⟨st_iconst hC (n := 0) (x := 0) (dc_X12_allAsk 0 (0, .iconst 0, 1) rfl rfl) rfl (by decide),
    st_istore_n hC (n := 1) (k := 1) (dc_X12_allAsk 1 (1, .istore_n 1, 1) rfl rfl) rfl rfl (by decide),
    st_iload_n hC (n := 2) (k := 1) (dc_X12_allAsk 2 (2, .iload_n 1, 1) rfl rfl) rfl rfl,
    st_iconst hC (n := 3) (x := 4) (dc_X12_allAsk 3 (3, .iconst 4, 1) rfl rfl) rfl (by decide),
    st_icge hC (n := 4) (dc_X12_allAsk 4 (4, .if_icmp .ge 23, 3) rfl rfl) rfl (by decide),
    st_aload_n hC (n := 5) (k := 0) (dc_X12_allAsk 5 (7, .aload_n 0, 1) rfl rfl) rfl rfl,
    st_getR hC (n := 6) (k := 12) (j := 30) (dc_X12_allAsk 6 (8, .getfield 59, 3) rfl rfl) rfl clf_12 (by decide) rfl (by decide) wd_1582,
    st_iload_n hC (n := 7) (k := 1) (dc_X12_allAsk 7 (11, .iload_n 1, 1) rfl rfl) rfl rfl,
    st_iconst hC (n := 8) (x := (-1)) (dc_X12_allAsk 8 (12, .iconst (-1), 1) rfl rfl) rfl (by decide),
    st_iast hC (n := 9) (dc_X12_allAsk 9 (13, .iastore, 1) rfl rfl) rfl,
    st_aload_n hC (n := 10) (k := 0) (dc_X12_allAsk 10 (14, .aload_n 0, 1) rfl rfl) rfl rfl,
    st_getR hC (n := 11) (k := 12) (j := 31) (dc_X12_allAsk 11 (15, .getfield 62, 3) rfl rfl) rfl clf_12 (by decide) rfl (by decide) wd_1583,
    st_iload_n hC (n := 12) (k := 1) (dc_X12_allAsk 12 (18, .iload_n 1, 1) rfl rfl) rfl rfl,
    st_iconst hC (n := 13) (x := 0) (dc_X12_allAsk 13 (19, .iconst 0, 1) rfl rfl) rfl (by decide),
    st_iast hC (n := 14) (dc_X12_allAsk 14 (20, .iastore, 1) rfl rfl) rfl,
    st_iinc hC (n := 15) (x := 1) (dc_X12_allAsk 15 (21, .iinc 1 1, 3) rfl rfl) rfl (by decide) (by decide),
    st_goto hC (n := 16) (dc_X12_allAsk 16 (24, .goto (-22), 3) rfl rfl) (by decide),
    st_aload_n hC (n := 17) (k := 0) (dc_X12_allAsk 17 (27, .aload_n 0, 1) rfl rfl) rfl rfl,
    st_iconst hC (n := 18) (x := 0) (dc_X12_allAsk 18 (28, .iconst 0, 1) rfl rfl) rfl (by decide),
    st_putI hC (n := 19) (k := 12) (j := 32) (dc_X12_allAsk 19 (29, .putfield 422, 3) rfl rfl) rfl clf_12 (by decide) rfl rfl rfl wd_1584,
    st_iconst hC (n := 20) (x := 1) (dc_X12_allAsk 20 (32, .iconst 1, 1) rfl rfl) rfl (by decide),
    st_istore_n hC (n := 21) (k := 1) (dc_X12_allAsk 21 (33, .istore_n 1, 1) rfl rfl) rfl rfl (by decide),
    st_iload_n hC (n := 22) (k := 1) (dc_X12_allAsk 22 (34, .iload_n 1, 1) rfl rfl) rfl rfl,
    st_ifeq hC (n := 23) (dc_X12_allAsk 23 (35, .ifCond .eq 126, 3) rfl rfl) rfl (by decide),
    st_iconst hC (n := 24) (x := 0) (dc_X12_allAsk 24 (38, .iconst 0, 1) rfl rfl) rfl (by decide),
    st_istore_n hC (n := 25) (k := 1) (dc_X12_allAsk 25 (39, .istore_n 1, 1) rfl rfl) rfl rfl (by decide),
    st_iconst hC (n := 26) (x := 0) (dc_X12_allAsk 26 (40, .iconst 0, 1) rfl rfl) rfl (by decide),
    st_istore_n hC (n := 27) (k := 2) (dc_X12_allAsk 27 (41, .istore_n 2, 1) rfl rfl) rfl rfl (by decide),
    st_iload_n hC (n := 28) (k := 2) (dc_X12_allAsk 28 (42, .iload_n 2, 1) rfl rfl) rfl rfl,
    st_aload_n hC (n := 29) (k := 0) (dc_X12_allAsk 29 (43, .aload_n 0, 1) rfl rfl) rfl rfl,
    st_getR hC (n := 30) (k := 12) (j := 0) (dc_X12_allAsk 30 (44, .getfield 7, 3) rfl rfl) rfl clf_12 (by decide) rfl (by decide) wd_1552,
    st_iconst hC (n := 31) (x := 0) (dc_X12_allAsk 31 (47, .iconst 0, 1) rfl rfl) rfl (by decide),
    st_iald hC (n := 32) (dc_X12_allAsk 32 (48, .iaload, 1) rfl rfl) rfl,
    st_icge hC (n := 33) (dc_X12_allAsk 33 (49, .if_icmp .ge 109, 3) rfl rfl) rfl (by decide),
    st_aload_n hC (n := 34) (k := 0) (dc_X12_allAsk 34 (52, .aload_n 0, 1) rfl rfl) rfl rfl,
    st_iload_n hC (n := 35) (k := 2) (dc_X12_allAsk 35 (53, .iload_n 2, 1) rfl rfl) rfl rfl,
    st_callV hC (n := 36) (k := 12) (na := 1) (con_X12_isKept l) (dc_X12_allAsk 36 (54, .invokevirtual 425, 3) rfl rfl) rfl wd_2219 wd_160 (by decide) ⟨rfl, rfl, by decide, by decide⟩ hM wd_2216 wd_2218 wd_128 clf_12,
    st_ifeq hC (n := 37) (dc_X12_allAsk 37 (57, .ifCond .eq 7, 3) rfl rfl) rfl (by decide),
    st_iconst hC (n := 38) (x := (-1)) (dc_X12_allAsk 38 (60, .iconst (-1), 1) rfl rfl) rfl (by decide),
    st_goto hC (n := 39) (dc_X12_allAsk 39 (61, .goto 8, 3) rfl rfl) (by decide),
    st_aload_n hC (n := 40) (k := 0) (dc_X12_allAsk 40 (64, .aload_n 0, 1) rfl rfl) rfl rfl,
    st_iload_n hC (n := 41) (k := 2) (dc_X12_allAsk 41 (65, .iload_n 2, 1) rfl rfl) rfl rfl,
    st_callV hC (n := 42) (k := 12) (na := 1) (con_X12_askedBy l) (dc_X12_allAsk 42 (66, .invokevirtual 428, 3) rfl rfl) rfl wd_2223 wd_160 (by decide) ⟨rfl, rfl, by decide, by decide⟩ hM wd_2220 wd_2222 wd_129 clf_12,
    st_istore_n hC (n := 43) (k := 3) (dc_X12_allAsk 43 (69, .istore_n 3, 1) rfl rfl) rfl rfl (by decide),
    st_iload_n hC (n := 44) (k := 3) (dc_X12_allAsk 44 (70, .iload_n 3, 1) rfl rfl) rfl rfl,
    st_iconst hC (n := 45) (x := (-1)) (dc_X12_allAsk 45 (71, .iconst (-1), 1) rfl rfl) rfl (by decide),
    st_icne hC (n := 46) (dc_X12_allAsk 46 (72, .if_icmp .ne 6, 3) rfl rfl) rfl (by decide),
    st_goto hC (n := 47) (dc_X12_allAsk 47 (75, .goto 77, 3) rfl rfl) (by decide),
    st_iconst hC (n := 48) (x := 1) (dc_X12_allAsk 48 (78, .iconst 1, 1) rfl rfl) rfl (by decide),
    st_istore_n hC (n := 49) (k := 1) (dc_X12_allAsk 49 (79, .istore_n 1, 1) rfl rfl) rfl rfl (by decide),
    st_aload_n hC (n := 50) (k := 0) (dc_X12_allAsk 50 (80, .aload_n 0, 1) rfl rfl) rfl rfl,
    st_iload_n hC (n := 51) (k := 3) (dc_X12_allAsk 51 (81, .iload_n 3, 1) rfl rfl) rfl rfl,
    st_iload_n hC (n := 52) (k := 2) (dc_X12_allAsk 52 (82, .iload_n 2, 1) rfl rfl) rfl rfl,
    st_aload_n hC (n := 53) (k := 0) (dc_X12_allAsk 53 (83, .aload_n 0, 1) rfl rfl) rfl rfl,
    st_getR hC (n := 54) (k := 12) (j := 30) (dc_X12_allAsk 54 (84, .getfield 59, 3) rfl rfl) rfl clf_12 (by decide) rfl (by decide) wd_1582,
    st_iload_n hC (n := 55) (k := 3) (dc_X12_allAsk 55 (87, .iload_n 3, 1) rfl rfl) rfl rfl,
    st_iald hC (n := 56) (dc_X12_allAsk 56 (88, .iaload, 1) rfl rfl) rfl,
    st_callV hC (n := 57) (k := 12) (na := 3) (con_X12_prefers l) (dc_X12_allAsk 57 (89, .invokevirtual 364, 3) rfl rfl) rfl wd_2086 wd_160 (by decide) ⟨rfl, rfl, by decide, by decide⟩ hM wd_2083 wd_2085 wd_115 clf_12,
    st_ifeq hC (n := 58) (dc_X12_allAsk 58 (92, .ifCond .eq 12, 3) rfl rfl) rfl (by decide),
    st_aload_n hC (n := 59) (k := 0) (dc_X12_allAsk 59 (95, .aload_n 0, 1) rfl rfl) rfl rfl,
    st_getR hC (n := 60) (k := 12) (j := 30) (dc_X12_allAsk 60 (96, .getfield 59, 3) rfl rfl) rfl clf_12 (by decide) rfl (by decide) wd_1582,
    st_iload_n hC (n := 61) (k := 3) (dc_X12_allAsk 61 (99, .iload_n 3, 1) rfl rfl) rfl rfl,
    st_iald hC (n := 62) (dc_X12_allAsk 62 (100, .iaload, 1) rfl rfl) rfl,
    st_goto hC (n := 63) (dc_X12_allAsk 63 (101, .goto 4, 3) rfl rfl) (by decide),
    st_iload_n hC (n := 64) (k := 2) (dc_X12_allAsk 64 (104, .iload_n 2, 1) rfl rfl) rfl rfl,
    st_istore hC (n := 65) (dc_X12_allAsk 65 (105, .istore 4, 2) rfl rfl) rfl (by decide),
    st_iload hC (n := 66) (dc_X12_allAsk 66 (107, .iload 4, 2) rfl rfl) rfl,
    st_iload_n hC (n := 67) (k := 2) (dc_X12_allAsk 67 (109, .iload_n 2, 1) rfl rfl) rfl rfl,
    st_iceq hC (n := 68) (dc_X12_allAsk 68 (110, .if_icmp .eq 10, 3) rfl rfl) rfl (by decide),
    st_aload_n hC (n := 69) (k := 0) (dc_X12_allAsk 69 (113, .aload_n 0, 1) rfl rfl) rfl rfl,
    st_getR hC (n := 70) (k := 12) (j := 30) (dc_X12_allAsk 70 (114, .getfield 59, 3) rfl rfl) rfl clf_12 (by decide) rfl (by decide) wd_1582,
    st_iload_n hC (n := 71) (k := 3) (dc_X12_allAsk 71 (117, .iload_n 3, 1) rfl rfl) rfl rfl,
    st_iload_n hC (n := 72) (k := 2) (dc_X12_allAsk 72 (118, .iload_n 2, 1) rfl rfl) rfl rfl,
    st_iast hC (n := 73) (dc_X12_allAsk 73 (119, .iastore, 1) rfl rfl) rfl,
    st_iload hC (n := 74) (dc_X12_allAsk 74 (120, .iload 4, 2) rfl rfl) rfl,
    st_iconst hC (n := 75) (x := (-1)) (dc_X12_allAsk 75 (122, .iconst (-1), 1) rfl rfl) rfl (by decide),
    st_icne hC (n := 76) (dc_X12_allAsk 76 (123, .if_icmp .ne 6, 3) rfl rfl) rfl (by decide),
    st_goto hC (n := 77) (dc_X12_allAsk 77 (126, .goto 26, 3) rfl rfl) (by decide),
    st_aload_n hC (n := 78) (k := 0) (dc_X12_allAsk 78 (129, .aload_n 0, 1) rfl rfl) rfl rfl,
    st_getR hC (n := 79) (k := 12) (j := 31) (dc_X12_allAsk 79 (130, .getfield 62, 3) rfl rfl) rfl clf_12 (by decide) rfl (by decide) wd_1583,
    st_iload hC (n := 80) (dc_X12_allAsk 80 (133, .iload 4, 2) rfl rfl) rfl,
    st_dup2 hC (n := 81) (dc_X12_allAsk 81 (135, .dup2, 1) rfl rfl) rfl,
    st_iald hC (n := 82) (dc_X12_allAsk 82 (136, .iaload, 1) rfl rfl) rfl,
    st_iconst hC (n := 83) (x := 1) (dc_X12_allAsk 83 (137, .iconst 1, 1) rfl rfl) rfl (by decide),
    st_iload_n hC (n := 84) (k := 3) (dc_X12_allAsk 84 (138, .iload_n 3, 1) rfl rfl) rfl rfl,
    st_ishl hC (n := 85) (dc_X12_allAsk 85 (139, .ishl, 1) rfl rfl) rfl,
    st_ior hC (n := 86) (dc_X12_allAsk 86 (140, .ior, 1) rfl rfl) rfl,
    st_iast hC (n := 87) (dc_X12_allAsk 87 (141, .iastore, 1) rfl rfl) rfl,
    st_aload_n hC (n := 88) (k := 0) (dc_X12_allAsk 88 (142, .aload_n 0, 1) rfl rfl) rfl rfl,
    st_dup hC (n := 89) (dc_X12_allAsk 89 (143, .dup, 1) rfl rfl) rfl,
    st_getI hC (n := 90) (k := 12) (j := 32) (dc_X12_allAsk 90 (144, .getfield 422, 3) rfl rfl) rfl clf_12 (by decide) rfl wd_1584,
    st_iconst hC (n := 91) (x := 1) (dc_X12_allAsk 91 (147, .iconst 1, 1) rfl rfl) rfl (by decide),
    st_iadd hC (n := 92) (dc_X12_allAsk 92 (148, .iadd, 1) rfl rfl) rfl,
    st_putI hC (n := 93) (k := 12) (j := 32) (dc_X12_allAsk 93 (149, .putfield 422, 3) rfl rfl) rfl clf_12 (by decide) rfl rfl rfl wd_1584,
    st_iinc hC (n := 94) (x := 1) (dc_X12_allAsk 94 (152, .iinc 2 1, 3) rfl rfl) rfl (by decide) (by decide),
    st_goto hC (n := 95) (dc_X12_allAsk 95 (155, .goto (-113), 3) rfl rfl) (by decide),
    st_goto hC (n := 96) (dc_X12_allAsk 96 (158, .goto (-124), 3) rfl rfl) (by decide),
    st_vret hC (n := 97) hR (dc_X12_allAsk 97 (161, .return_, 1) rfl rfl), trivial⟩
set_option maxRecDepth 8000 in
theorem vc_X12_allAsk : VC P_X12_allAsk 5 Pre_X12_allAsk Fn_X12_allAsk := by
  rintro mm as hom hoa ⟨⟨ns, nm, n, hV⟩, rfl⟩
  refine ⟨Nat.le_of_ble_eq_true rfl, fun X h => ?_⟩
  have hns : mm.1 54 0 0 = nI ns := hV.1.1
  have hns4 : ns ≤ 4 := hV.1.2
  have hnm : mm.1 54 0 1 = nI nm := hV.2.1.1
  have hnm4 : nm ≤ 4 := hV.2.1.2
  have eF : Fn_X12_allAsk mm [vR 12 0] = (none, asM mm (rnS (mm.1 54 0) ns nm 32 (as0 mm))) := by
    show (none, asM mm (asF mm)) = _
    unfold asF
    rw [hns, hnm, nI_clamp (show ns < 2 ^ 31 by omega), nI_clamp (show nm < 2 ^ 31 by omega)]
  rw [eF] at h
  have enm : (nI nm).toNatClampNeg = nm := nI_clamp (by omega)
  -- the rounds
  have rounds : ∀ f q, okS q → 21 ≤ pot q + f → rnS (mm.1 54 0) ns nm f q = rnS (mm.1 54 0) ns nm 32 (as0 mm) → ∀ L2 L3 L4, X 24 [some (vR 12 0), some (vI (1)), L2, L3, L4] [] (asM mm q) := by
    intro f
    induction f with
    | zero =>
      intro q hq hp
      have := pot_le hq
      omega
    | succ f ih =>
      intro q hq hp hR L2 L3 L4
      rw [rnS] at hR
      have one : ∀ s, s ≤ ns → ∀ L3 L4, X 28 [some (vR 12 0), some (vI (if (rdS (mm.1 54 0) nm q s).1 = true then 1 else 0)), some (vI (nI s)), L3, L4] [] (asM mm (rdS (mm.1 54 0) nm q s).2) := by
        refine up_ind ns ?_ (fun s hs ihs => ?_)
        · intro L3 L4
          obtain ⟨h1, h2, h3⟩ := rdS_ok (a := mm.1 54 0) hnm4 hq ns hns4
          by_cases hb : (rdS (mm.1 54 0) nm q ns).1 = true
          · rw [if_pos hb] at hR ⊢
            have hi := ih _ h1 (by have := h3 hb; omega) hR
            generalize (rdS (mm.1 54 0) nm q ns).2 = q' at *
            show X 28 [some (vR 12 0), some (vI 1), some (vI (nI ns)), L3, L4] [] (asM mm q')
            refine h (fun i => Nat.beq i 24) 3000 28 _ _ _ ?_
            refine And.intro rfl ?_
            refine br_t (by show mm.1 54 0 0 ≤ _; ((try simp (disch := omega) only [hns, li, pk_mul, nI_add, nI_clamp, nI_leI, nI_ltI, nI_eq, bI_0, bI_n0, Decidable.not_not, gu_m1]); first | done | omega | assumption)) ?_
            refine br_f (by decide) ?_
            show X 24 [some (vR 12 0), some (vI 1), some (vI (nI ns)), L3, L4] [] (asM mm q')
            exact hi _ _ _
          · rw [if_neg hb] at hR ⊢
            rw [← hR] at h
            generalize (rdS (mm.1 54 0) nm q ns).2 = q' at *
            show X 28 [some (vR 12 0), some (vI 0), some (vI (nI ns)), L3, L4] [] (asM mm q')
            refine h (fun _ => false) 3000 28 _ _ _ ?_
            refine And.intro rfl ?_
            refine br_t (by show mm.1 54 0 0 ≤ _; ((try simp (disch := omega) only [hns, li, pk_mul, nI_add, nI_clamp, nI_leI, nI_ltI, nI_eq, bI_0, bI_n0, Decidable.not_not, gu_m1]); first | done | omega | assumption)) ?_
            refine br_t (rfl) ?_
            show ((none : Option MV), asM mm q') = _
            exact rfl
        · intro L3 L4
          obtain ⟨h1, -, -⟩ := rdS_ok (a := mm.1 54 0) hnm4 hq s (by omega)
          have es : (nI s).toNatClampNeg = s := nI_clamp (by omega)
          have ihs2 : ∀ L3 L4, X 28 [some (vR 12 0), some (vI (if ((rdS (mm.1 54 0) nm q s).1 || (stS (mm.1 54 0) nm s (rdS (mm.1 54 0) nm q s).2).1) = true then 1 else 0)), some (vI (nI (s + 1))), L3, L4] [] (asM mm (stS (mm.1 54 0) nm s (rdS (mm.1 54 0) nm q s).2).2) := ihs
          clear ihs
          generalize (rdS (mm.1 54 0) nm q s).1 = b at *
          generalize (rdS (mm.1 54 0) nm q s).2 = p at *
          obtain ⟨K, R, c⟩ := p
          have hVM : VM (asM mm (K, R, c)) := ⟨ns, nm, n, hV⟩
          unfold stS at ihs2
          have e54 : (asM mm (K, R, c)).1 54 0 = mm.1 54 0 := rfl
          have e66 : (asM mm (K, R, c)).1 66 0 = K := rfl
          have e67 : (asM mm (K, R, c)).1 67 0 = R := rfl
          have main : ∀ v, v = stA (mm.1 54 0) nm s (K, R, c) → ∀ L3 L4, X 43 [some (vR 12 0), some (vI (if b = true then 1 else 0)), some (vI (nI s)), L3, L4] [vI (v)] (asM mm (K, R, c)) := by
            intro v ev L3 L4
            by_cases h0 : v = -1
            · rw [← ev, if_pos h0, Bool.or_false] at ihs2
              show X 43 [some (vR 12 0), some (vI (if b = true then 1 else 0)), some (vI (nI s)), L3, L4] [vI v] (asM mm (K, R, c))
              refine h (fun i => Nat.beq i 28) 3000 43 _ _ _ ?_
              refine brn_f (h0) ?_
              show X 28 [some (vR 12 0), some (vI (if b = true then 1 else 0)), some (vI ((nI s) + 1)), some (vI v), L4] [] (asM mm (K, R, c))
              rw [nI_1]
              exact ihs2 _ _
            · rw [← ev, if_neg h0, Bool.or_true, if_pos rfl] at ihs2
              have hk : ¬ kpP K nm (nI s) := fun z => h0 (ev.trans (if_pos z))
              have ev2 : v = askF (mm.1 54 0) (R s) s nm := ev.trans (if_neg hk)
              rcases askF_in (mm.1 54 0) (R s) s nm with z | ⟨m, hm, em, hb⟩
              · exact absurd (ev2.trans z) h0
              have em2 : v = nI m := ev2.trans em
              subst em2
              have e_m : (nI m).toNatClampNeg = m := nI_clamp (by omega)
              rw [e_m] at ihs2
              clear ev ev2 em h0
              obtain ⟨r, hr1, hr2⟩ := h1
              dsimp only at hr1 hr2
              have hKm : K m = -1 ∨ ∃ o, o < 4 ∧ K m = nI o := (hr2 m (by omega)).imp id (fun ⟨o, a1, a2, _⟩ => ⟨o, a1, a2⟩)
              have hsn : ¬ K m = nI s := fun z => hk (fun y => y m hm z)
              have tail : ∀ out, out = stO (mm.1 54 0) (K, R, c) s m → X 65 [some (vR 12 0), some (vI (1)), some (vI (nI s)), some (vI (nI m)), L4] [vI (out)] (asM mm (K, R, c)) := by
                intro out eo
                rw [← eo] at ihs2
                have hcs : out = -1 ∨ ∃ o, o < 4 ∧ out = nI o := by
                  rw [eo]; unfold stO; split
                  · exact hKm
                  · exact Or.inr ⟨s, by omega, rfl⟩
                have fin : ∀ K', ∀ o, o < 4 → out = nI o → K' = (if out = nI s then K else upd K m (nI s)) → X 78 [some (vR 12 0), some (vI (1)), some (vI (nI s)), some (vI (nI m)), some (vI (nI o))] [] (asM mm (K', R, c)) := by
                  intro K' o ho eo2 hK'
                  unfold stQ at ihs2
                  rw [if_neg (by rw [eo2]; exact nI_n1 (by omega)), ← hK', eo2, nI_clamp (by omega)] at ihs2
                  have e_o : (nI o).toNatClampNeg = o := nI_clamp (by omega)
                  show X 78 [some (vR 12 0), some (vI 1), some (vI (nI s)), some (vI (nI m)), some (vI (nI o))] [] (asM mm (K', R, c))
                  refine h (fun i => Nat.beq i 28) 3000 78 _ _ _ ?_
                  refine And.intro (inb_o 4 rfl rfl rfl (by omega)) ?_
                  refine And.intro (inb_o 4 rfl rfl rfl (by omega)) ?_
                  show X 28 [some (vR 12 0), some (vI 1), some (vI ((nI s) + 1)), some (vI (nI m)), some (vI (nI o))] [] (mI (mRow (asM mm (K', R, c)) 67 0 (upd ((asM mm (K', R, c)).1 67 0) (nI o).toNatClampNeg (((asM mm (K', R, c)).1 67 0 (nI o).toNatClampNeg) ||| (1 <<< ((nI m) &&& 31))))) 12 0 32 (((mRow (asM mm (K', R, c)) 67 0 (upd ((asM mm (K', R, c)).1 67 0) (nI o).toNatClampNeg (((asM mm (K', R, c)).1 67 0 (nI o).toNatClampNeg) ||| (1 <<< ((nI m) &&& 31))))).1 12 0 32) + 1))
                  rw [nI_1, e_o]
                  show X 28 _ _ (mRow (mRow (asM mm (K', R, c)) 67 0 (upd R o (R o ||| 1 <<< (nI m &&& 31)))) 12 0 (upd (upd (mm.1 12 0) 32 c) 32 (c + 1))) 
                  rw [as_R, as_c] 
                  exact ihs2 _ _
                have eKM : mRow (asM mm (K, R, c)) 66 0 (upd K m (nI s)) = asM mm (upd K m (nI s), R, c) := as_K _ _ _ _ _
                rcases hcs with h0 | ⟨o, ho, h0⟩
                · unfold stQ at ihs2
                  rw [if_pos h0] at ihs2
                  have n2 : ¬ out = nI s := fun z => nI_n1 (by omega) (z.symm.trans h0)
                  show X 65 [some (vR 12 0), some (vI 1), some (vI (nI s)), some (vI (nI m)), L4] [vI out] (asM mm (K, R, c))
                  refine h (fun i => Nat.beq i 28) 3000 65 _ _ _ ?_
                  refine br_f (n2) ?_
                  refine And.intro (inb_o 4 rfl rfl rfl (by omega)) ?_
                  refine brn_f (h0) ?_
                  show X 28 [some (vR 12 0), some (vI 1), some (vI ((nI s) + 1)), some (vI (nI m)), some (vI out)] [] (mRow (asM mm (K, R, c)) 66 0 (upd ((asM mm (K, R, c)).1 66 0) (nI m).toNatClampNeg (nI s)))
                  rw [nI_1, e_m]
                  show X 28 _ _ (mRow (asM mm (K, R, c)) 66 0 (upd K m (nI s))) 
                  rw [eKM] 
                  exact ihs2 _ _
                · have n1 : ¬ out = -1 := by rw [h0]; exact nI_n1 (by omega)
                  by_cases hos : out = nI s
                  · have fi := fin K o ho h0 (if_pos hos).symm
                    rw [← h0] at fi
                    show X 65 [some (vR 12 0), some (vI 1), some (vI (nI s)), some (vI (nI m)), L4] [vI out] (asM mm (K, R, c))
                    refine h (fun i => Nat.beq i 78) 3000 65 _ _ _ ?_
                    refine br_t (hos) ?_
                    refine brn_t (n1) ?_
                    show X 78 [some (vR 12 0), some (vI 1), some (vI (nI s)), some (vI (nI m)), some (vI out)] [] (asM mm (K, R, c))
                    exact fi
                  · have fi := fin (upd K m (nI s)) o ho h0 (if_neg hos).symm
                    rw [← h0] at fi
                    show X 65 [some (vR 12 0), some (vI 1), some (vI (nI s)), some (vI (nI m)), L4] [vI out] (asM mm (K, R, c))
                    refine h (fun i => Nat.beq i 78) 3000 65 _ _ _ ?_
                    refine br_f (hos) ?_
                    refine And.intro (inb_o 4 rfl rfl rfl (by omega)) ?_
                    refine brn_t (n1) ?_
                    show X 78 [some (vR 12 0), some (vI 1), some (vI (nI s)), some (vI (nI m)), some (vI out)] [] (mRow (asM mm (K, R, c)) 66 0 (upd ((asM mm (K, R, c)).1 66 0) (nI m).toNatClampNeg (nI s)))
                    rw [e_m]
                    show X 78 _ _ (mRow (asM mm (K, R, c)) 66 0 (upd K m (nI s))) 
                    rw [eKM] 
                    exact fi
              show X 43 [some (vR 12 0), some (vI (if b = true then 1 else 0)), some (vI (nI s)), L3, L4] [vI (nI m)] (asM mm (K, R, c))
              refine h (fun i => Nat.beq i 65) 3000 43 _ _ _ ?_
              refine brn_t (nI_n1 (by omega)) ?_
              refine And.intro (inb_o 4 rfl rfl rfl (by omega)) ?_
              refine And.intro ⟨hVM, m, s, _, by omega, by omega, (show K (nI m).toNatClampNeg = -1 ∨ ∃ o, o < 4 ∧ K (nI m).toNatClampNeg = nI o by rw [e_m]; exact hKm), rfl⟩ ?_
              refine br_c (fun b58 => ?_) (fun b58 => ?_)
              · -- 58: bI (((asM mm (K, R, c)).1 66 0 (nI m).toNatClampNeg) = -1 ∨ pfP ((asM mm (K, R, c)).1 54 0) (nI m).toNatClampNeg (nI s).toNatClampNeg ((asM mm (K, R, c)).1 66 0 (nI m).toNatClampNeg).toNatClampNeg) = 0 taken
                replace b58 : ¬ (((asM mm (K, R, c)).1 66 0 (nI m).toNatClampNeg) = -1 ∨ pfP ((asM mm (K, R, c)).1 54 0) (nI m).toNatClampNeg (nI s).toNatClampNeg ((asM mm (K, R, c)).1 66 0 (nI m).toNatClampNeg).toNatClampNeg) := bI_0.mp b58
                replace b58 : ¬ (K (nI m).toNatClampNeg = -1 ∨ pfP (mm.1 54 0) (nI m).toNatClampNeg (nI s).toNatClampNeg (K (nI m).toNatClampNeg).toNatClampNeg) := b58
                rw [e_m, es] at b58
                show X 65 [some (vR 12 0), some (vI 1), some (vI (nI s)), some (vI (nI m)), L4] [vI (nI s)] (asM mm (K, R, c))
                first | (refine tail _ ?_; exact (if_neg b58).symm) | (show X 65 _ [vI (K (nI m).toNatClampNeg)] _; rw [e_m]; refine tail _ ?_; exact (if_pos b58).symm)
              · -- 58: bI (((asM mm (K, R, c)).1 66 0 (nI m).toNatClampNeg) = -1 ∨ pfP ((asM mm (K, R, c)).1 54 0) (nI m).toNatClampNeg (nI s).toNatClampNeg ((asM mm (K, R, c)).1 66 0 (nI m).toNatClampNeg).toNatClampNeg) = 0 on
                replace b58 : ((asM mm (K, R, c)).1 66 0 (nI m).toNatClampNeg) = -1 ∨ pfP ((asM mm (K, R, c)).1 54 0) (nI m).toNatClampNeg (nI s).toNatClampNeg ((asM mm (K, R, c)).1 66 0 (nI m).toNatClampNeg).toNatClampNeg := bI_n0.mp b58
                replace b58 : (K (nI m).toNatClampNeg = -1 ∨ pfP (mm.1 54 0) (nI m).toNatClampNeg (nI s).toNatClampNeg (K (nI m).toNatClampNeg).toNatClampNeg) := b58
                rw [e_m, es] at b58
                refine And.intro (inb_o 4 rfl rfl rfl (by omega)) ?_
                show X 65 [some (vR 12 0), some (vI 1), some (vI (nI s)), some (vI (nI m)), L4] [vI ((asM mm (K, R, c)).1 66 0 (nI m).toNatClampNeg)] (asM mm (K, R, c))
                first | (refine tail _ ?_; exact (if_neg b58).symm) | (show X 65 _ [vI (K (nI m).toNatClampNeg)] _; rw [e_m]; refine tail _ ?_; exact (if_pos b58).symm)
          show X 28 [some (vR 12 0), some (vI (if b = true then 1 else 0)), some (vI (nI s)), L3, L4] [] (asM mm (K, R, c))
          refine h (fun i => Nat.beq i 43) 3000 28 _ _ _ ?_
          refine And.intro rfl ?_
          refine br_f (by show ¬ mm.1 54 0 0 ≤ _; ((try simp (disch := omega) only [hns, li, pk_mul, nI_add, nI_clamp, nI_leI, nI_ltI, nI_eq, bI_0, bI_n0, Decidable.not_not, gu_m1]); first | done | omega | assumption)) ?_
          refine And.intro ⟨hVM, _, rfl⟩ ?_
          refine br_c (fun b37 => ?_) (fun b37 => ?_)
          · -- 37: bI (kpP ((asM mm (K, R, c)).1 66 0) ((asM mm (K, R, c)).1 54 0 1).toNatClampNeg (nI s)) = 0 taken
            replace b37 : ¬ (kpP ((asM mm (K, R, c)).1 66 0) ((asM mm (K, R, c)).1 54 0 1).toNatClampNeg (nI s)) := bI_0.mp b37
            replace b37 : ¬ kpP K (mm.1 54 0 1).toNatClampNeg (nI s) := b37
            rw [hnm, enm] at b37
            refine And.intro ⟨hVM, s, by omega, rfl⟩ ?_
            show X 43 [some (vR 12 0), some (vI (if b = true then 1 else 0)), some (vI (nI s)), L3, L4] [vI (askF ((asM mm (K, R, c)).1 54 0) ((asM mm (K, R, c)).1 67 0 (nI s).toNatClampNeg) (nI s).toNatClampNeg ((asM mm (K, R, c)).1 54 0 1).toNatClampNeg)] (asM mm (K, R, c))
            first | exact main _ (if_pos b37).symm _ _ | (show X 43 _ [vI (askF (mm.1 54 0) (R (nI s).toNatClampNeg) (nI s).toNatClampNeg (mm.1 54 0 1).toNatClampNeg)] _; rw [es, hnm, enm]; exact main _ (if_neg b37).symm _ _)
          · -- 37: bI (kpP ((asM mm (K, R, c)).1 66 0) ((asM mm (K, R, c)).1 54 0 1).toNatClampNeg (nI s)) = 0 on
            replace b37 : kpP ((asM mm (K, R, c)).1 66 0) ((asM mm (K, R, c)).1 54 0 1).toNatClampNeg (nI s) := bI_n0.mp b37
            replace b37 : kpP K (mm.1 54 0 1).toNatClampNeg (nI s) := b37
            rw [hnm, enm] at b37
            show X 43 [some (vR 12 0), some (vI (if b = true then 1 else 0)), some (vI (nI s)), L3, L4] [vI (-1)] (asM mm (K, R, c))
            first | exact main _ (if_pos b37).symm _ _ | (show X 43 _ [vI (askF (mm.1 54 0) (R (nI s).toNatClampNeg) (nI s).toNatClampNeg (mm.1 54 0 1).toNatClampNeg)] _; rw [es, hnm, enm]; exact main _ (if_neg b37).symm _ _)
      show X 24 [some (vR 12 0), some (vI 1), L2, L3, L4] [] (asM mm q)
      refine h (fun i => Nat.beq i 28) 3000 24 _ _ _ ?_
      show X 28 [some (vR 12 0), some (vI 0), some (vI 0), L3, L4] [] (asM mm q)
      exact one 0 (by omega) _ _
  -- the rows are made new
  have ini : ∀ k, k ≤ 4 → X 2 [some (vR 12 0), some (vI (nI k)), none, none, none] [] (mRow (mRow mm 66 0 (iniR (mm.1 66 0) (-1) k)) 67 0 (iniR (mm.1 67 0) 0 k)) := by
    refine up_ind 4 ?_ (fun k hk ih => ?_)
    · have r0 := rounds 32 (as0 mm) (as0_ok mm) (by omega) rfl
      have eM : mI (mRow (mRow mm 66 0 (iniR (mm.1 66 0) (-1) 4)) 67 0 (iniR (mm.1 67 0) 0 4)) 12 0 32 0 = asM mm (as0 mm) := by
        show mRow (mRow (mRow mm 66 0 (iniR (mm.1 66 0) (-1) 4)) 67 0 (iniR (mm.1 67 0) 0 4)) 12 0 (upd (mm.1 12 0) 32 0) = mRow (mRow (mRow mm 12 0 (upd (mm.1 12 0) 32 0)) 66 0 (iniR (mm.1 66 0) (-1) 4)) 67 0 (iniR (mm.1 67 0) 0 4)
        rw [mRow_comm (by decide), mRow_comm (m := mm) (by decide)]
      show X 2 [some (vR 12 0), some (vI (nI 4)), none, none, none] [] (mRow (mRow mm 66 0 (iniR (mm.1 66 0) (-1) 4)) 67 0 (iniR (mm.1 67 0) 0 4))
      refine h (fun i => Nat.beq i 24) 3000 2 _ _ _ ?_
      refine br_t (by decide) ?_
      refine br_f (by decide) ?_
      show X 24 [some (vR 12 0), some (vI 1), none, none, none] [] (mI (mRow (mRow mm 66 0 (iniR (mm.1 66 0) (-1) 4)) 67 0 (iniR (mm.1 67 0) 0 4)) 12 0 32 0)
      rw [eM]
      exact r0 _ _ _
    · have ek : (nI k).toNatClampNeg = k := nI_clamp (by omega)
      have eM : mRow (mRow (mRow (mRow mm 66 0 (iniR (mm.1 66 0) (-1) k)) 67 0 (iniR (mm.1 67 0) 0 k)) 66 0 (iniR (mm.1 66 0) (-1) (k + 1))) 67 0 (iniR (mm.1 67 0) 0 (k + 1)) = mRow (mRow mm 66 0 (iniR (mm.1 66 0) (-1) (k + 1))) 67 0 (iniR (mm.1 67 0) 0 (k + 1)) := by
        rw [mRow_comm (k := 67) (k' := 66) (by decide), mRow2, mRow2]
      show X 2 [some (vR 12 0), some (vI (nI k)), none, none, none] [] (mRow (mRow mm 66 0 (iniR (mm.1 66 0) (-1) k)) 67 0 (iniR (mm.1 67 0) 0 k))
      refine h (fun i => Nat.beq i 2) 3000 2 _ _ _ ?_
      refine br_f (fun z => by rw [show (4 : Int32) = nI 4 from rfl, nI_leI (by omega) (by omega)] at z; omega) ?_
      refine And.intro (inb_o 4 rfl rfl rfl (by omega)) ?_
      refine And.intro (inb_o 4 rfl rfl rfl (by omega)) ?_
      show X 2 [some (vR 12 0), some (vI ((nI k) + 1)), none, none, none] [] (mRow (mRow (mRow (mRow mm 66 0 (iniR (mm.1 66 0) (-1) k)) 67 0 (iniR (mm.1 67 0) 0 k)) 66 0 (upd ((mRow (mRow mm 66 0 (iniR (mm.1 66 0) (-1) k)) 67 0 (iniR (mm.1 67 0) 0 k)).1 66 0) (nI k).toNatClampNeg (-1))) 67 0 (upd ((mRow (mRow (mRow mm 66 0 (iniR (mm.1 66 0) (-1) k)) 67 0 (iniR (mm.1 67 0) 0 k)) 66 0 (upd ((mRow (mRow mm 66 0 (iniR (mm.1 66 0) (-1) k)) 67 0 (iniR (mm.1 67 0) 0 k)).1 66 0) (nI k).toNatClampNeg (-1))).1 67 0) (nI k).toNatClampNeg 0))
      rw [nI_1, ek]
      show X 2 _ _ (mRow (mRow (mRow (mRow mm 66 0 (iniR (mm.1 66 0) (-1) k)) 67 0 (iniR (mm.1 67 0) 0 k)) 66 0 (iniR (mm.1 66 0) (-1) (k + 1))) 67 0 (iniR (mm.1 67 0) 0 (k + 1))) 
      rw [eM] 
      exact ih
  have i0 := ini 0 (by omega)
  have e0 : mRow (mRow mm 66 0 (iniR (mm.1 66 0) (-1) 0)) 67 0 (iniR (mm.1 67 0) 0 0) = mm := by
    show mRow (mRow mm 66 0 (mm.1 66 0)) 67 0 (mm.1 67 0) = mm
    rw [mRow_self, mRow_self]
  rw [e0] at i0
  show X 0 [some (vR 12 0), none, none, none, none] [] mm
  refine h (fun i => Nat.beq i 2) 3000 0 _ _ _ ?_
  show X 2 [some (vR 12 0), some (vI 0), none, none, none] [] mm
  exact i0
theorem con_X12_allAsk (l : Launch) : CON l y_X12_allAsk prog_14_method_136_code 5 none rm_X12_allAsk Pre_X12_allAsk Fn_X12_allAsk := CON_of (by decide) rfl rfl (sa_X12_allAsk l) vc_X12_allAsk
