/-! PART 96: the class: who cheats; orders -/

noncomputable section
def ccS (m : MM) (g d : Nat) : Nat → Nat → Int32 → Int32
  | 0, _, set => set
  | k + 1, s, set => ccS m g d k (s + 1) (if ysA (abV m g) s d then (if brA (abV m g) d (abV m g 6) ≤ syA (abV m g) (thA (abV m g) (nI s) &&& m.1 1 g 5) d then set else set ||| 1 <<< (nI s &&& 31)) else set)
def cl_cheats (m : MM) (x : Int32) : Option MV × MM := if x < 0 ∨ m.1 6 (m.2.2 0) 14 ≤ x then rfC m 1 else gvC m (ccS m (m.2.2 0) x.toNatClampNeg (m.1 6 (m.2.2 0) 13).toNatClampNeg 0 0)

def Pre_X11_cheats : PreT := fun m as => VNx m ∧ ∃ x : Int32, as = [vR 11 0, vI x]
def Fn_X11_cheats : FnT := fun m as => match as with
  | [_, Sum.inl x] => cl_cheats m x
  | _ => (none, m)
abbrev y_X11_cheats : MethodName := ⟨"GivenUp", "cheats", "(I)I"⟩
def P_X11_cheats : List StpT := [s_iload 1, s_aload 0, s_getD 11 12 6 0, s_getI 6 14, s_callS 2 Pre_X11_isOut Fn_X11_isOut, s_ifeq 10, s_aload 0, s_ic (1), s_callV 11 1 Pre_X11_refuse Fn_X11_refuse, s_iret, s_ic (0), s_istore 2, s_ic (0), s_istore 3, s_iload 3, s_aload 0, s_getD 11 12 6 0, s_getI 6 13, s_icge 53, s_aload 0, s_getD 11 12 6 0, s_aload 0, s_getD 11 12 6 0, s_iload 3, s_callV 6 1 Pre_X6_goods Fn_X6_goods, s_aload 0, s_getD 11 12 6 0, s_getR 6 11 1, s_getI 1 5, s_iand, s_iload 1, s_callV 6 2 Pre_X6_saying Fn_X6_saying, s_istore 4, s_aload 0, s_getD 11 12 6 0, s_iload 3, s_iload 1, s_callV 6 2 Pre_X6_isWilling Fn_X6_isWilling, s_ifeq 51, s_iload 4, s_aload 0, s_getD 11 12 6 0, s_iload 1, s_callV 6 1 Pre_X6_barNow Fn_X6_barNow, s_icge 51, s_iload 2, s_ic (1), s_iload 3, s_ishl, s_ior, s_istore 2, s_iinc 3 (1), s_goto 14, s_aload 0, s_iload 2, s_callV 11 1 Pre_X11_answer Fn_X11_answer, s_iret]
def pc_X11_cheats : Nat → Nat := fun i => [0, 1, 2, 5, 8, 11, 14, 15, 16, 19, 20, 21, 22, 23, 24, 25, 26, 29, 32, 35, 36, 39, 40, 43, 44, 47, 48, 51, 54, 57, 58, 59, 62, 64, 65, 68, 69, 70, 73, 76, 78, 79, 82, 83, 86, 89, 90, 91, 92, 93, 94, 95, 98, 101, 102, 103, 106].getD i 0
def dl_X11_cheats : List (Nat × Instr × Nat) := [(0, .iload_n 1, 1), (1, .aload_n 0, 1), (2, .getfield 87, 3), (5, .getfield 200, 3), (8, .invokestatic 115, 3), (11, .ifCond .eq 9, 3), (14, .aload_n 0, 1), (15, .iconst 1, 1), (16, .invokevirtual 139, 3), (19, .ireturn, 1), (20, .iconst 0, 1), (21, .istore_n 2, 1), (22, .iconst 0, 1), (23, .istore_n 3, 1), (24, .iload_n 3, 1), (25, .aload_n 0, 1), (26, .getfield 87, 3), (29, .getfield 197, 3), (32, .if_icmp .ge 69, 3), (35, .aload_n 0, 1), (36, .getfield 87, 3), (39, .aload_n 0, 1), (40, .getfield 87, 3), (43, .iload_n 3, 1), (44, .invokevirtual 252, 3), (47, .aload_n 0, 1), (48, .getfield 87, 3), (51, .getfield 212, 3), (54, .getfield 225, 3), (57, .iand, 1), (58, .iload_n 1, 1), (59, .invokevirtual 339, 3), (62, .istore 4, 2), (64, .aload_n 0, 1), (65, .getfield 87, 3), (68, .iload_n 3, 1), (69, .iload_n 1, 1), (70, .invokevirtual 315, 3), (73, .ifCond .eq 22, 3), (76, .iload 4, 2), (78, .aload_n 0, 1), (79, .getfield 87, 3), (82, .iload_n 1, 1), (83, .invokevirtual 264, 3), (86, .if_icmp .ge 9, 3), (89, .iload_n 2, 1), (90, .iconst 1, 1), (91, .iload_n 3, 1), (92, .ishl, 1), (93, .ior, 1), (94, .istore_n 2, 1), (95, .iinc 3 1, 3), (98, .goto (-74), 3), (101, .aload_n 0, 1), (102, .iload_n 2, 1), (103, .invokevirtual 178, 3), (106, .ireturn, 1)]
theorem dc_X11_cheats : DEC prog_1_method_58_code pc_X11_cheats dl_X11_cheats := DEC_of (by decide +kernel)
abbrev rm_X11_cheats : Room := { frames := 3, cells := 0, slots := 0, locals := 68 }
set_option maxRecDepth 20000 in
theorem sa_X11_cheats (l : Launch) : SNDALL l prog_1_method_58_code "GivenUp" 5 (some .int) rm_X11_cheats P_X11_cheats pc_X11_cheats := fun p e s m args below meth c cells slots Q D dA ad A RR hC hR => by
  have hM := RTX_room (R := rm_X11_cheats) hR
  exact ⟨st_iload_n hC (n := 0) (k := 1) (dc_X11_cheats 0 (0, .iload_n 1, 1) rfl rfl) rfl rfl,
    st_aload_n hC (n := 1) (k := 0) (dc_X11_cheats 1 (1, .aload_n 0, 1) rfl rfl) rfl rfl,
    st_getD hC (n := 2) (k := 11) (j := 12) (dc_X11_cheats 2 (2, .getfield 87, 3) rfl rfl) rfl clf_11 (by decide) rfl (by decide) wd_723,
    st_getI hC (n := 3) (k := 6) (j := 14) (dc_X11_cheats 3 (5, .getfield 200, 3) rfl rfl) rfl clf_6 (by decide) rfl wd_628,
    st_callS hC (n := 4) (na := 2) (con_X11_isOut l) (dc_X11_cheats 4 (8, .invokestatic 115, 3) rfl rfl) rfl wd_790 wd_143 (by decide) ⟨rfl, rfl, by decide, by decide⟩ hM wd_788 wd_789,
    st_ifeq hC (n := 5) (dc_X11_cheats 5 (11, .ifCond .eq 9, 3) rfl rfl) rfl (by decide),
    st_aload_n hC (n := 6) (k := 0) (dc_X11_cheats 6 (14, .aload_n 0, 1) rfl rfl) rfl rfl,
    st_iconst hC (n := 7) (x := 1) (dc_X11_cheats 7 (15, .iconst 1, 1) rfl rfl) rfl (by decide),
    st_callV hC (n := 8) (k := 11) (na := 1) (con_X11_refuse l) (dc_X11_cheats 8 (16, .invokevirtual 139, 3) rfl rfl) rfl wd_824 wd_143 (by decide) ⟨rfl, rfl, by decide, by decide⟩ hM wd_821 wd_823 wd_3 clf_11,
    st_iret hC (n := 9) hR (dc_X11_cheats 9 (19, .ireturn, 1) rfl rfl),
    st_iconst hC (n := 10) (x := 0) (dc_X11_cheats 10 (20, .iconst 0, 1) rfl rfl) rfl (by decide),
    st_istore_n hC (n := 11) (k := 2) (dc_X11_cheats 11 (21, .istore_n 2, 1) rfl rfl) rfl rfl (by decide),
    st_iconst hC (n := 12) (x := 0) (dc_X11_cheats 12 (22, .iconst 0, 1) rfl rfl) rfl (by decide),
    st_istore_n hC (n := 13) (k := 3) (dc_X11_cheats 13 (23, .istore_n 3, 1) rfl rfl) rfl rfl (by decide),
    st_iload_n hC (n := 14) (k := 3) (dc_X11_cheats 14 (24, .iload_n 3, 1) rfl rfl) rfl rfl,
    st_aload_n hC (n := 15) (k := 0) (dc_X11_cheats 15 (25, .aload_n 0, 1) rfl rfl) rfl rfl,
    st_getD hC (n := 16) (k := 11) (j := 12) (dc_X11_cheats 16 (26, .getfield 87, 3) rfl rfl) rfl clf_11 (by decide) rfl (by decide) wd_723,
    st_getI hC (n := 17) (k := 6) (j := 13) (dc_X11_cheats 17 (29, .getfield 197, 3) rfl rfl) rfl clf_6 (by decide) rfl wd_622,
    st_icge hC (n := 18) (dc_X11_cheats 18 (32, .if_icmp .ge 69, 3) rfl rfl) rfl (by decide),
    st_aload_n hC (n := 19) (k := 0) (dc_X11_cheats 19 (35, .aload_n 0, 1) rfl rfl) rfl rfl,
    st_getD hC (n := 20) (k := 11) (j := 12) (dc_X11_cheats 20 (36, .getfield 87, 3) rfl rfl) rfl clf_11 (by decide) rfl (by decide) wd_723,
    st_aload_n hC (n := 21) (k := 0) (dc_X11_cheats 21 (39, .aload_n 0, 1) rfl rfl) rfl rfl,
    st_getD hC (n := 22) (k := 11) (j := 12) (dc_X11_cheats 22 (40, .getfield 87, 3) rfl rfl) rfl clf_11 (by decide) rfl (by decide) wd_723,
    st_iload_n hC (n := 23) (k := 3) (dc_X11_cheats 23 (43, .iload_n 3, 1) rfl rfl) rfl rfl,
    st_callV hC (n := 24) (k := 6) (na := 1) (con_X6_goods l) (dc_X11_cheats 24 (44, .invokevirtual 252, 3) rfl rfl) rfl wd_1035 wd_155 (by decide) ⟨rfl, rfl, by decide, by decide⟩ hM wd_1048 wd_1033 wd_1034 clf_6,
    st_aload_n hC (n := 25) (k := 0) (dc_X11_cheats 25 (47, .aload_n 0, 1) rfl rfl) rfl rfl,
    st_getD hC (n := 26) (k := 11) (j := 12) (dc_X11_cheats 26 (48, .getfield 87, 3) rfl rfl) rfl clf_11 (by decide) rfl (by decide) wd_723,
    st_getR hC (n := 27) (k := 6) (j := 11) (dc_X11_cheats 27 (51, .getfield 212, 3) rfl rfl) rfl clf_6 (by decide) rfl (by decide) wd_613,
    st_getI hC (n := 28) (k := 1) (j := 5) (dc_X11_cheats 28 (54, .getfield 225, 3) rfl rfl) rfl clf_1 (by decide) rfl wd_484,
    st_iand hC (n := 29) (dc_X11_cheats 29 (57, .iand, 1) rfl rfl) rfl,
    st_iload_n hC (n := 30) (k := 1) (dc_X11_cheats 30 (58, .iload_n 1, 1) rfl rfl) rfl rfl,
    st_callV hC (n := 31) (k := 6) (na := 2) (con_X6_saying l) (dc_X11_cheats 31 (59, .invokevirtual 339, 3) rfl rfl) rfl wd_1147 wd_155 (by decide) ⟨rfl, rfl, by decide, by decide⟩ hM wd_1245 wd_1145 wd_1146 clf_6,
    st_istore hC (n := 32) (dc_X11_cheats 32 (62, .istore 4, 2) rfl rfl) rfl (by decide),
    st_aload_n hC (n := 33) (k := 0) (dc_X11_cheats 33 (64, .aload_n 0, 1) rfl rfl) rfl rfl,
    st_getD hC (n := 34) (k := 11) (j := 12) (dc_X11_cheats 34 (65, .getfield 87, 3) rfl rfl) rfl clf_11 (by decide) rfl (by decide) wd_723,
    st_iload_n hC (n := 35) (k := 3) (dc_X11_cheats 35 (68, .iload_n 3, 1) rfl rfl) rfl rfl,
    st_iload_n hC (n := 36) (k := 1) (dc_X11_cheats 36 (69, .iload_n 1, 1) rfl rfl) rfl rfl,
    st_callV hC (n := 37) (k := 6) (na := 2) (con_X6_isWilling l) (dc_X11_cheats 37 (70, .invokevirtual 315, 3) rfl rfl) rfl wd_1155 wd_155 (by decide) ⟨rfl, rfl, by decide, by decide⟩ hM wd_1152 wd_1153 wd_1154 clf_6,
    st_ifeq hC (n := 38) (dc_X11_cheats 38 (73, .ifCond .eq 22, 3) rfl rfl) rfl (by decide),
    st_iload hC (n := 39) (dc_X11_cheats 39 (76, .iload 4, 2) rfl rfl) rfl,
    st_aload_n hC (n := 40) (k := 0) (dc_X11_cheats 40 (78, .aload_n 0, 1) rfl rfl) rfl rfl,
    st_getD hC (n := 41) (k := 11) (j := 12) (dc_X11_cheats 41 (79, .getfield 87, 3) rfl rfl) rfl clf_11 (by decide) rfl (by decide) wd_723,
    st_iload_n hC (n := 42) (k := 1) (dc_X11_cheats 42 (82, .iload_n 1, 1) rfl rfl) rfl rfl,
    st_callV hC (n := 43) (k := 6) (na := 1) (con_X6_barNow l) (dc_X11_cheats 43 (83, .invokevirtual 264, 3) rfl rfl) rfl wd_1056 wd_155 (by decide) ⟨rfl, rfl, by decide, by decide⟩ hM wd_1053 wd_1054 wd_1055 clf_6,
    st_icge hC (n := 44) (dc_X11_cheats 44 (86, .if_icmp .ge 9, 3) rfl rfl) rfl (by decide),
    st_iload_n hC (n := 45) (k := 2) (dc_X11_cheats 45 (89, .iload_n 2, 1) rfl rfl) rfl rfl,
    st_iconst hC (n := 46) (x := 1) (dc_X11_cheats 46 (90, .iconst 1, 1) rfl rfl) rfl (by decide),
    st_iload_n hC (n := 47) (k := 3) (dc_X11_cheats 47 (91, .iload_n 3, 1) rfl rfl) rfl rfl,
    st_ishl hC (n := 48) (dc_X11_cheats 48 (92, .ishl, 1) rfl rfl) rfl,
    st_ior hC (n := 49) (dc_X11_cheats 49 (93, .ior, 1) rfl rfl) rfl,
    st_istore_n hC (n := 50) (k := 2) (dc_X11_cheats 50 (94, .istore_n 2, 1) rfl rfl) rfl rfl (by decide),
    st_iinc hC (n := 51) (x := 1) (dc_X11_cheats 51 (95, .iinc 3 1, 3) rfl rfl) rfl (by decide) (by decide),
    st_goto hC (n := 52) (dc_X11_cheats 52 (98, .goto (-74), 3) rfl rfl) (by decide),
    st_aload_n hC (n := 53) (k := 0) (dc_X11_cheats 53 (101, .aload_n 0, 1) rfl rfl) rfl rfl,
    st_iload_n hC (n := 54) (k := 2) (dc_X11_cheats 54 (102, .iload_n 2, 1) rfl rfl) rfl rfl,
    st_callV hC (n := 55) (k := 11) (na := 1) (con_X11_answer l) (dc_X11_cheats 55 (103, .invokevirtual 178, 3) rfl rfl) rfl wd_967 wd_143 (by decide) ⟨rfl, rfl, by decide, by decide⟩ hM wd_964 wd_966 wd_17 clf_11,
    st_iret hC (n := 56) hR (dc_X11_cheats 56 (106, .ireturn, 1) rfl rfl), trivial⟩
set_option maxRecDepth 8000 in
theorem vc_X11_cheats : VC P_X11_cheats 5 Pre_X11_cheats Fn_X11_cheats := by
  rintro mm as hom hoa ⟨⟨ns, nm, nt, hV⟩, x, rfl⟩
  refine ⟨Nat.le_of_ble_eq_true rfl, fun X h => ?_⟩
  have hS : mm.1 6 (mm.2.2 0) 13 = nI ns := hV.1.1.1
  have hn4 : ns ≤ 4 := hV.1.1.2
  have hN : mm.1 6 (mm.2.2 0) 14 = nI nm := hV.1.2.1.1
  have hm4 : nm ≤ 4 := hV.1.2.1.2
  obtain ⟨R, eR⟩ : ∃ R, R = cl_cheats mm x := ⟨_, rfl⟩
  replace h : RUN P_X11_cheats (fun r m' => (r, m') = cl_cheats mm x) X := h
  rw [← eR] at h
  unfold cl_cheats at eR
  have main : ¬ (x < 0 ∨ mm.1 6 (mm.2.2 0) 14 ≤ x) → X 10 [some (vR 11 0), some (vI (x)), none, none, none] [] mm := by
    intro c
    rw [if_neg c] at eR
    obtain ⟨d, hd, ex⟩ := ou_in hN (by omega) c
    have exc : x.toNatClampNeg = d := by rw [ex]; exact nI_clamp (by omega)
    rw [exc, hS, nI_clamp (show ns < 2 ^ 31 by omega)] at eR
    have loop : ∀ k s set, s + k = ns → R = gvC mm (ccS mm (mm.2.2 0) d k s set) → ∀ L4, X 14 [some (vR 11 0), some (vI (x)), some (vI (set)), some (vI (nI s)), L4] [] mm := by
      intro k
      induction k with
      | zero =>
        intro s set hs hR L4
        have hs2 : s = ns := by omega
        rw [ccS] at hR
        show X 14 [some (vR 11 0), some (vI x), some (vI set), some (vI (nI s)), L4] [] mm
        refine h (fun _ => false) 3000 14 _ _ _ ?_
        refine br_t (show mm.1 6 (mm.2.2 0) 13 ≤ nI s from by rw [hS, hs2]; exact Int32.le_refl _) ?_
        refine And.intro (show Pre_X11_answer mm [vR 11 0, vI set] from ⟨_, rfl⟩) ?_
        show ((some (vI set) : Option MV), stC mm 0) = _
        exact hR.symm
      | succ k ih =>
        intro s set hs hR L4
        rw [ccS] at hR
        have es : (nI s).toNatClampNeg = s := nI_clamp (by omega)
        have s51 : ∀ se v, R = gvC mm (ccS mm (mm.2.2 0) d k (s + 1) se) → X 51 [some (vR 11 0), some (vI (x)), some (vI (se)), some (vI (nI s)), some (vI (v))] [] mm := by
          intro se v hR'
          have z := ih (s + 1) se (by omega) hR'
          show X 51 [some (vR 11 0), some (vI x), some (vI se), some (vI (nI s)), some (vI v)] [] mm
          refine h (fun i => Nat.beq i 14) 3000 51 _ _ _ ?_
          show X 14 [some (vR 11 0), some (vI x), some (vI se), some (vI ((nI s) + 1)), some (vI v)] [] mm
          rw [nI_1]
          exact z _
        show X 14 [some (vR 11 0), some (vI x), some (vI set), some (vI (nI s)), L4] [] mm
        refine h (fun i => Nat.beq i 51) 3000 14 _ _ _ ?_
        refine br_f (show ¬ (mm.1 6 (mm.2.2 0) 13 ≤ nI s) from by rw [hS]; exact nI_ge (by omega) (by omega)) ?_
        refine And.intro (show Pre_X6_goods mm [vR 6 (mm.2.2 0), vI (nI s)] from ⟨_, ns, nm, nt, hV, _, rfl⟩) ?_
        refine And.intro (show Pre_X6_saying mm [vR 6 (mm.2.2 0), vI ((thA (abV mm (mm.2.2 0)) (nI s)) &&& (mm.1 1 (mm.2.2 0) 5)), vI x] from ⟨_, ns, nm, nt, d, hV, by omega, _, by rw [ex]⟩) ?_
        refine And.intro (show Pre_X6_isWilling mm [vR 6 (mm.2.2 0), vI (nI s), vI x] from ⟨_, ns, nm, nt, s, d, hV, by omega, by omega, by rw [ex]⟩) ?_
        refine br_c (fun b38 => ?_) (fun b38 => ?_)
        · -- 38: bI (ysA (abV mm (mm.2.2 0)) (nI s).toNatClampNeg x.toNatClampNeg) = 0 taken
          replace b38 : ¬ (ysA (abV mm (mm.2.2 0)) (nI s).toNatClampNeg x.toNatClampNeg) := bI_0.mp b38
          (try simp only [exc, es] at b38)
          show X 51 [some (vR 11 0), some (vI x), some (vI set), some (vI (nI s)), some (vI (syA (abV mm (mm.2.2 0)) ((thA (abV mm (mm.2.2 0)) (nI s)) &&& (mm.1 1 (mm.2.2 0) 5)) x.toNatClampNeg))] [] mm
          (try simp only [exc, es])
          rw [if_neg b38] at hR
          exact s51 _ _ hR
        · -- 38: bI (ysA (abV mm (mm.2.2 0)) (nI s).toNatClampNeg x.toNatClampNeg) = 0 on
          replace b38 : ysA (abV mm (mm.2.2 0)) (nI s).toNatClampNeg x.toNatClampNeg := bI_n0.mp b38
          (try simp only [exc, es] at b38)
          refine And.intro (show Pre_X6_barNow mm [vR 6 (mm.2.2 0), vI x] from ⟨_, d, by omega, by rw [ex]⟩) ?_
          refine br_c (fun b44 => ?_) (fun b44 => ?_)
          · -- 44: brA (abV mm (mm.2.2 0)) x.toNatClampNeg (abV mm (mm.2.2 0) 6) ≤ syA (abV mm (mm.2.2 0)) ((thA (abV mm (mm.2.2 0)) (nI s)) &&& (mm.1 1 (mm.2.2 0) 5)) x.toNatClampNeg taken
            replace b44 : brA (abV mm (mm.2.2 0)) x.toNatClampNeg (abV mm (mm.2.2 0) 6) ≤ syA (abV mm (mm.2.2 0)) ((thA (abV mm (mm.2.2 0)) (nI s)) &&& (mm.1 1 (mm.2.2 0) 5)) x.toNatClampNeg := b44
            (try simp only [exc, es] at b44)
            show X 51 [some (vR 11 0), some (vI x), some (vI set), some (vI (nI s)), some (vI (syA (abV mm (mm.2.2 0)) ((thA (abV mm (mm.2.2 0)) (nI s)) &&& (mm.1 1 (mm.2.2 0) 5)) x.toNatClampNeg))] [] mm
            (try simp only [exc, es])
            rw [if_pos b38, if_pos b44] at hR
            exact s51 _ _ hR
          · -- 44: brA (abV mm (mm.2.2 0)) x.toNatClampNeg (abV mm (mm.2.2 0) 6) ≤ syA (abV mm (mm.2.2 0)) ((thA (abV mm (mm.2.2 0)) (nI s)) &&& (mm.1 1 (mm.2.2 0) 5)) x.toNatClampNeg on
            replace b44 : ¬ (brA (abV mm (mm.2.2 0)) x.toNatClampNeg (abV mm (mm.2.2 0) 6) ≤ syA (abV mm (mm.2.2 0)) ((thA (abV mm (mm.2.2 0)) (nI s)) &&& (mm.1 1 (mm.2.2 0) 5)) x.toNatClampNeg) := b44
            (try simp only [exc, es] at b44)
            show X 51 [some (vR 11 0), some (vI x), some (vI (set ||| (1 <<< ((nI s) &&& 31)))), some (vI (nI s)), some (vI (syA (abV mm (mm.2.2 0)) ((thA (abV mm (mm.2.2 0)) (nI s)) &&& (mm.1 1 (mm.2.2 0) 5)) x.toNatClampNeg))] [] mm
            (try simp only [exc, es])
            rw [if_pos b38, if_neg b44] at hR
            exact s51 _ _ hR
    have l0 := loop ns 0 0 (by omega) eR none
    show X 10 [some (vR 11 0), some (vI x), none, none, none] [] mm
    refine h (fun i => Nat.beq i 14) 3000 10 _ _ _ ?_
    show X 14 [some (vR 11 0), some (vI x), some (vI 0), some (vI 0), none] [] mm
    exact l0
  show X 0 [some (vR 11 0), some (vI x), none, none, none] [] mm
  refine h (fun i => Nat.beq i 10) 3000 0 _ _ _ ?_
  refine And.intro (show Pre_X11_isOut mm [vI x, vI (mm.1 6 (mm.2.2 0) 14)] from ⟨_, _, rfl⟩) ?_
  refine br_c (fun b5 => ?_) (fun b5 => ?_)
  · -- 5: bI (x < 0 ∨ (mm.1 6 (mm.2.2 0) 14) ≤ x) = 0 taken
    replace b5 : ¬ (x < 0 ∨ (mm.1 6 (mm.2.2 0) 14) ≤ x) := bI_0.mp b5
    show X 10 [some (vR 11 0), some (vI x), none, none, none] [] mm
    exact main b5
  · -- 5: bI (x < 0 ∨ (mm.1 6 (mm.2.2 0) 14) ≤ x) = 0 on
    replace b5 : x < 0 ∨ (mm.1 6 (mm.2.2 0) 14) ≤ x := bI_n0.mp b5
    refine And.intro (show Pre_X11_refuse mm [vR 11 0, vI 1] from ⟨_, rfl⟩) ?_
    show ((some (vI (-1)) : Option MV), stC mm 1) = _
    rw [eR, if_pos b5]
    rfl
theorem con_X11_cheats (l : Launch) : CON l y_X11_cheats prog_1_method_58_code 5 (some .int) rm_X11_cheats Pre_X11_cheats Fn_X11_cheats := CON_of (by decide) rfl rfl (sa_X11_cheats l) vc_X11_cheats
/-- the orders of a part: by what stands last -/
def owL (m : MM) (g : Nat) (P : Int32) : Nat → Nat → Int64 → Int64
  | 0, _, sum => sum
  | k + 1, t, sum => owL m g P k (t + 1) (if P &&& (1 <<< (nI t &&& 31) ^^^ (-1)) = P then sum else if m.1 37 g t &&& (P &&& (1 <<< (nI t &&& 31) ^^^ (-1)) ^^^ (-1)) = 0 then sum + m.2.1 52 0 (P &&& (1 <<< (nI t &&& 31) ^^^ (-1))).toNatClampNeg else sum)
def owC (m : MM) (P : Int32) : Int64 := owL m (m.2.2 0) P (m.1 6 (m.2.2 0) 15).toNatClampNeg 0 0

--tpl ⟨_, {1N}, by assumption, by omega, by omega, rfl⟩ || L owC {m} {1}
def Pre_X11_ordersWithin : PreT := fun m as => ∃ nt P : Nat, m.1 6 (m.2.2 0) 15 = nI nt ∧ nt ≤ 12 ∧ P < 4096 ∧ as = [vR 11 0, vI (nI P)]
def Fn_X11_ordersWithin : FnT := fun m as => match as with
  | [_, Sum.inl P] => (some (vL (owC m P)), m)
  | _ => (none, m)
abbrev y_X11_ordersWithin : MethodName := ⟨"GivenUp", "ordersWithin", "(I)J"⟩
def P_X11_ordersWithin : List StpT := [s_lc 0, s_lstore 2, s_ic (0), s_istore 4, s_iload 4, s_aload 0, s_getD 11 12 6 0, s_getI 6 15, s_icge 39, s_iload 1, s_ic (1), s_iload 4, s_ishl, s_ic (-1), s_ixor, s_iand, s_istore 5, s_iload 5, s_iload 1, s_iceq 37, s_aload 0, s_getD 11 12 6 0, s_getR 6 8 37, s_iload 4, s_iald, s_iload 5, s_ic (-1), s_ixor, s_iand, s_ifne 37, s_lload 2, s_aload 0, s_getR 11 9 52, s_iload 5, s_lald, s_ladd, s_lstore 2, s_iinc 4 (1), s_goto 4, s_lload 2, s_lret]
def pc_X11_ordersWithin : Nat → Nat := fun i => [0, 1, 2, 3, 5, 7, 8, 11, 14, 17, 18, 19, 21, 22, 23, 24, 25, 27, 29, 30, 33, 34, 37, 40, 42, 43, 45, 46, 47, 48, 51, 52, 53, 56, 58, 59, 60, 61, 64, 67, 68].getD i 0
def dl_X11_ordersWithin : List (Nat × Instr × Nat) := [(0, .lconst 0, 1), (1, .lstore_n 2, 1), (2, .iconst 0, 1), (3, .istore 4, 2), (5, .iload 4, 2), (7, .aload_n 0, 1), (8, .getfield 87, 3), (11, .getfield 175, 3), (14, .if_icmp .ge 53, 3), (17, .iload_n 1, 1), (18, .iconst 1, 1), (19, .iload 4, 2), (21, .ishl, 1), (22, .iconst (-1), 1), (23, .ixor, 1), (24, .iand, 1), (25, .istore 5, 2), (27, .iload 5, 2), (29, .iload_n 1, 1), (30, .if_icmp .eq 31, 3), (33, .aload_n 0, 1), (34, .getfield 87, 3), (37, .getfield 279, 3), (40, .iload 4, 2), (42, .iaload, 1), (43, .iload 5, 2), (45, .iconst (-1), 1), (46, .ixor, 1), (47, .iand, 1), (48, .ifCond .ne 13, 3), (51, .lload_n 2, 1), (52, .aload_n 0, 1), (53, .getfield 74, 3), (56, .iload 5, 2), (58, .laload, 1), (59, .ladd, 1), (60, .lstore_n 2, 1), (61, .iinc 4 1, 3), (64, .goto (-59), 3), (67, .lload_n 2, 1), (68, .lreturn, 1)]
theorem dc_X11_ordersWithin : DEC prog_1_method_82_code pc_X11_ordersWithin dl_X11_ordersWithin := DEC_of (by decide +kernel)
abbrev rm_X11_ordersWithin : Room := { frames := 0, cells := 0, slots := 0, locals := 0 }
set_option maxRecDepth 20000 in
theorem sa_X11_ordersWithin (l : Launch) : SNDALL l prog_1_method_82_code "GivenUp" 6 (some .long) rm_X11_ordersWithin P_X11_ordersWithin pc_X11_ordersWithin := fun p e s m args below meth c cells slots Q D dA ad A RR hC hR => by
  have hM := RTX_room (R := rm_X11_ordersWithin) hR
  exact ⟨st_lconst hC (n := 0) (x := 0) (dc_X11_ordersWithin 0 (0, .lconst 0, 1) rfl rfl) rfl (by decide),
    st_lstore_n hC (n := 1) (k := 2) (dc_X11_ordersWithin 1 (1, .lstore_n 2, 1) rfl rfl) rfl rfl (by decide),
    st_iconst hC (n := 2) (x := 0) (dc_X11_ordersWithin 2 (2, .iconst 0, 1) rfl rfl) rfl (by decide),
    st_istore hC (n := 3) (dc_X11_ordersWithin 3 (3, .istore 4, 2) rfl rfl) rfl (by decide),
    st_iload hC (n := 4) (dc_X11_ordersWithin 4 (5, .iload 4, 2) rfl rfl) rfl,
    st_aload_n hC (n := 5) (k := 0) (dc_X11_ordersWithin 5 (7, .aload_n 0, 1) rfl rfl) rfl rfl,
    st_getD hC (n := 6) (k := 11) (j := 12) (dc_X11_ordersWithin 6 (8, .getfield 87, 3) rfl rfl) rfl clf_11 (by decide) rfl (by decide) wd_723,
    st_getI hC (n := 7) (k := 6) (j := 15) (dc_X11_ordersWithin 7 (11, .getfield 175, 3) rfl rfl) rfl clf_6 (by decide) rfl wd_633,
    st_icge hC (n := 8) (dc_X11_ordersWithin 8 (14, .if_icmp .ge 53, 3) rfl rfl) rfl (by decide),
    st_iload_n hC (n := 9) (k := 1) (dc_X11_ordersWithin 9 (17, .iload_n 1, 1) rfl rfl) rfl rfl,
    st_iconst hC (n := 10) (x := 1) (dc_X11_ordersWithin 10 (18, .iconst 1, 1) rfl rfl) rfl (by decide),
    st_iload hC (n := 11) (dc_X11_ordersWithin 11 (19, .iload 4, 2) rfl rfl) rfl,
    st_ishl hC (n := 12) (dc_X11_ordersWithin 12 (21, .ishl, 1) rfl rfl) rfl,
    st_iconst hC (n := 13) (x := (-1)) (dc_X11_ordersWithin 13 (22, .iconst (-1), 1) rfl rfl) rfl (by decide),
    st_ixor hC (n := 14) (dc_X11_ordersWithin 14 (23, .ixor, 1) rfl rfl) rfl,
    st_iand hC (n := 15) (dc_X11_ordersWithin 15 (24, .iand, 1) rfl rfl) rfl,
    st_istore hC (n := 16) (dc_X11_ordersWithin 16 (25, .istore 5, 2) rfl rfl) rfl (by decide),
    st_iload hC (n := 17) (dc_X11_ordersWithin 17 (27, .iload 5, 2) rfl rfl) rfl,
    st_iload_n hC (n := 18) (k := 1) (dc_X11_ordersWithin 18 (29, .iload_n 1, 1) rfl rfl) rfl rfl,
    st_iceq hC (n := 19) (dc_X11_ordersWithin 19 (30, .if_icmp .eq 31, 3) rfl rfl) rfl (by decide),
    st_aload_n hC (n := 20) (k := 0) (dc_X11_ordersWithin 20 (33, .aload_n 0, 1) rfl rfl) rfl rfl,
    st_getD hC (n := 21) (k := 11) (j := 12) (dc_X11_ordersWithin 21 (34, .getfield 87, 3) rfl rfl) rfl clf_11 (by decide) rfl (by decide) wd_723,
    st_getR hC (n := 22) (k := 6) (j := 8) (dc_X11_ordersWithin 22 (37, .getfield 279, 3) rfl rfl) rfl clf_6 (by decide) rfl (by decide) wd_604,
    st_iload hC (n := 23) (dc_X11_ordersWithin 23 (40, .iload 4, 2) rfl rfl) rfl,
    st_iald hC (n := 24) (dc_X11_ordersWithin 24 (42, .iaload, 1) rfl rfl) rfl,
    st_iload hC (n := 25) (dc_X11_ordersWithin 25 (43, .iload 5, 2) rfl rfl) rfl,
    st_iconst hC (n := 26) (x := (-1)) (dc_X11_ordersWithin 26 (45, .iconst (-1), 1) rfl rfl) rfl (by decide),
    st_ixor hC (n := 27) (dc_X11_ordersWithin 27 (46, .ixor, 1) rfl rfl) rfl,
    st_iand hC (n := 28) (dc_X11_ordersWithin 28 (47, .iand, 1) rfl rfl) rfl,
    st_ifne hC (n := 29) (dc_X11_ordersWithin 29 (48, .ifCond .ne 13, 3) rfl rfl) rfl (by decide),
    st_lload_n hC (n := 30) (k := 2) (dc_X11_ordersWithin 30 (51, .lload_n 2, 1) rfl rfl) rfl rfl,
    st_aload_n hC (n := 31) (k := 0) (dc_X11_ordersWithin 31 (52, .aload_n 0, 1) rfl rfl) rfl rfl,
    st_getR hC (n := 32) (k := 11) (j := 9) (dc_X11_ordersWithin 32 (53, .getfield 74, 3) rfl rfl) rfl clf_11 (by decide) rfl (by decide) wd_720,
    st_iload hC (n := 33) (dc_X11_ordersWithin 33 (56, .iload 5, 2) rfl rfl) rfl,
    st_lald hC (n := 34) (dc_X11_ordersWithin 34 (58, .laload, 1) rfl rfl) rfl,
    st_ladd hC (n := 35) (dc_X11_ordersWithin 35 (59, .ladd, 1) rfl rfl) rfl,
    st_lstore_n hC (n := 36) (k := 2) (dc_X11_ordersWithin 36 (60, .lstore_n 2, 1) rfl rfl) rfl rfl (by decide),
    st_iinc hC (n := 37) (x := 1) (dc_X11_ordersWithin 37 (61, .iinc 4 1, 3) rfl rfl) rfl (by decide) (by decide),
    st_goto hC (n := 38) (dc_X11_ordersWithin 38 (64, .goto (-59), 3) rfl rfl) (by decide),
    st_lload_n hC (n := 39) (k := 2) (dc_X11_ordersWithin 39 (67, .lload_n 2, 1) rfl rfl) rfl rfl,
    st_lret hC (n := 40) hR (dc_X11_ordersWithin 40 (68, .lreturn, 1) rfl rfl), trivial⟩
set_option maxRecDepth 8000 in
theorem vc_X11_ordersWithin : VC P_X11_ordersWithin 6 Pre_X11_ordersWithin Fn_X11_ordersWithin := by
  rintro mm as hom hoa ⟨nt, P, hT, ht12, hP, rfl⟩
  refine ⟨Nat.le_of_ble_eq_true rfl, fun X h => ?_⟩
  replace h : RUN P_X11_ordersWithin (fun r m' => (r, m') = (some (vL (owC mm (nI P))), mm)) X := h
  unfold owC at h
  rw [hT, nI_clamp (show nt < 2 ^ 31 by omega)] at h
  obtain ⟨R, eR⟩ : ∃ R, R = owL mm (mm.2.2 0) (nI P) nt 0 0 := ⟨_, rfl⟩
  rw [← eR] at h
  have loop : ∀ k t sum, t + k = nt → R = owL mm (mm.2.2 0) (nI P) k t sum → ∀ L5, X 4 [some (vR 11 0), some (vI (nI P)), some (vL (sum)), none, some (vI (nI t)), L5] [] mm := by
    intro k
    induction k with
    | zero =>
      intro t sum ht hR L5
      have ht2 : t = nt := by omega
      rw [owL] at hR
      show X 4 [some (vR 11 0), some (vI (nI P)), some (vL sum), none, some (vI (nI t)), L5] [] mm
      refine h (fun _ => false) 3000 4 _ _ _ ?_
      refine br_t (show mm.1 6 (mm.2.2 0) 15 ≤ nI t from by rw [hT, ht2]; exact Int32.le_refl _) ?_
      show ((some (vL sum) : Option MV), mm) = _
      rw [hR]
    | succ k ih =>
      intro t sum ht hR L5
      rw [owL] at hR
      have et : (nI t).toNatClampNeg = t := nI_clamp (by omega)
      obtain ⟨W, hW, eW⟩ := ands hP (1 <<< (nI t &&& 31) ^^^ (-1))
      rw [eW] at hR
      have eWc : (nI W).toNatClampNeg = W := nI_clamp (by omega)
      rw [eWc] at hR
      have s37 : ∀ su, R = owL mm (mm.2.2 0) (nI P) k (t + 1) su → X 37 [some (vR 11 0), some (vI (nI P)), some (vL (su)), none, some (vI (nI t)), some (vI (nI W))] [] mm := by
        intro su hR'
        have z := ih (t + 1) su (by omega) hR'
        show X 37 [some (vR 11 0), some (vI (nI P)), some (vL su), none, some (vI (nI t)), some (vI (nI W))] [] mm
        refine h (fun i => Nat.beq i 4) 3000 37 _ _ _ ?_
        show X 4 [some (vR 11 0), some (vI (nI P)), some (vL su), none, some (vI ((nI t) + 1)), some (vI (nI W))] [] mm
        rw [nI_1]
        exact z _
      have s17 : X 17 [some (vR 11 0), some (vI (nI P)), some (vL (sum)), none, some (vI (nI t)), some (vI (nI W))] [] mm := by
        show X 17 [some (vR 11 0), some (vI (nI P)), some (vL sum), none, some (vI (nI t)), some (vI (nI W))] [] mm
        refine h (fun i => Nat.beq i 37) 3000 17 _ _ _ ?_
        refine br_c (fun b19 => ?_) (fun b19 => ?_)
        · -- 19: nI W = nI P taken
          replace b19 : nI W = nI P := b19
          (try simp only [et, eWc] at b19)
          show X 37 [some (vR 11 0), some (vI (nI P)), some (vL sum), none, some (vI (nI t)), some (vI (nI W))] [] mm
          (try simp only [et, eWc])
          rw [if_pos b19] at hR
          exact s37 _ hR
        · -- 19: nI W = nI P on
          replace b19 : ¬ (nI W = nI P) := b19
          (try simp only [et, eWc] at b19)
          refine And.intro (show inb (nI t) (alen 37) = true from (inb_o 12 rfl rfl rfl (by omega))) ?_
          refine brn_c (fun b29 => ?_) (fun b29 => ?_)
          · -- 29: (mm.1 37 (mm.2.2 0) ((nI t).toNatClampNeg)) &&& ((nI W) ^^^ (-1)) = 0 taken
            replace b29 : ¬ ((mm.1 37 (mm.2.2 0) ((nI t).toNatClampNeg)) &&& ((nI W) ^^^ (-1)) = 0) := b29
            (try simp only [et, eWc] at b29)
            show X 37 [some (vR 11 0), some (vI (nI P)), some (vL sum), none, some (vI (nI t)), some (vI (nI W))] [] mm
            (try simp only [et, eWc])
            rw [if_neg b19, if_neg b29] at hR
            exact s37 _ hR
          · -- 29: (mm.1 37 (mm.2.2 0) ((nI t).toNatClampNeg)) &&& ((nI W) ^^^ (-1)) = 0 on
            replace b29 : (mm.1 37 (mm.2.2 0) ((nI t).toNatClampNeg)) &&& ((nI W) ^^^ (-1)) = 0 := b29
            (try simp only [et, eWc] at b29)
            refine And.intro (show inb (nI W) (alen 52) = true from (inb_o 4096 rfl rfl rfl (by omega))) ?_
            show X 37 [some (vR 11 0), some (vI (nI P)), some (vL (sum + (mm.2.1 52 0 ((nI W).toNatClampNeg)))), none, some (vI (nI t)), some (vI (nI W))] [] mm
            (try simp only [et, eWc])
            rw [if_neg b19, if_pos b29] at hR
            exact s37 _ hR
      show X 4 [some (vR 11 0), some (vI (nI P)), some (vL sum), none, some (vI (nI t)), L5] [] mm
      refine h (fun i => Nat.beq i 17) 3000 4 _ _ _ ?_
      refine br_f (show ¬ (mm.1 6 (mm.2.2 0) 15 ≤ nI t) from by rw [hT]; exact nI_ge (by omega) (by omega)) ?_
      show X 17 [some (vR 11 0), some (vI (nI P)), some (vL sum), none, some (vI (nI t)), some (vI ((nI P) &&& ((1 <<< ((nI t) &&& 31)) ^^^ (-1))))] [] mm
      rw [eW]
      exact s17
  show X 0 [some (vR 11 0), some (vI (nI P)), none, none, none, none] [] mm
  refine h (fun i => Nat.beq i 4) 3000 0 _ _ _ ?_
  show X 4 [some (vR 11 0), some (vI (nI P)), some (vL 0), none, some (vI 0), none] [] mm
  exact loop nt 0 0 (by omega) eR none
theorem con_X11_ordersWithin (l : Launch) : CON l y_X11_ordersWithin prog_1_method_82_code 6 (some .long) rm_X11_ordersWithin Pre_X11_ordersWithin Fn_X11_ordersWithin := CON_of (by decide) rfl rfl (sa_X11_ordersWithin l) vc_X11_ordersWithin
def coL (S : Int32) : Nat → Nat → MM → MM
  | 0, _, m => m
  | k + 1, p, m => if S < nI p then m else coL S k (p + 1) (if nI p &&& (S ^^^ (-1)) = 0 then mRowL m 52 0 (vp_updL (m.2.1 52 0) p (owC m (nI p))) else m)
def coA (m : MM) (S : Int32) : MM := coL S 4095 1 (mRowL m 52 0 (vp_updL (m.2.1 52 0) 0 1))
def coF2 (m : MM) (S : Int32) : Option MV × MM := (some (vL (m.2.1 52 0 S.toNatClampNeg)), m)
def coF (m : MM) (S : Int32) : Option MV × MM := coF2 (coA m S) S

--tpl ⟨_, {1N}, by assumption, by omega, by omega, rfl⟩ || L ((coA {m} {1}).2.1 52 0 {1n}) || coA {m} {1}
def Pre_X11_countOrders : PreT := fun m as => ∃ nt S : Nat, m.1 6 (m.2.2 0) 15 = nI nt ∧ nt ≤ 12 ∧ S < 4096 ∧ as = [vR 11 0, vI (nI S)]
def Fn_X11_countOrders : FnT := fun m as => match as with
  | [_, Sum.inl S] => coF m S
  | _ => (none, m)
abbrev y_X11_countOrders : MethodName := ⟨"GivenUp", "countOrders", "(I)J"⟩
def P_X11_countOrders : List StpT := [s_aload 0, s_getR 11 9 52, s_ic (0), s_lc 1, s_last, s_ic (1), s_istore 2, s_iload 2, s_iload 1, s_icgt 30, s_iload 2, s_aload 0, s_getR 11 9 52, s_alen, s_icge 30, s_iload 2, s_iload 1, s_ic (-1), s_ixor, s_iand, s_ifne 28, s_aload 0, s_getR 11 9 52, s_iload 2, s_aload 0, s_iload 2, s_callV 11 1 Pre_X11_ordersWithin Fn_X11_ordersWithin, s_last, s_iinc 2 (1), s_goto 7, s_iload 1, s_aload 0, s_getR 11 9 52, s_alen, s_callS 2 Pre_X11_isOut Fn_X11_isOut, s_ifeq 38, s_lc 0, s_goto 42, s_aload 0, s_getR 11 9 52, s_iload 1, s_lald, s_lret]
def pc_X11_countOrders : Nat → Nat := fun i => [0, 1, 4, 5, 6, 7, 8, 9, 10, 11, 14, 15, 16, 19, 20, 23, 24, 25, 26, 27, 28, 31, 32, 35, 36, 37, 38, 41, 42, 45, 48, 49, 50, 53, 54, 57, 60, 61, 64, 65, 68, 69, 70].getD i 0
def dl_X11_countOrders : List (Nat × Instr × Nat) := [(0, .aload_n 0, 1), (1, .getfield 74, 3), (4, .iconst 0, 1), (5, .lconst 1, 1), (6, .lastore, 1), (7, .iconst 1, 1), (8, .istore_n 2, 1), (9, .iload_n 2, 1), (10, .iload_n 1, 1), (11, .if_icmp .gt 37, 3), (14, .iload_n 2, 1), (15, .aload_n 0, 1), (16, .getfield 74, 3), (19, .arraylength, 1), (20, .if_icmp .ge 28, 3), (23, .iload_n 2, 1), (24, .iload_n 1, 1), (25, .iconst (-1), 1), (26, .ixor, 1), (27, .iand, 1), (28, .ifCond .ne 14, 3), (31, .aload_n 0, 1), (32, .getfield 74, 3), (35, .iload_n 2, 1), (36, .aload_n 0, 1), (37, .iload_n 2, 1), (38, .invokevirtual 463, 3), (41, .lastore, 1), (42, .iinc 2 1, 3), (45, .goto (-36), 3), (48, .iload_n 1, 1), (49, .aload_n 0, 1), (50, .getfield 74, 3), (53, .arraylength, 1), (54, .invokestatic 115, 3), (57, .ifCond .eq 7, 3), (60, .lconst 0, 1), (61, .goto 9, 3), (64, .aload_n 0, 1), (65, .getfield 74, 3), (68, .iload_n 1, 1), (69, .laload, 1), (70, .lreturn, 1)]
theorem dc_X11_countOrders : DEC prog_1_method_81_code pc_X11_countOrders dl_X11_countOrders := DEC_of (by decide +kernel)
abbrev rm_X11_countOrders : Room := { frames := 1, cells := 0, slots := 0, locals := 25 }
set_option maxRecDepth 20000 in
theorem sa_X11_countOrders (l : Launch) : SNDALL l prog_1_method_81_code "GivenUp" 3 (some .long) rm_X11_countOrders P_X11_countOrders pc_X11_countOrders := fun p e s m args below meth c cells slots Q D dA ad A RR hC hR => by
  have hM := RTX_room (R := rm_X11_countOrders) hR
  exact ⟨st_aload_n hC (n := 0) (k := 0) (dc_X11_countOrders 0 (0, .aload_n 0, 1) rfl rfl) rfl rfl,
    st_getR hC (n := 1) (k := 11) (j := 9) (dc_X11_countOrders 1 (1, .getfield 74, 3) rfl rfl) rfl clf_11 (by decide) rfl (by decide) wd_720,
    st_iconst hC (n := 2) (x := 0) (dc_X11_countOrders 2 (4, .iconst 0, 1) rfl rfl) rfl (by decide),
    st_lconst hC (n := 3) (x := 1) (dc_X11_countOrders 3 (5, .lconst 1, 1) rfl rfl) rfl (by decide),
    st_last hC (n := 4) (dc_X11_countOrders 4 (6, .lastore, 1) rfl rfl) rfl,
    st_iconst hC (n := 5) (x := 1) (dc_X11_countOrders 5 (7, .iconst 1, 1) rfl rfl) rfl (by decide),
    st_istore_n hC (n := 6) (k := 2) (dc_X11_countOrders 6 (8, .istore_n 2, 1) rfl rfl) rfl rfl (by decide),
    st_iload_n hC (n := 7) (k := 2) (dc_X11_countOrders 7 (9, .iload_n 2, 1) rfl rfl) rfl rfl,
    st_iload_n hC (n := 8) (k := 1) (dc_X11_countOrders 8 (10, .iload_n 1, 1) rfl rfl) rfl rfl,
    st_icgt hC (n := 9) (dc_X11_countOrders 9 (11, .if_icmp .gt 37, 3) rfl rfl) rfl (by decide),
    st_iload_n hC (n := 10) (k := 2) (dc_X11_countOrders 10 (14, .iload_n 2, 1) rfl rfl) rfl rfl,
    st_aload_n hC (n := 11) (k := 0) (dc_X11_countOrders 11 (15, .aload_n 0, 1) rfl rfl) rfl rfl,
    st_getR hC (n := 12) (k := 11) (j := 9) (dc_X11_countOrders 12 (16, .getfield 74, 3) rfl rfl) rfl clf_11 (by decide) rfl (by decide) wd_720,
    st_alen hC (n := 13) (dc_X11_countOrders 13 (19, .arraylength, 1) rfl rfl) rfl,
    st_icge hC (n := 14) (dc_X11_countOrders 14 (20, .if_icmp .ge 28, 3) rfl rfl) rfl (by decide),
    st_iload_n hC (n := 15) (k := 2) (dc_X11_countOrders 15 (23, .iload_n 2, 1) rfl rfl) rfl rfl,
    st_iload_n hC (n := 16) (k := 1) (dc_X11_countOrders 16 (24, .iload_n 1, 1) rfl rfl) rfl rfl,
    st_iconst hC (n := 17) (x := (-1)) (dc_X11_countOrders 17 (25, .iconst (-1), 1) rfl rfl) rfl (by decide),
    st_ixor hC (n := 18) (dc_X11_countOrders 18 (26, .ixor, 1) rfl rfl) rfl,
    st_iand hC (n := 19) (dc_X11_countOrders 19 (27, .iand, 1) rfl rfl) rfl,
    st_ifne hC (n := 20) (dc_X11_countOrders 20 (28, .ifCond .ne 14, 3) rfl rfl) rfl (by decide),
    st_aload_n hC (n := 21) (k := 0) (dc_X11_countOrders 21 (31, .aload_n 0, 1) rfl rfl) rfl rfl,
    st_getR hC (n := 22) (k := 11) (j := 9) (dc_X11_countOrders 22 (32, .getfield 74, 3) rfl rfl) rfl clf_11 (by decide) rfl (by decide) wd_720,
    st_iload_n hC (n := 23) (k := 2) (dc_X11_countOrders 23 (35, .iload_n 2, 1) rfl rfl) rfl rfl,
    st_aload_n hC (n := 24) (k := 0) (dc_X11_countOrders 24 (36, .aload_n 0, 1) rfl rfl) rfl rfl,
    st_iload_n hC (n := 25) (k := 2) (dc_X11_countOrders 25 (37, .iload_n 2, 1) rfl rfl) rfl rfl,
    st_callV hC (n := 26) (k := 11) (na := 1) (con_X11_ordersWithin l) (dc_X11_countOrders 26 (38, .invokevirtual 463, 3) rfl rfl) rfl wd_1433 wd_143 (by decide) ⟨rfl, rfl, by decide, by decide⟩ hM wd_1430 wd_1432 wd_43 clf_11,
    st_last hC (n := 27) (dc_X11_countOrders 27 (41, .lastore, 1) rfl rfl) rfl,
    st_iinc hC (n := 28) (x := 1) (dc_X11_countOrders 28 (42, .iinc 2 1, 3) rfl rfl) rfl (by decide) (by decide),
    st_goto hC (n := 29) (dc_X11_countOrders 29 (45, .goto (-36), 3) rfl rfl) (by decide),
    st_iload_n hC (n := 30) (k := 1) (dc_X11_countOrders 30 (48, .iload_n 1, 1) rfl rfl) rfl rfl,
    st_aload_n hC (n := 31) (k := 0) (dc_X11_countOrders 31 (49, .aload_n 0, 1) rfl rfl) rfl rfl,
    st_getR hC (n := 32) (k := 11) (j := 9) (dc_X11_countOrders 32 (50, .getfield 74, 3) rfl rfl) rfl clf_11 (by decide) rfl (by decide) wd_720,
    st_alen hC (n := 33) (dc_X11_countOrders 33 (53, .arraylength, 1) rfl rfl) rfl,
    st_callS hC (n := 34) (na := 2) (con_X11_isOut l) (dc_X11_countOrders 34 (54, .invokestatic 115, 3) rfl rfl) rfl wd_790 wd_143 (by decide) ⟨rfl, rfl, by decide, by decide⟩ hM wd_788 wd_789,
    st_ifeq hC (n := 35) (dc_X11_countOrders 35 (57, .ifCond .eq 7, 3) rfl rfl) rfl (by decide),
    st_lconst hC (n := 36) (x := 0) (dc_X11_countOrders 36 (60, .lconst 0, 1) rfl rfl) rfl (by decide),
    st_goto hC (n := 37) (dc_X11_countOrders 37 (61, .goto 9, 3) rfl rfl) (by decide),
    st_aload_n hC (n := 38) (k := 0) (dc_X11_countOrders 38 (64, .aload_n 0, 1) rfl rfl) rfl rfl,
    st_getR hC (n := 39) (k := 11) (j := 9) (dc_X11_countOrders 39 (65, .getfield 74, 3) rfl rfl) rfl clf_11 (by decide) rfl (by decide) wd_720,
    st_iload_n hC (n := 40) (k := 1) (dc_X11_countOrders 40 (68, .iload_n 1, 1) rfl rfl) rfl rfl,
    st_lald hC (n := 41) (dc_X11_countOrders 41 (69, .laload, 1) rfl rfl) rfl,
    st_lret hC (n := 42) hR (dc_X11_countOrders 42 (70, .lreturn, 1) rfl rfl), trivial⟩
set_option maxRecDepth 8000 in
theorem vc_X11_countOrders : VC P_X11_countOrders 3 Pre_X11_countOrders Fn_X11_countOrders := by
  rintro mm as hom hoa ⟨nt, S, hT, ht12, hS, rfl⟩
  refine ⟨Nat.le_of_ble_eq_true rfl, fun X h => ?_⟩
  have eS : (nI S).toNatClampNeg = S := nI_clamp (by omega)
  replace h : RUN P_X11_countOrders (fun r m' => (r, m') = coF mm (nI S)) X := h
  unfold coF coA at h
  obtain ⟨N, hN⟩ : ∃ N, N = 4095 := ⟨_, rfl⟩
  rw [← hN] at h
  obtain ⟨M0, e0⟩ : ∃ M0, M0 = mRowL mm 52 0 (vp_updL (mm.2.1 52 0) 0 1) := ⟨_, rfl⟩
  rw [← e0] at h
  have hT0 : M0.1 6 (M0.2.2 0) 15 = nI nt := by rw [e0]; exact hT
  obtain ⟨R, eR⟩ : ∃ R, R = coL (nI S) N 1 M0 := ⟨_, rfl⟩
  rw [← eR] at h
  have s30 : ∀ M i, R = M → X 30 [some (vR 11 0), some (vI (nI S)), some (vI (i))] [] (M) := by
    intro M i hR
    rw [hR] at h
    show X 30 [some (vR 11 0), some (vI (nI S)), some (vI i)] [] M
    refine h (fun _ => false) 3000 30 _ _ _ ?_
    refine And.intro (show Pre_X11_isOut M [vI (nI S), vI (Int32.ofNat (alen 52))] from ⟨_, _, rfl⟩) ?_
    refine br_t (show bI ((nI S) < 0 ∨ (Int32.ofNat (alen 52)) ≤ (nI S)) = 0 from bI_0.mpr (fun z => z.elim (fun y => nI_pos (by omega) y) (fun y => nI_ge hS (by omega) (show nI 4096 ≤ nI S from y)))) ?_
    refine And.intro (show inb (nI S) (alen 52) = true from (inb_o 4096 rfl rfl rfl (by omega))) ?_
    show ((some (vL (M.2.1 52 0 ((nI S).toNatClampNeg))) : Option MV), M) = _
    rfl
  have loop : ∀ k p M, p + k = N + 1 → M.1 6 (M.2.2 0) 15 = nI nt → R = coL (nI S) k p M → X 7 [some (vR 11 0), some (vI (nI S)), some (vI (nI p))] [] (M) := by
    intro k
    induction k with
    | zero =>
      intro p M hp hM hR
      have hp2 : p = 4096 := by omega
      subst hp2
      rw [coL] at hR
      have z := s30 M (nI 4096) hR
      show X 7 [some (vR 11 0), some (vI (nI S)), some (vI (nI 4096))] [] M
      refine h (fun i => Nat.beq i 30) 3000 7 _ _ _ ?_
      refine br_t (show nI S < nI 4096 from by rw [nI_ltI (by omega) (by omega)]; omega) ?_
      show X 30 [some (vR 11 0), some (vI (nI S)), some (vI (nI 4096))] [] M
      exact z
    | succ k ih =>
      intro p M hp hM hR
      rw [coL] at hR
      have ep : (nI p).toNatClampNeg = p := nI_clamp (by omega)
      have s28 : ∀ M', M'.1 6 (M'.2.2 0) 15 = nI nt → R = coL (nI S) k (p + 1) M' → X 28 [some (vR 11 0), some (vI (nI S)), some (vI (nI p))] [] (M') := by
        intro M' hM' hR'
        have z := ih (p + 1) M' (by omega) hM' hR'
        show X 28 [some (vR 11 0), some (vI (nI S)), some (vI (nI p))] [] M'
        refine h (fun i => Nat.beq i 7) 3000 28 _ _ _ ?_
        show X 7 [some (vR 11 0), some (vI (nI S)), some (vI ((nI p) + 1))] [] M'
        rw [nI_1]
        exact z
      show X 7 [some (vR 11 0), some (vI (nI S)), some (vI (nI p))] [] M
      refine h (fun i => Nat.beq i 28 || Nat.beq i 30) 3000 7 _ _ _ ?_
      refine br_c (fun b9 => ?_) (fun b9 => ?_)
      · -- 9: nI S < nI p taken
        replace b9 : nI S < nI p := b9
        (try simp only [ep] at b9)
        show X 30 [some (vR 11 0), some (vI (nI S)), some (vI (nI p))] [] M
        (try simp only [ep])
        rw [if_pos b9] at hR
        exact s30 M _ hR
      · -- 9: nI S < nI p on
        replace b9 : ¬ (nI S < nI p) := b9
        (try simp only [ep] at b9)
        refine br_f (show ¬ (Int32.ofNat (alen 52) ≤ nI p) from show ¬ nI 4096 ≤ nI p from nI_ge (by omega) (by omega)) ?_
        refine brn_c (fun b20 => ?_) (fun b20 => ?_)
        · -- 20: (nI p) &&& ((nI S) ^^^ (-1)) = 0 taken
          replace b20 : ¬ ((nI p) &&& ((nI S) ^^^ (-1)) = 0) := b20
          (try simp only [ep] at b20)
          show X 28 [some (vR 11 0), some (vI (nI S)), some (vI (nI p))] [] M
          (try simp only [ep])
          rw [if_neg b9, if_neg b20] at hR
          exact s28 M hM hR
        · -- 20: (nI p) &&& ((nI S) ^^^ (-1)) = 0 on
          replace b20 : (nI p) &&& ((nI S) ^^^ (-1)) = 0 := b20
          (try simp only [ep] at b20)
          refine And.intro (show Pre_X11_ordersWithin M [vR 11 0, vI (nI p)] from ⟨nt, p, hM, ht12, by omega, rfl⟩) ?_
          refine And.intro (show inb (nI p) (alen 52) = true from (inb_o 4096 rfl rfl rfl (by omega))) ?_
          show X 28 [some (vR 11 0), some (vI (nI S)), some (vI (nI p))] [] (mRowL M 52 0 (vp_updL (M.2.1 52 0) (nI p).toNatClampNeg (owC M (nI p))))
          (try simp only [ep])
          rw [if_neg b9, if_pos b20] at hR
          exact s28 _ hM hR
  have l0 := loop N 1 M0 (by omega) hT0 eR
  rw [e0] at l0
  show X 0 [some (vR 11 0), some (vI (nI S)), none] [] mm
  refine h (fun i => Nat.beq i 7) 3000 0 _ _ _ ?_
  refine And.intro (show inb 0 (alen 52) = true from rfl) ?_
  show X 7 [some (vR 11 0), some (vI (nI S)), some (vI 1)] [] (mRowL mm 52 0 (vp_updL (mm.2.1 52 0) 0 1))
  exact l0
theorem con_X11_countOrders (l : Launch) : CON l y_X11_countOrders prog_1_method_81_code 3 (some .long) rm_X11_countOrders Pre_X11_countOrders Fn_X11_countOrders := CON_of (by decide) rfl rfl (sa_X11_countOrders l) vc_X11_countOrders
def cl_orders (m : MM) (x : Int32) : Option MV × MM := if x < 0 ∨ m.1 6 (m.2.2 0) 13 ≤ x then (some (vL (-1 : Int32).toInt64), stC m 1) else coF (stC m 0) (thA (abV (stC m 0) ((stC m 0).2.2 0)) x &&& (stC m 0).1 1 ((stC m 0).2.2 0) 5)

def Pre_X11_orders : PreT := fun m as => VNx m ∧ ∃ x : Int32, as = [vR 11 0, vI x]
def Fn_X11_orders : FnT := fun m as => match as with
  | [_, Sum.inl x] => cl_orders m x
  | _ => (none, m)
abbrev y_X11_orders : MethodName := ⟨"GivenUp", "orders", "(I)J"⟩
def P_X11_orders : List StpT := [s_iload 1, s_aload 0, s_getD 11 12 6 0, s_getI 6 13, s_callS 2 Pre_X11_isOut Fn_X11_isOut, s_ifeq 11, s_aload 0, s_ic (1), s_callV 11 1 Pre_X11_refuse Fn_X11_refuse, s_i2l, s_lret, s_aload 0, s_ic (0), s_putI 11 15, s_aload 0, s_aload 0, s_getD 11 12 6 0, s_iload 1, s_callV 6 1 Pre_X6_goods Fn_X6_goods, s_aload 0, s_getD 11 12 6 0, s_getR 6 11 1, s_getI 1 5, s_iand, s_callV 11 1 Pre_X11_countOrders Fn_X11_countOrders, s_lret]
def pc_X11_orders : Nat → Nat := fun i => [0, 1, 2, 5, 8, 11, 14, 15, 16, 19, 20, 21, 22, 23, 26, 27, 28, 31, 32, 35, 36, 39, 42, 45, 46, 49].getD i 0
def dl_X11_orders : List (Nat × Instr × Nat) := [(0, .iload_n 1, 1), (1, .aload_n 0, 1), (2, .getfield 87, 3), (5, .getfield 197, 3), (8, .invokestatic 115, 3), (11, .ifCond .eq 10, 3), (14, .aload_n 0, 1), (15, .iconst 1, 1), (16, .invokevirtual 139, 3), (19, .i2l, 1), (20, .lreturn, 1), (21, .aload_n 0, 1), (22, .iconst 0, 1), (23, .putfield 98, 3), (26, .aload_n 0, 1), (27, .aload_n 0, 1), (28, .getfield 87, 3), (31, .iload_n 1, 1), (32, .invokevirtual 252, 3), (35, .aload_n 0, 1), (36, .getfield 87, 3), (39, .getfield 212, 3), (42, .getfield 225, 3), (45, .iand, 1), (46, .invokevirtual 420, 3), (49, .lreturn, 1)]
theorem dc_X11_orders : DEC prog_1_method_52_code pc_X11_orders dl_X11_orders := DEC_of (by decide +kernel)
abbrev rm_X11_orders : Room := { frames := 2, cells := 0, slots := 0, locals := 47 }
set_option maxRecDepth 20000 in
theorem sa_X11_orders (l : Launch) : SNDALL l prog_1_method_52_code "GivenUp" 2 (some .long) rm_X11_orders P_X11_orders pc_X11_orders := fun p e s m args below meth c cells slots Q D dA ad A RR hC hR => by
  have hM := RTX_room (R := rm_X11_orders) hR
  exact ⟨st_iload_n hC (n := 0) (k := 1) (dc_X11_orders 0 (0, .iload_n 1, 1) rfl rfl) rfl rfl,
    st_aload_n hC (n := 1) (k := 0) (dc_X11_orders 1 (1, .aload_n 0, 1) rfl rfl) rfl rfl,
    st_getD hC (n := 2) (k := 11) (j := 12) (dc_X11_orders 2 (2, .getfield 87, 3) rfl rfl) rfl clf_11 (by decide) rfl (by decide) wd_723,
    st_getI hC (n := 3) (k := 6) (j := 13) (dc_X11_orders 3 (5, .getfield 197, 3) rfl rfl) rfl clf_6 (by decide) rfl wd_622,
    st_callS hC (n := 4) (na := 2) (con_X11_isOut l) (dc_X11_orders 4 (8, .invokestatic 115, 3) rfl rfl) rfl wd_790 wd_143 (by decide) ⟨rfl, rfl, by decide, by decide⟩ hM wd_788 wd_789,
    st_ifeq hC (n := 5) (dc_X11_orders 5 (11, .ifCond .eq 10, 3) rfl rfl) rfl (by decide),
    st_aload_n hC (n := 6) (k := 0) (dc_X11_orders 6 (14, .aload_n 0, 1) rfl rfl) rfl rfl,
    st_iconst hC (n := 7) (x := 1) (dc_X11_orders 7 (15, .iconst 1, 1) rfl rfl) rfl (by decide),
    st_callV hC (n := 8) (k := 11) (na := 1) (con_X11_refuse l) (dc_X11_orders 8 (16, .invokevirtual 139, 3) rfl rfl) rfl wd_824 wd_143 (by decide) ⟨rfl, rfl, by decide, by decide⟩ hM wd_821 wd_823 wd_3 clf_11,
    st_i2l hC (n := 9) (dc_X11_orders 9 (19, .i2l, 1) rfl rfl) rfl,
    st_lret hC (n := 10) hR (dc_X11_orders 10 (20, .lreturn, 1) rfl rfl),
    st_aload_n hC (n := 11) (k := 0) (dc_X11_orders 11 (21, .aload_n 0, 1) rfl rfl) rfl rfl,
    st_iconst hC (n := 12) (x := 0) (dc_X11_orders 12 (22, .iconst 0, 1) rfl rfl) rfl (by decide),
    st_putI hC (n := 13) (k := 11) (j := 15) (dc_X11_orders 13 (23, .putfield 98, 3) rfl rfl) rfl clf_11 (by decide) rfl rfl rfl wd_726,
    st_aload_n hC (n := 14) (k := 0) (dc_X11_orders 14 (26, .aload_n 0, 1) rfl rfl) rfl rfl,
    st_aload_n hC (n := 15) (k := 0) (dc_X11_orders 15 (27, .aload_n 0, 1) rfl rfl) rfl rfl,
    st_getD hC (n := 16) (k := 11) (j := 12) (dc_X11_orders 16 (28, .getfield 87, 3) rfl rfl) rfl clf_11 (by decide) rfl (by decide) wd_723,
    st_iload_n hC (n := 17) (k := 1) (dc_X11_orders 17 (31, .iload_n 1, 1) rfl rfl) rfl rfl,
    st_callV hC (n := 18) (k := 6) (na := 1) (con_X6_goods l) (dc_X11_orders 18 (32, .invokevirtual 252, 3) rfl rfl) rfl wd_1035 wd_155 (by decide) ⟨rfl, rfl, by decide, by decide⟩ hM wd_1048 wd_1033 wd_1034 clf_6,
    st_aload_n hC (n := 19) (k := 0) (dc_X11_orders 19 (35, .aload_n 0, 1) rfl rfl) rfl rfl,
    st_getD hC (n := 20) (k := 11) (j := 12) (dc_X11_orders 20 (36, .getfield 87, 3) rfl rfl) rfl clf_11 (by decide) rfl (by decide) wd_723,
    st_getR hC (n := 21) (k := 6) (j := 11) (dc_X11_orders 21 (39, .getfield 212, 3) rfl rfl) rfl clf_6 (by decide) rfl (by decide) wd_613,
    st_getI hC (n := 22) (k := 1) (j := 5) (dc_X11_orders 22 (42, .getfield 225, 3) rfl rfl) rfl clf_1 (by decide) rfl wd_484,
    st_iand hC (n := 23) (dc_X11_orders 23 (45, .iand, 1) rfl rfl) rfl,
    st_callV hC (n := 24) (k := 11) (na := 1) (con_X11_countOrders l) (dc_X11_orders 24 (46, .invokevirtual 420, 3) rfl rfl) rfl wd_1429 wd_143 (by decide) ⟨rfl, rfl, by decide, by decide⟩ hM wd_1426 wd_1428 wd_42 clf_11,
    st_lret hC (n := 25) hR (dc_X11_orders 25 (49, .lreturn, 1) rfl rfl), trivial⟩
set_option maxRecDepth 8000 in
theorem vc_X11_orders : VC P_X11_orders 2 Pre_X11_orders Fn_X11_orders := by
  rintro mm as hom hoa ⟨⟨ns, nm, nt, hV⟩, x, rfl⟩
  refine ⟨Nat.le_of_ble_eq_true rfl, fun X h => ?_⟩
  have s14 : ∀ M, VN M ns nm nt → cl_orders mm x = coF M (thA (abV M (M.2.2 0)) x &&& M.1 1 (M.2.2 0) 5) → X 14 [some (vR 11 0), some (vI (x))] [] (M) := by
    intro M hM hR
    have hT : M.1 6 (M.2.2 0) 15 = nI nt := hM.1.2.2.1.1
    have ht12 : nt ≤ 12 := hM.1.2.2.1.2
    obtain ⟨W, hW, eW⟩ := th_and hM.1 x (M.1 1 (M.2.2 0) 5)
    have s24 : X 24 [some (vR 11 0), some (vI (x))] [vI (nI W), vR 11 0] (M) := by
      rw [eW] at hR
      show X 24 [some (vR 11 0), some (vI x)] [vI (nI W), vR 11 0] M
      refine h (fun _ => false) 3000 24 _ _ _ ?_
      refine And.intro (show Pre_X11_countOrders M [vR 11 0, vI (nI W)] from ⟨nt, W, hT, ht12, hW, rfl⟩) ?_
      show ((some (vL ((coA M (nI W)).2.1 52 0 (nI W).toNatClampNeg)) : Option MV), coA M (nI W)) = _
      exact hR.symm
    show X 14 [some (vR 11 0), some (vI x)] [] M
    refine h (fun i => Nat.beq i 24) 3000 14 _ _ _ ?_
    refine And.intro (show Pre_X6_goods M [vR 6 (M.2.2 0), vI x] from ⟨_, ns, nm, nt, hM, _, rfl⟩) ?_
    show X 24 [some (vR 11 0), some (vI x)] [vI ((thA (abV M (M.2.2 0)) x) &&& (M.1 1 (M.2.2 0) 5)), vR 11 0] M
    rw [eW]
    exact s24
  show X 0 [some (vR 11 0), some (vI x)] [] mm
  refine h (fun i => Nat.beq i 14) 3000 0 _ _ _ ?_
  refine And.intro (show Pre_X11_isOut mm [vI x, vI (mm.1 6 (mm.2.2 0) 13)] from ⟨_, _, rfl⟩) ?_
  refine br_c (fun b5 => ?_) (fun b5 => ?_)
  · -- 5: bI (x < 0 ∨ (mm.1 6 (mm.2.2 0) 13) ≤ x) = 0 taken
    replace b5 : ¬ (x < 0 ∨ (mm.1 6 (mm.2.2 0) 13) ≤ x) := bI_0.mp b5
    show X 14 [some (vR 11 0), some (vI x)] [] (mI mm 11 0 15 0)
    exact s14 _ hV (if_neg b5)
  · -- 5: bI (x < 0 ∨ (mm.1 6 (mm.2.2 0) 13) ≤ x) = 0 on
    replace b5 : x < 0 ∨ (mm.1 6 (mm.2.2 0) 13) ≤ x := bI_n0.mp b5
    refine And.intro (show Pre_X11_refuse mm [vR 11 0, vI 1] from ⟨_, rfl⟩) ?_
    show ((some (vL ((-1).toInt64)) : Option MV), stC mm 1) = _
    exact (if_pos b5).symm
theorem con_X11_orders (l : Launch) : CON l y_X11_orders prog_1_method_52_code 2 (some .long) rm_X11_orders Pre_X11_orders Fn_X11_orders := CON_of (by decide) rfl rfl (sa_X11_orders l) vc_X11_orders
def cl_ways (m : MM) (x : Int32) : Option MV × MM := if x < 0 ∨ m.1 6 (m.2.2 0) 13 ≤ x then (some (vL (-1 : Int32).toInt64), stC m 1) else coF (stC m 0) (thA (abV (stC m 0) ((stC m 0).2.2 0)) x &&& ((stC m 0).1 6 ((stC m 0).2.2 0) 19 ^^^ (-1)))

def Pre_X11_ways : PreT := fun m as => VNx m ∧ ∃ x : Int32, as = [vR 11 0, vI x]
def Fn_X11_ways : FnT := fun m as => match as with
  | [_, Sum.inl x] => cl_ways m x
  | _ => (none, m)
abbrev y_X11_ways : MethodName := ⟨"GivenUp", "ways", "(I)J"⟩
def P_X11_ways : List StpT := [s_iload 1, s_aload 0, s_getD 11 12 6 0, s_getI 6 13, s_callS 2 Pre_X11_isOut Fn_X11_isOut, s_ifeq 11, s_aload 0, s_ic (1), s_callV 11 1 Pre_X11_refuse Fn_X11_refuse, s_i2l, s_lret, s_aload 0, s_ic (0), s_putI 11 15, s_aload 0, s_aload 0, s_getD 11 12 6 0, s_iload 1, s_callV 6 1 Pre_X6_goods Fn_X6_goods, s_aload 0, s_getD 11 12 6 0, s_getI 6 19, s_ic (-1), s_ixor, s_iand, s_callV 11 1 Pre_X11_countOrders Fn_X11_countOrders, s_lret]
def pc_X11_ways : Nat → Nat := fun i => [0, 1, 2, 5, 8, 11, 14, 15, 16, 19, 20, 21, 22, 23, 26, 27, 28, 31, 32, 35, 36, 39, 42, 43, 44, 45, 48].getD i 0
def dl_X11_ways : List (Nat × Instr × Nat) := [(0, .iload_n 1, 1), (1, .aload_n 0, 1), (2, .getfield 87, 3), (5, .getfield 197, 3), (8, .invokestatic 115, 3), (11, .ifCond .eq 10, 3), (14, .aload_n 0, 1), (15, .iconst 1, 1), (16, .invokevirtual 139, 3), (19, .i2l, 1), (20, .lreturn, 1), (21, .aload_n 0, 1), (22, .iconst 0, 1), (23, .putfield 98, 3), (26, .aload_n 0, 1), (27, .aload_n 0, 1), (28, .getfield 87, 3), (31, .iload_n 1, 1), (32, .invokevirtual 252, 3), (35, .aload_n 0, 1), (36, .getfield 87, 3), (39, .getfield 433, 3), (42, .iconst (-1), 1), (43, .ixor, 1), (44, .iand, 1), (45, .invokevirtual 420, 3), (48, .lreturn, 1)]
theorem dc_X11_ways : DEC prog_1_method_56_code pc_X11_ways dl_X11_ways := DEC_of (by decide +kernel)
abbrev rm_X11_ways : Room := { frames := 2, cells := 0, slots := 0, locals := 47 }
set_option maxRecDepth 20000 in
theorem sa_X11_ways (l : Launch) : SNDALL l prog_1_method_56_code "GivenUp" 2 (some .long) rm_X11_ways P_X11_ways pc_X11_ways := fun p e s m args below meth c cells slots Q D dA ad A RR hC hR => by
  have hM := RTX_room (R := rm_X11_ways) hR
  exact ⟨st_iload_n hC (n := 0) (k := 1) (dc_X11_ways 0 (0, .iload_n 1, 1) rfl rfl) rfl rfl,
    st_aload_n hC (n := 1) (k := 0) (dc_X11_ways 1 (1, .aload_n 0, 1) rfl rfl) rfl rfl,
    st_getD hC (n := 2) (k := 11) (j := 12) (dc_X11_ways 2 (2, .getfield 87, 3) rfl rfl) rfl clf_11 (by decide) rfl (by decide) wd_723,
    st_getI hC (n := 3) (k := 6) (j := 13) (dc_X11_ways 3 (5, .getfield 197, 3) rfl rfl) rfl clf_6 (by decide) rfl wd_622,
    st_callS hC (n := 4) (na := 2) (con_X11_isOut l) (dc_X11_ways 4 (8, .invokestatic 115, 3) rfl rfl) rfl wd_790 wd_143 (by decide) ⟨rfl, rfl, by decide, by decide⟩ hM wd_788 wd_789,
    st_ifeq hC (n := 5) (dc_X11_ways 5 (11, .ifCond .eq 10, 3) rfl rfl) rfl (by decide),
    st_aload_n hC (n := 6) (k := 0) (dc_X11_ways 6 (14, .aload_n 0, 1) rfl rfl) rfl rfl,
    st_iconst hC (n := 7) (x := 1) (dc_X11_ways 7 (15, .iconst 1, 1) rfl rfl) rfl (by decide),
    st_callV hC (n := 8) (k := 11) (na := 1) (con_X11_refuse l) (dc_X11_ways 8 (16, .invokevirtual 139, 3) rfl rfl) rfl wd_824 wd_143 (by decide) ⟨rfl, rfl, by decide, by decide⟩ hM wd_821 wd_823 wd_3 clf_11,
    st_i2l hC (n := 9) (dc_X11_ways 9 (19, .i2l, 1) rfl rfl) rfl,
    st_lret hC (n := 10) hR (dc_X11_ways 10 (20, .lreturn, 1) rfl rfl),
    st_aload_n hC (n := 11) (k := 0) (dc_X11_ways 11 (21, .aload_n 0, 1) rfl rfl) rfl rfl,
    st_iconst hC (n := 12) (x := 0) (dc_X11_ways 12 (22, .iconst 0, 1) rfl rfl) rfl (by decide),
    st_putI hC (n := 13) (k := 11) (j := 15) (dc_X11_ways 13 (23, .putfield 98, 3) rfl rfl) rfl clf_11 (by decide) rfl rfl rfl wd_726,
    st_aload_n hC (n := 14) (k := 0) (dc_X11_ways 14 (26, .aload_n 0, 1) rfl rfl) rfl rfl,
    st_aload_n hC (n := 15) (k := 0) (dc_X11_ways 15 (27, .aload_n 0, 1) rfl rfl) rfl rfl,
    st_getD hC (n := 16) (k := 11) (j := 12) (dc_X11_ways 16 (28, .getfield 87, 3) rfl rfl) rfl clf_11 (by decide) rfl (by decide) wd_723,
    st_iload_n hC (n := 17) (k := 1) (dc_X11_ways 17 (31, .iload_n 1, 1) rfl rfl) rfl rfl,
    st_callV hC (n := 18) (k := 6) (na := 1) (con_X6_goods l) (dc_X11_ways 18 (32, .invokevirtual 252, 3) rfl rfl) rfl wd_1035 wd_155 (by decide) ⟨rfl, rfl, by decide, by decide⟩ hM wd_1048 wd_1033 wd_1034 clf_6,
    st_aload_n hC (n := 19) (k := 0) (dc_X11_ways 19 (35, .aload_n 0, 1) rfl rfl) rfl rfl,
    st_getD hC (n := 20) (k := 11) (j := 12) (dc_X11_ways 20 (36, .getfield 87, 3) rfl rfl) rfl clf_11 (by decide) rfl (by decide) wd_723,
    st_getI hC (n := 21) (k := 6) (j := 19) (dc_X11_ways 21 (39, .getfield 433, 3) rfl rfl) rfl clf_6 (by decide) rfl wd_646,
    st_iconst hC (n := 22) (x := (-1)) (dc_X11_ways 22 (42, .iconst (-1), 1) rfl rfl) rfl (by decide),
    st_ixor hC (n := 23) (dc_X11_ways 23 (43, .ixor, 1) rfl rfl) rfl,
    st_iand hC (n := 24) (dc_X11_ways 24 (44, .iand, 1) rfl rfl) rfl,
    st_callV hC (n := 25) (k := 11) (na := 1) (con_X11_countOrders l) (dc_X11_ways 25 (45, .invokevirtual 420, 3) rfl rfl) rfl wd_1429 wd_143 (by decide) ⟨rfl, rfl, by decide, by decide⟩ hM wd_1426 wd_1428 wd_42 clf_11,
    st_lret hC (n := 26) hR (dc_X11_ways 26 (48, .lreturn, 1) rfl rfl), trivial⟩
set_option maxRecDepth 8000 in
theorem vc_X11_ways : VC P_X11_ways 2 Pre_X11_ways Fn_X11_ways := by
  rintro mm as hom hoa ⟨⟨ns, nm, nt, hV⟩, x, rfl⟩
  refine ⟨Nat.le_of_ble_eq_true rfl, fun X h => ?_⟩
  have s14 : ∀ M, VN M ns nm nt → cl_ways mm x = coF M (thA (abV M (M.2.2 0)) x &&& (M.1 6 (M.2.2 0) 19 ^^^ (-1))) → X 14 [some (vR 11 0), some (vI (x))] [] (M) := by
    intro M hM hR
    have hT : M.1 6 (M.2.2 0) 15 = nI nt := hM.1.2.2.1.1
    have ht12 : nt ≤ 12 := hM.1.2.2.1.2
    obtain ⟨W, hW, eW⟩ := th_and hM.1 x (M.1 6 (M.2.2 0) 19 ^^^ (-1))
    have s25 : X 25 [some (vR 11 0), some (vI (x))] [vI (nI W), vR 11 0] (M) := by
      rw [eW] at hR
      show X 25 [some (vR 11 0), some (vI x)] [vI (nI W), vR 11 0] M
      refine h (fun _ => false) 3000 25 _ _ _ ?_
      refine And.intro (show Pre_X11_countOrders M [vR 11 0, vI (nI W)] from ⟨nt, W, hT, ht12, hW, rfl⟩) ?_
      show ((some (vL ((coA M (nI W)).2.1 52 0 (nI W).toNatClampNeg)) : Option MV), coA M (nI W)) = _
      exact hR.symm
    show X 14 [some (vR 11 0), some (vI x)] [] M
    refine h (fun i => Nat.beq i 25) 3000 14 _ _ _ ?_
    refine And.intro (show Pre_X6_goods M [vR 6 (M.2.2 0), vI x] from ⟨_, ns, nm, nt, hM, _, rfl⟩) ?_
    show X 25 [some (vR 11 0), some (vI x)] [vI ((thA (abV M (M.2.2 0)) x) &&& ((M.1 6 (M.2.2 0) 19) ^^^ (-1))), vR 11 0] M
    rw [eW]
    exact s25
  show X 0 [some (vR 11 0), some (vI x)] [] mm
  refine h (fun i => Nat.beq i 14) 3000 0 _ _ _ ?_
  refine And.intro (show Pre_X11_isOut mm [vI x, vI (mm.1 6 (mm.2.2 0) 13)] from ⟨_, _, rfl⟩) ?_
  refine br_c (fun b5 => ?_) (fun b5 => ?_)
  · -- 5: bI (x < 0 ∨ (mm.1 6 (mm.2.2 0) 13) ≤ x) = 0 taken
    replace b5 : ¬ (x < 0 ∨ (mm.1 6 (mm.2.2 0) 13) ≤ x) := bI_0.mp b5
    show X 14 [some (vR 11 0), some (vI x)] [] (mI mm 11 0 15 0)
    exact s14 _ hV (if_neg b5)
  · -- 5: bI (x < 0 ∨ (mm.1 6 (mm.2.2 0) 13) ≤ x) = 0 on
    replace b5 : x < 0 ∨ (mm.1 6 (mm.2.2 0) 13) ≤ x := bI_n0.mp b5
    refine And.intro (show Pre_X11_refuse mm [vR 11 0, vI 1] from ⟨_, rfl⟩) ?_
    show ((some (vL ((-1).toInt64)) : Option MV), stC mm 1) = _
    exact (if_pos b5).symm
theorem con_X11_ways (l : Launch) : CON l y_X11_ways prog_1_method_56_code 2 (some .long) rm_X11_ways Pre_X11_ways Fn_X11_ways := CON_of (by decide) rfl rfl (sa_X11_ways l) vc_X11_ways
end
