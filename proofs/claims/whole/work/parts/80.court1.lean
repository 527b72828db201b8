/-! PART 80: the class: couples of a tray, who would bolt -/

theorem abV_c {M m : MM} {g : Nat} (h : ∀ k, (k = 1 ∨ k = 6 ∨ (15 < k ∧ k < 40)) → M.1 k g = m.1 k g) : abV M g = abV m g := by
  have e1 := h 1 (by decide)
  have e6 := h 6 (by decide)
  have f : fldF M g = fldF m g := by
    funext j
    unfold fldF
    simp only [e1, e6]
  have s : suF M g = suF m g := by
    funext j
    unfold suF
    simp only [h 30 (by decide), h 16 (by decide), h 17 (by decide), h 18 (by decide)]
  have a : maF M g = maF m g := by
    funext j
    unfold maF
    simp only [h 32 (by decide), h 33 (by decide), h 34 (by decide), h 19 (by decide)]
  have t : thF M g = thF m g := by
    funext j
    unfold thF
    simp only [h 35 (by decide), h 36 (by decide), h 37 (by decide)]
  unfold abV
  rw [f, s, a, t, h 39 (by decide), h 31 (by decide)]
theorem VC2_c {M m : MM} {g ns nm nt : Nat} (h : abV M g = abV m g) (hV : VC2 m g ns nm nt) : VC2 M g ns nm nt := by
  unfold VC2
  rw [h]
  exact hV
/-- a tray may give this MAID -/
abbrev ldP (v : Int64) (b : Int32) : Prop := ¬ lg_cmp v (-1) < 0 ∧ lg_cmp v b.toInt64 < 0
def ldG (T : Nat → Int64) (b : Int32) : Nat → Nat → Int32 → MM → PR
  | 0, _, _, m => (true, m)
  | k + 1, s, seen, m => if ldP (T s) b then (if lg_cmp (T s) 0 < 0 then ldG T b k (s + 1) seen (mRow m 13 0 (upd (m.1 13 0) s (T s).toInt32)) else if inS seen (T s).toInt32 then (false, mRow m 13 0 (upd (m.1 13 0) s (T s).toInt32)) else ldG T b k (s + 1) (seen ||| 1 <<< ((T s).toInt32 &&& 31)) (mRow m 13 0 (upd (m.1 13 0) s (T s).toInt32))) else (false, m)

--tpl ⟨_, _, _, by assumption, by omega, rfl⟩ || bI ((ldG ({m}.2.1 28 {g1}) ({r 1 6 {g2} 14}) ({r 1 6 {g2} 13}).toNatClampNeg 0 0 {m}).1 = true) || (ldG ({m}.2.1 28 {g1}) ({r 1 6 {g2} 14}) ({r 1 6 {g2} 13}).toNatClampNeg 0 0 {m}).2
def Pre_X0_load : PreT := fun m as => ∃ t v ns : Nat, m.1 6 v 13 = nI ns ∧ ns ≤ 4 ∧ as = [vR 0 0, vR 5 t, vR 6 v]
def Fn_X0_load : FnT := fun m as => match as with
  | [_, Sum.inr (Sum.inr t), Sum.inr (Sum.inr v)] => (some (vI (bI ((ldG (m.2.1 28 t.2) (m.1 6 v.2 14) (m.1 6 v.2 13).toNatClampNeg 0 0 m).1 = true))), (ldG (m.2.1 28 t.2) (m.1 6 v.2 14) (m.1 6 v.2 13).toNatClampNeg 0 0 m).2)
  | _ => (none, m)
abbrev y_X0_load : MethodName := ⟨"GivenUp$Courtship", "load", "(LGivenUp$Tray;LGivenUp$Valley;)Z"⟩
def P_X0_load : List StpT := [s_ic (0), s_istore 3, s_ic (0), s_istore 4, s_iload 4, s_aload 2, s_getI 6 13, s_icge 55, s_aload 1, s_getR 5 0 28, s_iload 4, s_lald, s_lstore 5, s_lload 5, s_lc (-1), s_lcmp, s_iflt 23, s_lload 5, s_aload 2, s_getI 6 14, s_i2l, s_lcmp, s_iflt 25, s_ic (0), s_zret, s_aload 0, s_getR 0 0 13, s_iload 4, s_lload 5, s_l2i, s_iast, s_lload 5, s_lc 0, s_lcmp, s_iflt 53, s_iload 3, s_aload 0, s_getR 0 0 13, s_iload 4, s_iald, s_callS 2 Pre_X11_holds Fn_X11_holds, s_ifeq 44, s_ic (0), s_zret, s_iload 3, s_ic (1), s_aload 0, s_getR 0 0 13, s_iload 4, s_iald, s_ishl, s_ior, s_istore 3, s_iinc 4 (1), s_goto 4, s_ic (1), s_zret]
def pc_X0_load : Nat → Nat := fun i => [0, 1, 2, 3, 5, 7, 8, 11, 14, 15, 18, 20, 21, 23, 25, 28, 29, 32, 34, 35, 38, 39, 40, 43, 44, 45, 46, 49, 51, 53, 54, 55, 57, 58, 59, 62, 63, 64, 67, 69, 70, 73, 76, 77, 78, 79, 80, 81, 84, 86, 87, 88, 89, 90, 93, 96, 97].getD i 0
def dl_X0_load : List (Nat × Instr × Nat) := [(0, .iconst 0, 1), (1, .istore_n 3, 1), (2, .iconst 0, 1), (3, .istore 4, 2), (5, .iload 4, 2), (7, .aload_n 2, 1), (8, .getfield 34, 3), (11, .if_icmp .ge 85, 3), (14, .aload_n 1, 1), (15, .getfield 39, 3), (18, .iload 4, 2), (20, .laload, 1), (21, .lstore 5, 2), (23, .lload 5, 2), (25, .ldc2_w 45, 3), (28, .lcmp, 1), (29, .ifCond .lt 14, 3), (32, .lload 5, 2), (34, .aload_n 2, 1), (35, .getfield 47, 3), (38, .i2l, 1), (39, .lcmp, 1), (40, .ifCond .lt 5, 3), (43, .iconst 0, 1), (44, .ireturn, 1), (45, .aload_n 0, 1), (46, .getfield 9, 3), (49, .iload 4, 2), (51, .lload 5, 2), (53, .l2i, 1), (54, .iastore, 1), (55, .lload 5, 2), (57, .lconst 0, 1), (58, .lcmp, 1), (59, .ifCond .lt 31, 3), (62, .iload_n 3, 1), (63, .aload_n 0, 1), (64, .getfield 9, 3), (67, .iload 4, 2), (69, .iaload, 1), (70, .invokestatic 50, 3), (73, .ifCond .eq 5, 3), (76, .iconst 0, 1), (77, .ireturn, 1), (78, .iload_n 3, 1), (79, .iconst 1, 1), (80, .aload_n 0, 1), (81, .getfield 9, 3), (84, .iload 4, 2), (86, .iaload, 1), (87, .ishl, 1), (88, .ior, 1), (89, .istore_n 3, 1), (90, .iinc 4 1, 3), (93, .goto (-88), 3), (96, .iconst 1, 1), (97, .ireturn, 1)]
theorem dc_X0_load : DEC prog_2_method_2_code pc_X0_load dl_X0_load := DEC_of (by decide +kernel)
abbrev rm_X0_load : Room := { frames := 1, cells := 0, slots := 0, locals := 21 }
set_option maxRecDepth 20000 in
theorem sa_X0_load (l : Launch) : SNDALL l prog_2_method_2_code "GivenUp$Courtship" 7 (some .boolean) rm_X0_load P_X0_load pc_X0_load := fun p e s m args below meth c cells slots Q D dA ad A RR hC hR => by
  have hM := RTX_room (R := rm_X0_load) hR
  exact ⟨st_iconst hC (n := 0) (x := 0) (dc_X0_load 0 (0, .iconst 0, 1) rfl rfl) rfl (by decide),
    st_istore_n hC (n := 1) (k := 3) (dc_X0_load 1 (1, .istore_n 3, 1) rfl rfl) rfl rfl (by decide),
    st_iconst hC (n := 2) (x := 0) (dc_X0_load 2 (2, .iconst 0, 1) rfl rfl) rfl (by decide),
    st_istore hC (n := 3) (dc_X0_load 3 (3, .istore 4, 2) rfl rfl) rfl (by decide),
    st_iload hC (n := 4) (dc_X0_load 4 (5, .iload 4, 2) rfl rfl) rfl,
    st_aload_n hC (n := 5) (k := 2) (dc_X0_load 5 (7, .aload_n 2, 1) rfl rfl) rfl rfl,
    st_getI hC (n := 6) (k := 6) (j := 13) (dc_X0_load 6 (8, .getfield 34, 3) rfl rfl) rfl clf_6 (by decide) rfl wd_619,
    st_icge hC (n := 7) (dc_X0_load 7 (11, .if_icmp .ge 85, 3) rfl rfl) rfl (by decide),
    st_aload_n hC (n := 8) (k := 1) (dc_X0_load 8 (14, .aload_n 1, 1) rfl rfl) rfl rfl,
    st_getR hC (n := 9) (k := 5) (j := 0) (dc_X0_load 9 (15, .getfield 39, 3) rfl rfl) rfl clf_5 (by decide) rfl (by decide) wd_694,
    st_iload hC (n := 10) (dc_X0_load 10 (18, .iload 4, 2) rfl rfl) rfl,
    st_lald hC (n := 11) (dc_X0_load 11 (20, .laload, 1) rfl rfl) rfl,
    st_lstore hC (n := 12) (dc_X0_load 12 (21, .lstore 5, 2) rfl rfl) rfl (by decide),
    st_lload hC (n := 13) (dc_X0_load 13 (23, .lload 5, 2) rfl rfl) rfl,
    st_ldc2 hC (n := 14) (x := (-1)) (dc_X0_load 14 (25, .ldc2_w 45, 3) rfl rfl) rfl wd_1381,
    st_lcmp hC (n := 15) (dc_X0_load 15 (28, .lcmp, 1) rfl rfl) rfl,
    st_iflt hC (n := 16) (dc_X0_load 16 (29, .ifCond .lt 14, 3) rfl rfl) rfl (by decide),
    st_lload hC (n := 17) (dc_X0_load 17 (32, .lload 5, 2) rfl rfl) rfl,
    st_aload_n hC (n := 18) (k := 2) (dc_X0_load 18 (34, .aload_n 2, 1) rfl rfl) rfl rfl,
    st_getI hC (n := 19) (k := 6) (j := 14) (dc_X0_load 19 (35, .getfield 47, 3) rfl rfl) rfl clf_6 (by decide) rfl wd_625,
    st_i2l hC (n := 20) (dc_X0_load 20 (38, .i2l, 1) rfl rfl) rfl,
    st_lcmp hC (n := 21) (dc_X0_load 21 (39, .lcmp, 1) rfl rfl) rfl,
    st_iflt hC (n := 22) (dc_X0_load 22 (40, .ifCond .lt 5, 3) rfl rfl) rfl (by decide),
    st_iconst hC (n := 23) (x := 0) (dc_X0_load 23 (43, .iconst 0, 1) rfl rfl) rfl (by decide),
    st_zret hC (n := 24) hR (dc_X0_load 24 (44, .ireturn, 1) rfl rfl),
    st_aload_n hC (n := 25) (k := 0) (dc_X0_load 25 (45, .aload_n 0, 1) rfl rfl) rfl rfl,
    st_getR hC (n := 26) (k := 0) (j := 0) (dc_X0_load 26 (46, .getfield 9, 3) rfl rfl) rfl clf_0 (by decide) rfl (by decide) wd_404,
    st_iload hC (n := 27) (dc_X0_load 27 (49, .iload 4, 2) rfl rfl) rfl,
    st_lload hC (n := 28) (dc_X0_load 28 (51, .lload 5, 2) rfl rfl) rfl,
    st_l2i hC (n := 29) (dc_X0_load 29 (53, .l2i, 1) rfl rfl) rfl,
    st_iast hC (n := 30) (dc_X0_load 30 (54, .iastore, 1) rfl rfl) rfl,
    st_lload hC (n := 31) (dc_X0_load 31 (55, .lload 5, 2) rfl rfl) rfl,
    st_lconst hC (n := 32) (x := 0) (dc_X0_load 32 (57, .lconst 0, 1) rfl rfl) rfl (by decide),
    st_lcmp hC (n := 33) (dc_X0_load 33 (58, .lcmp, 1) rfl rfl) rfl,
    st_iflt hC (n := 34) (dc_X0_load 34 (59, .ifCond .lt 31, 3) rfl rfl) rfl (by decide),
    st_iload_n hC (n := 35) (k := 3) (dc_X0_load 35 (62, .iload_n 3, 1) rfl rfl) rfl rfl,
    st_aload_n hC (n := 36) (k := 0) (dc_X0_load 36 (63, .aload_n 0, 1) rfl rfl) rfl rfl,
    st_getR hC (n := 37) (k := 0) (j := 0) (dc_X0_load 37 (64, .getfield 9, 3) rfl rfl) rfl clf_0 (by decide) rfl (by decide) wd_404,
    st_iload hC (n := 38) (dc_X0_load 38 (67, .iload 4, 2) rfl rfl) rfl,
    st_iald hC (n := 39) (dc_X0_load 39 (69, .iaload, 1) rfl rfl) rfl,
    st_callSN hC (n := 40) (na := 2) (con_X11_holds l) (dc_X0_load 40 (70, .invokestatic 50, 3) rfl rfl) rfl wd_955 wd_143 (by decide) ⟨rfl, rfl, by decide, by decide⟩ hM ⟨"GivenUp", by decide⟩ wd_954,
    st_ifeq hC (n := 41) (dc_X0_load 41 (73, .ifCond .eq 5, 3) rfl rfl) rfl (by decide),
    st_iconst hC (n := 42) (x := 0) (dc_X0_load 42 (76, .iconst 0, 1) rfl rfl) rfl (by decide),
    st_zret hC (n := 43) hR (dc_X0_load 43 (77, .ireturn, 1) rfl rfl),
    st_iload_n hC (n := 44) (k := 3) (dc_X0_load 44 (78, .iload_n 3, 1) rfl rfl) rfl rfl,
    st_iconst hC (n := 45) (x := 1) (dc_X0_load 45 (79, .iconst 1, 1) rfl rfl) rfl (by decide),
    st_aload_n hC (n := 46) (k := 0) (dc_X0_load 46 (80, .aload_n 0, 1) rfl rfl) rfl rfl,
    st_getR hC (n := 47) (k := 0) (j := 0) (dc_X0_load 47 (81, .getfield 9, 3) rfl rfl) rfl clf_0 (by decide) rfl (by decide) wd_404,
    st_iload hC (n := 48) (dc_X0_load 48 (84, .iload 4, 2) rfl rfl) rfl,
    st_iald hC (n := 49) (dc_X0_load 49 (86, .iaload, 1) rfl rfl) rfl,
    st_ishl hC (n := 50) (dc_X0_load 50 (87, .ishl, 1) rfl rfl) rfl,
    st_ior hC (n := 51) (dc_X0_load 51 (88, .ior, 1) rfl rfl) rfl,
    st_istore_n hC (n := 52) (k := 3) (dc_X0_load 52 (89, .istore_n 3, 1) rfl rfl) rfl rfl (by decide),
    st_iinc hC (n := 53) (x := 1) (dc_X0_load 53 (90, .iinc 4 1, 3) rfl rfl) rfl (by decide) (by decide),
    st_goto hC (n := 54) (dc_X0_load 54 (93, .goto (-88), 3) rfl rfl) (by decide),
    st_iconst hC (n := 55) (x := 1) (dc_X0_load 55 (96, .iconst 1, 1) rfl rfl) rfl (by decide),
    st_zret hC (n := 56) hR (dc_X0_load 56 (97, .ireturn, 1) rfl rfl), trivial⟩
set_option maxRecDepth 8000 in
theorem vc_X0_load : VC P_X0_load 7 Pre_X0_load Fn_X0_load := by
  rintro mm as hom hoa ⟨t, v, ns, hS, hn4, rfl⟩
  refine ⟨Nat.le_of_ble_eq_true rfl, fun X h => ?_⟩
  replace h : RUN P_X0_load (RT (ldG (mm.2.1 28 t) (mm.1 6 v 14) (mm.1 6 v 13).toNatClampNeg 0 0 mm)) X := h
  rw [hS, nI_clamp (show ns < 2 ^ 31 by omega)] at h
  obtain ⟨b, hB⟩ : ∃ b, mm.1 6 v 14 = b := ⟨_, rfl⟩
  obtain ⟨T, hT⟩ : ∃ T, mm.2.1 28 t = T := ⟨_, rfl⟩
  rw [hB, hT] at h
  have loop : ∀ k j seen M p, j + k = ns → M.1 6 v 13 = nI ns → M.1 6 v 14 = b → M.2.1 28 t = T → p = ldG T b k j seen M → RUN P_X0_load (RT p) X → ∀ L5, X 4 [some (vR 0 0), some (vR 5 t), some (vR 6 v), some (vI (seen)), some (vI (nI j)), L5, none] [] (M) := by
    intro k
    induction k with
    | zero =>
      intro j seen M p hj hS hB hT hp h L5
      have hj2 : j = ns := by omega
      rw [ldG] at hp
      show X 4 [some (vR 0 0), some (vR 5 t), some (vR 6 v), some (vI seen), some (vI (nI j)), L5, none] [] M
      refine h (fun _ => false) 3000 4 _ _ _ ?_
      refine br_t (show M.1 6 v 13 ≤ nI j from by rw [hS, hj2]; exact Int32.le_refl _) ?_
      refine And.intro (Or.inr rfl) ?_
      show ((some (vI 1) : Option MV), M) = _
      exact PR_t hp
    | succ k ih =>
      intro j seen M p hj hS hB hT hp h L5
      have ej : (nI j).toNatClampNeg = j := nI_clamp (by omega)
      rw [ldG] at hp
      obtain ⟨V, hV⟩ : ∃ V, V = T j := ⟨_, rfl⟩
      rw [← hV] at hp
      have s53 : ∀ M' seen', M'.1 6 v 13 = nI ns → M'.1 6 v 14 = b → M'.2.1 28 t = T → p = ldG T b k (j + 1) seen' M' → X 53 [some (vR 0 0), some (vR 5 t), some (vR 6 v), some (vI (seen')), some (vI (nI j)), some (vL (V)), none] [] (M') := by
        intro M' seen' hS hB hT hp
        have z := ih (j + 1) seen' M' p (by omega) hS hB hT hp h
        show X 53 [some (vR 0 0), some (vR 5 t), some (vR 6 v), some (vI seen'), some (vI (nI j)), some (vL V), none] [] M'
        refine h (fun i => Nat.beq i 4) 3000 53 _ _ _ ?_
        show X 4 [some (vR 0 0), some (vR 5 t), some (vR 6 v), some (vI seen'), some (vI ((nI j) + 1)), some (vL V), none] [] M'
        rw [nI_1]
        exact z _
      have s25 : ldP V b → X 25 [some (vR 0 0), some (vR 5 t), some (vR 6 v), some (vI (seen)), some (vI (nI j)), some (vL (V)), none] [] (M) := by
        intro c
        rw [if_pos c] at hp
        obtain ⟨M', hM'⟩ : ∃ M', M' = mRow M 13 0 (upd (M.1 13 0) j V.toInt32) := ⟨_, rfl⟩
        rw [← hM'] at hp
        have er : M'.1 13 0 j = V.toInt32 := by rw [hM', mRow_row, upd_eq]
        have q13 : M'.1 6 v 13 = nI ns := by rw [hM']; exact hS
        have q14 : M'.1 6 v 14 = b := by rw [hM']; exact hB
        have qT : M'.2.1 28 t = T := by rw [hM']; exact hT
        have s31 : X 31 [some (vR 0 0), some (vR 5 t), some (vR 6 v), some (vI (seen)), some (vI (nI j)), some (vL (V)), none] [] (M') := by
          show X 31 [some (vR 0 0), some (vR 5 t), some (vR 6 v), some (vI seen), some (vI (nI j)), some (vL V), none] [] M'
          refine h (fun i => Nat.beq i 53) 3000 31 _ _ _ ?_
          refine br_c (fun b34 => ?_) (fun b34 => ?_)
          · -- 34: lg_cmp V 0 < 0 taken
            replace b34 : lg_cmp V 0 < 0 := b34
            (try simp only [ej, er] at b34)
            show X 53 [some (vR 0 0), some (vR 5 t), some (vR 6 v), some (vI seen), some (vI (nI j)), some (vL V), none] [] M'
            (try simp only [ej, er])
            rw [if_pos b34] at hp
            exact s53 _ _ q13 q14 qT hp
          · -- 34: lg_cmp V 0 < 0 on
            replace b34 : ¬ (lg_cmp V 0 < 0) := b34
            (try simp only [ej, er] at b34)
            refine And.intro (show inb (nI j) (alen 13) = true from (inb_o 4 rfl rfl rfl (by omega))) ?_
            refine And.intro (show Pre_X11_holds M' [vI seen, vI ((M').1 13 0 ((nI j).toNatClampNeg))] from ⟨_, _, rfl⟩) ?_
            refine br_c (fun b41 => ?_) (fun b41 => ?_)
            · -- 41: bI (inS seen ((M').1 13 0 ((nI j).toNatClampNeg))) = 0 taken
              replace b41 : ¬ (inS seen ((M').1 13 0 ((nI j).toNatClampNeg))) := bI_0.mp b41
              (try simp only [ej, er] at b41)
              refine And.intro (show inb (nI j) (alen 13) = true from (inb_o 4 rfl rfl rfl (by omega))) ?_
              show X 53 [some (vR 0 0), some (vR 5 t), some (vR 6 v), some (vI (seen ||| (1 <<< (((M').1 13 0 ((nI j).toNatClampNeg)) &&& 31)))), some (vI (nI j)), some (vL V), none] [] M'
              (try simp only [ej, er])
              rw [if_neg b34, if_neg b41] at hp
              exact s53 _ _ q13 q14 qT hp
            · -- 41: bI (inS seen ((M').1 13 0 ((nI j).toNatClampNeg))) = 0 on
              replace b41 : inS seen ((M').1 13 0 ((nI j).toNatClampNeg)) := bI_n0.mp b41
              (try simp only [ej, er] at b41)
              refine And.intro (Or.inl rfl) ?_
              show ((some (vI 0) : Option MV), M') = _
              (try simp only [ej, er])
              exact PR_f (by rw [hp, if_neg b34, if_pos b41])
        show X 25 [some (vR 0 0), some (vR 5 t), some (vR 6 v), some (vI seen), some (vI (nI j)), some (vL V), none] [] M
        refine h (fun i => Nat.beq i 31) 3000 25 _ _ _ ?_
        refine And.intro (show inb (nI j) (alen 13) = true from (inb_o 4 rfl rfl rfl (by omega))) ?_
        show X 31 [some (vR 0 0), some (vR 5 t), some (vR 6 v), some (vI seen), some (vI (nI j)), some (vL V), none] [] (mRow M 13 0 (upd (M.1 13 0) (nI j).toNatClampNeg V.toInt32))
        rw [ej, ← hM']
        exact s31
      have s13 : X 13 [some (vR 0 0), some (vR 5 t), some (vR 6 v), some (vI (seen)), some (vI (nI j)), some (vL (V)), none] [] (M) := by
        show X 13 [some (vR 0 0), some (vR 5 t), some (vR 6 v), some (vI seen), some (vI (nI j)), some (vL V), none] [] M
        refine h (fun i => Nat.beq i 25) 3000 13 _ _ _ ?_
        refine br_c (fun b16 => ?_) (fun b16 => ?_)
        · -- 16: lg_cmp V (-1) < 0 taken
          replace b16 : lg_cmp V (-1) < 0 := b16
          (try simp only [hB] at b16)
          refine And.intro (Or.inl rfl) ?_
          show ((some (vI 0) : Option MV), M) = _
          (try simp only [hB])
          exact PR_f (by rw [hp, if_neg (fun z => z.1 b16)])
        · -- 16: lg_cmp V (-1) < 0 on
          replace b16 : ¬ (lg_cmp V (-1) < 0) := b16
          (try simp only [hB] at b16)
          refine br_c (fun b22 => ?_) (fun b22 => ?_)
          · -- 22: lg_cmp V ((M.1 6 v 14).toInt64) < 0 taken
            replace b22 : lg_cmp V ((M.1 6 v 14).toInt64) < 0 := b22
            (try simp only [hB] at b22)
            show X 25 [some (vR 0 0), some (vR 5 t), some (vR 6 v), some (vI seen), some (vI (nI j)), some (vL V), none] [] M
            (try simp only [hB])
            exact s25 ⟨b16, b22⟩
          · -- 22: lg_cmp V ((M.1 6 v 14).toInt64) < 0 on
            replace b22 : ¬ (lg_cmp V ((M.1 6 v 14).toInt64) < 0) := b22
            (try simp only [hB] at b22)
            refine And.intro (Or.inl rfl) ?_
            show ((some (vI 0) : Option MV), M) = _
            (try simp only [hB])
            exact PR_f (by rw [hp, if_neg (fun z => b22 z.2)])
      show X 4 [some (vR 0 0), some (vR 5 t), some (vR 6 v), some (vI seen), some (vI (nI j)), L5, none] [] M
      refine h (fun i => Nat.beq i 13) 3000 4 _ _ _ ?_
      refine br_f (show ¬ (M.1 6 v 13 ≤ nI j) from by rw [hS]; exact nI_ge (by omega) (by omega)) ?_
      refine And.intro (show inb (nI j) (alen 28) = true from (inb_o 60 rfl rfl rfl (by omega))) ?_
      show X 13 [some (vR 0 0), some (vR 5 t), some (vR 6 v), some (vI seen), some (vI (nI j)), some (vL (M.2.1 28 t ((nI j).toNatClampNeg))), none] [] M
      rw [hT, ej, ← hV]
      exact s13
  show X 0 [some (vR 0 0), some (vR 5 t), some (vR 6 v), none, none, none, none] [] mm
  refine h (fun i => Nat.beq i 4) 3000 0 _ _ _ ?_
  show X 4 [some (vR 0 0), some (vR 5 t), some (vR 6 v), some (vI 0), some (vI 0), none, none] [] mm
  exact loop ns 0 0 mm _ (by omega) hS hB hT rfl h none
theorem con_X0_load (l : Launch) : CON l y_X0_load prog_2_method_2_code 7 (some .boolean) rm_X0_load Pre_X0_load Fn_X0_load := CON_of (by decide) rfl rfl (sa_X0_load l) vc_X0_load
/-- who is coupled with d: the last -/
def hrC (O : Nat → Int32) (d : Nat) : Nat → Int32
  | 0 => -1
  | o + 1 => if O o = nI d then nI o else hrC O d o
abbrev boP (a O : Nat → Int32) (ns s d : Nat) : Prop := ¬ O s = nI d ∧ ¬ (¬ O s < 0 ∧ a (128 + 4 * s + d) ≤ a (128 + 4 * s + (O s).toNatClampNeg)) ∧ (hrC O d ns < 0 ∨ hdA a (hrC O d ns) d < hdA a (nI s) d)

--tpl ⟨_, _, _, _, {2N}, {3N}, by assumption, by omega, by omega, by assumption, rfl⟩ || bI (boP (abV {m} {g1}) ({m}.1 13 0) ({r 1 6 {g1} 13}).toNatClampNeg {2n} {3n})
def Pre_X0_wouldBolt : PreT := fun m as => ∃ v ns nm nt s d : Nat, VC2 m v ns nm nt ∧ s < 4 ∧ d < 4 ∧ (m.1 13 0 s = -1 ∨ ∃ k, k < 4 ∧ m.1 13 0 s = nI k) ∧ as = [vR 0 0, vR 6 v, vI (nI s), vI (nI d)]
def Fn_X0_wouldBolt : FnT := fun m as => match as with
  | [_, Sum.inr (Sum.inr q), Sum.inl s, Sum.inl d] => (some (vI (bI (boP (abV m q.2) (m.1 13 0) (m.1 6 q.2 13).toNatClampNeg s.toNatClampNeg d.toNatClampNeg))), m)
  | _ => (none, m)
abbrev y_X0_wouldBolt : MethodName := ⟨"GivenUp$Courtship", "wouldBolt", "(LGivenUp$Valley;II)Z"⟩
def P_X0_wouldBolt : List StpT := [s_aload 0, s_getR 0 0 13, s_iload 2, s_iald, s_istore 4, s_iload 4, s_iload 3, s_icne 10, s_ic (0), s_zret, s_iload 4, s_iflt 31, s_aload 1, s_getR 6 2 31, s_iload 2, s_ic (4), s_imul, s_iload 3, s_iadd, s_iald, s_aload 1, s_getR 6 2 31, s_iload 2, s_ic (4), s_imul, s_iload 4, s_iadd, s_iald, s_icgt 31, s_ic (0), s_zret, s_ic (-1), s_istore 5, s_ic (0), s_istore 6, s_iload 6, s_aload 1, s_getI 6 13, s_icge 49, s_aload 0, s_getR 0 0 13, s_iload 6, s_iald, s_iload 3, s_icne 47, s_iload 6, s_istore 5, s_iinc 6 (1), s_goto 35, s_iload 5, s_iflt 60, s_aload 1, s_iload 2, s_iload 3, s_callV 6 2 Pre_X6_hears Fn_X6_hears, s_aload 1, s_iload 5, s_iload 3, s_callV 6 2 Pre_X6_hears Fn_X6_hears, s_icle 62, s_ic (1), s_goto 63, s_ic (0), s_zret]
def pc_X0_wouldBolt : Nat → Nat := fun i => [0, 1, 4, 5, 6, 8, 10, 11, 14, 15, 16, 18, 21, 22, 25, 26, 27, 28, 29, 30, 31, 32, 35, 36, 37, 38, 40, 41, 42, 45, 46, 47, 48, 50, 51, 53, 55, 56, 59, 62, 63, 66, 68, 69, 70, 73, 75, 77, 80, 83, 85, 88, 89, 90, 91, 94, 95, 97, 98, 101, 104, 105, 108, 109].getD i 0
def dl_X0_wouldBolt : List (Nat × Instr × Nat) := [(0, .aload_n 0, 1), (1, .getfield 9, 3), (4, .iload_n 2, 1), (5, .iaload, 1), (6, .istore 4, 2), (8, .iload 4, 2), (10, .iload_n 3, 1), (11, .if_icmp .ne 5, 3), (14, .iconst 0, 1), (15, .ireturn, 1), (16, .iload 4, 2), (18, .ifCond .lt 29, 3), (21, .aload_n 1, 1), (22, .getfield 58, 3), (25, .iload_n 2, 1), (26, .iconst 4, 1), (27, .imul, 1), (28, .iload_n 3, 1), (29, .iadd, 1), (30, .iaload, 1), (31, .aload_n 1, 1), (32, .getfield 58, 3), (35, .iload_n 2, 1), (36, .iconst 4, 1), (37, .imul, 1), (38, .iload 4, 2), (40, .iadd, 1), (41, .iaload, 1), (42, .if_icmp .gt 5, 3), (45, .iconst 0, 1), (46, .ireturn, 1), (47, .iconst (-1), 1), (48, .istore 5, 2), (50, .iconst 0, 1), (51, .istore 6, 2), (53, .iload 6, 2), (55, .aload_n 1, 1), (56, .getfield 34, 3), (59, .if_icmp .ge 24, 3), (62, .aload_n 0, 1), (63, .getfield 9, 3), (66, .iload 6, 2), (68, .iaload, 1), (69, .iload_n 3, 1), (70, .if_icmp .ne 7, 3), (73, .iload 6, 2), (75, .istore 5, 2), (77, .iinc 6 1, 3), (80, .goto (-27), 3), (83, .iload 5, 2), (85, .ifCond .lt 19, 3), (88, .aload_n 1, 1), (89, .iload_n 2, 1), (90, .iload_n 3, 1), (91, .invokevirtual 61, 3), (94, .aload_n 1, 1), (95, .iload 5, 2), (97, .iload_n 3, 1), (98, .invokevirtual 61, 3), (101, .if_icmp .le 7, 3), (104, .iconst 1, 1), (105, .goto 4, 3), (108, .iconst 0, 1), (109, .ireturn, 1)]
theorem dc_X0_wouldBolt : DEC prog_2_method_4_code pc_X0_wouldBolt dl_X0_wouldBolt := DEC_of (by decide +kernel)
abbrev rm_X0_wouldBolt : Room := { frames := 2, cells := 0, slots := 0, locals := 46 }
set_option maxRecDepth 20000 in
theorem sa_X0_wouldBolt (l : Launch) : SNDALL l prog_2_method_4_code "GivenUp$Courtship" 7 (some .boolean) rm_X0_wouldBolt P_X0_wouldBolt pc_X0_wouldBolt := fun p e s m args below meth c cells slots Q D dA ad A RR hC hR => by
  have hM := RTX_room (R := rm_X0_wouldBolt) hR
  exact ⟨st_aload_n hC (n := 0) (k := 0) (dc_X0_wouldBolt 0 (0, .aload_n 0, 1) rfl rfl) rfl rfl,
    st_getR hC (n := 1) (k := 0) (j := 0) (dc_X0_wouldBolt 1 (1, .getfield 9, 3) rfl rfl) rfl clf_0 (by decide) rfl (by decide) wd_404,
    st_iload_n hC (n := 2) (k := 2) (dc_X0_wouldBolt 2 (4, .iload_n 2, 1) rfl rfl) rfl rfl,
    st_iald hC (n := 3) (dc_X0_wouldBolt 3 (5, .iaload, 1) rfl rfl) rfl,
    st_istore hC (n := 4) (dc_X0_wouldBolt 4 (6, .istore 4, 2) rfl rfl) rfl (by decide),
    st_iload hC (n := 5) (dc_X0_wouldBolt 5 (8, .iload 4, 2) rfl rfl) rfl,
    st_iload_n hC (n := 6) (k := 3) (dc_X0_wouldBolt 6 (10, .iload_n 3, 1) rfl rfl) rfl rfl,
    st_icne hC (n := 7) (dc_X0_wouldBolt 7 (11, .if_icmp .ne 5, 3) rfl rfl) rfl (by decide),
    st_iconst hC (n := 8) (x := 0) (dc_X0_wouldBolt 8 (14, .iconst 0, 1) rfl rfl) rfl (by decide),
    st_zret hC (n := 9) hR (dc_X0_wouldBolt 9 (15, .ireturn, 1) rfl rfl),
    st_iload hC (n := 10) (dc_X0_wouldBolt 10 (16, .iload 4, 2) rfl rfl) rfl,
    st_iflt hC (n := 11) (dc_X0_wouldBolt 11 (18, .ifCond .lt 29, 3) rfl rfl) rfl (by decide),
    st_aload_n hC (n := 12) (k := 1) (dc_X0_wouldBolt 12 (21, .aload_n 1, 1) rfl rfl) rfl rfl,
    st_getR hC (n := 13) (k := 6) (j := 2) (dc_X0_wouldBolt 13 (22, .getfield 58, 3) rfl rfl) rfl clf_6 (by decide) rfl (by decide) wd_582,
    st_iload_n hC (n := 14) (k := 2) (dc_X0_wouldBolt 14 (25, .iload_n 2, 1) rfl rfl) rfl rfl,
    st_iconst hC (n := 15) (x := 4) (dc_X0_wouldBolt 15 (26, .iconst 4, 1) rfl rfl) rfl (by decide),
    st_imul hC (n := 16) (dc_X0_wouldBolt 16 (27, .imul, 1) rfl rfl) rfl,
    st_iload_n hC (n := 17) (k := 3) (dc_X0_wouldBolt 17 (28, .iload_n 3, 1) rfl rfl) rfl rfl,
    st_iadd hC (n := 18) (dc_X0_wouldBolt 18 (29, .iadd, 1) rfl rfl) rfl,
    st_iald hC (n := 19) (dc_X0_wouldBolt 19 (30, .iaload, 1) rfl rfl) rfl,
    st_aload_n hC (n := 20) (k := 1) (dc_X0_wouldBolt 20 (31, .aload_n 1, 1) rfl rfl) rfl rfl,
    st_getR hC (n := 21) (k := 6) (j := 2) (dc_X0_wouldBolt 21 (32, .getfield 58, 3) rfl rfl) rfl clf_6 (by decide) rfl (by decide) wd_582,
    st_iload_n hC (n := 22) (k := 2) (dc_X0_wouldBolt 22 (35, .iload_n 2, 1) rfl rfl) rfl rfl,
    st_iconst hC (n := 23) (x := 4) (dc_X0_wouldBolt 23 (36, .iconst 4, 1) rfl rfl) rfl (by decide),
    st_imul hC (n := 24) (dc_X0_wouldBolt 24 (37, .imul, 1) rfl rfl) rfl,
    st_iload hC (n := 25) (dc_X0_wouldBolt 25 (38, .iload 4, 2) rfl rfl) rfl,
    st_iadd hC (n := 26) (dc_X0_wouldBolt 26 (40, .iadd, 1) rfl rfl) rfl,
    st_iald hC (n := 27) (dc_X0_wouldBolt 27 (41, .iaload, 1) rfl rfl) rfl,
    st_icgt hC (n := 28) (dc_X0_wouldBolt 28 (42, .if_icmp .gt 5, 3) rfl rfl) rfl (by decide),
    st_iconst hC (n := 29) (x := 0) (dc_X0_wouldBolt 29 (45, .iconst 0, 1) rfl rfl) rfl (by decide),
    st_zret hC (n := 30) hR (dc_X0_wouldBolt 30 (46, .ireturn, 1) rfl rfl),
    st_iconst hC (n := 31) (x := (-1)) (dc_X0_wouldBolt 31 (47, .iconst (-1), 1) rfl rfl) rfl (by decide),
    st_istore hC (n := 32) (dc_X0_wouldBolt 32 (48, .istore 5, 2) rfl rfl) rfl (by decide),
    st_iconst hC (n := 33) (x := 0) (dc_X0_wouldBolt 33 (50, .iconst 0, 1) rfl rfl) rfl (by decide),
    st_istore hC (n := 34) (dc_X0_wouldBolt 34 (51, .istore 6, 2) rfl rfl) rfl (by decide),
    st_iload hC (n := 35) (dc_X0_wouldBolt 35 (53, .iload 6, 2) rfl rfl) rfl,
    st_aload_n hC (n := 36) (k := 1) (dc_X0_wouldBolt 36 (55, .aload_n 1, 1) rfl rfl) rfl rfl,
    st_getI hC (n := 37) (k := 6) (j := 13) (dc_X0_wouldBolt 37 (56, .getfield 34, 3) rfl rfl) rfl clf_6 (by decide) rfl wd_619,
    st_icge hC (n := 38) (dc_X0_wouldBolt 38 (59, .if_icmp .ge 24, 3) rfl rfl) rfl (by decide),
    st_aload_n hC (n := 39) (k := 0) (dc_X0_wouldBolt 39 (62, .aload_n 0, 1) rfl rfl) rfl rfl,
    st_getR hC (n := 40) (k := 0) (j := 0) (dc_X0_wouldBolt 40 (63, .getfield 9, 3) rfl rfl) rfl clf_0 (by decide) rfl (by decide) wd_404,
    st_iload hC (n := 41) (dc_X0_wouldBolt 41 (66, .iload 6, 2) rfl rfl) rfl,
    st_iald hC (n := 42) (dc_X0_wouldBolt 42 (68, .iaload, 1) rfl rfl) rfl,
    st_iload_n hC (n := 43) (k := 3) (dc_X0_wouldBolt 43 (69, .iload_n 3, 1) rfl rfl) rfl rfl,
    st_icne hC (n := 44) (dc_X0_wouldBolt 44 (70, .if_icmp .ne 7, 3) rfl rfl) rfl (by decide),
    st_iload hC (n := 45) (dc_X0_wouldBolt 45 (73, .iload 6, 2) rfl rfl) rfl,
    st_istore hC (n := 46) (dc_X0_wouldBolt 46 (75, .istore 5, 2) rfl rfl) rfl (by decide),
    st_iinc hC (n := 47) (x := 1) (dc_X0_wouldBolt 47 (77, .iinc 6 1, 3) rfl rfl) rfl (by decide) (by decide),
    st_goto hC (n := 48) (dc_X0_wouldBolt 48 (80, .goto (-27), 3) rfl rfl) (by decide),
    st_iload hC (n := 49) (dc_X0_wouldBolt 49 (83, .iload 5, 2) rfl rfl) rfl,
    st_iflt hC (n := 50) (dc_X0_wouldBolt 50 (85, .ifCond .lt 19, 3) rfl rfl) rfl (by decide),
    st_aload_n hC (n := 51) (k := 1) (dc_X0_wouldBolt 51 (88, .aload_n 1, 1) rfl rfl) rfl rfl,
    st_iload_n hC (n := 52) (k := 2) (dc_X0_wouldBolt 52 (89, .iload_n 2, 1) rfl rfl) rfl rfl,
    st_iload_n hC (n := 53) (k := 3) (dc_X0_wouldBolt 53 (90, .iload_n 3, 1) rfl rfl) rfl rfl,
    st_callV hC (n := 54) (k := 6) (na := 2) (con_X6_hears l) (dc_X0_wouldBolt 54 (91, .invokevirtual 61, 3) rfl rfl) rfl wd_1143 wd_155 (by decide) ⟨rfl, rfl, by decide, by decide⟩ hM wd_1391 wd_1141 wd_1142 clf_6,
    st_aload_n hC (n := 55) (k := 1) (dc_X0_wouldBolt 55 (94, .aload_n 1, 1) rfl rfl) rfl rfl,
    st_iload hC (n := 56) (dc_X0_wouldBolt 56 (95, .iload 5, 2) rfl rfl) rfl,
    st_iload_n hC (n := 57) (k := 3) (dc_X0_wouldBolt 57 (97, .iload_n 3, 1) rfl rfl) rfl rfl,
    st_callV hC (n := 58) (k := 6) (na := 2) (con_X6_hears l) (dc_X0_wouldBolt 58 (98, .invokevirtual 61, 3) rfl rfl) rfl wd_1143 wd_155 (by decide) ⟨rfl, rfl, by decide, by decide⟩ hM wd_1391 wd_1141 wd_1142 clf_6,
    st_icle hC (n := 59) (dc_X0_wouldBolt 59 (101, .if_icmp .le 7, 3) rfl rfl) rfl (by decide),
    st_iconst hC (n := 60) (x := 1) (dc_X0_wouldBolt 60 (104, .iconst 1, 1) rfl rfl) rfl (by decide),
    st_goto hC (n := 61) (dc_X0_wouldBolt 61 (105, .goto 4, 3) rfl rfl) (by decide),
    st_iconst hC (n := 62) (x := 0) (dc_X0_wouldBolt 62 (108, .iconst 0, 1) rfl rfl) rfl (by decide),
    st_zret hC (n := 63) hR (dc_X0_wouldBolt 63 (109, .ireturn, 1) rfl rfl), trivial⟩
set_option maxRecDepth 8000 in
theorem vc_X0_wouldBolt : VC P_X0_wouldBolt 7 Pre_X0_wouldBolt Fn_X0_wouldBolt := by
  rintro mm as hom hoa ⟨v, ns, nm, nt, s, d, hV, hs, hd, hO, rfl⟩
  refine ⟨Nat.le_of_ble_eq_true rfl, fun X h => ?_⟩
  have es : (nI s).toNatClampNeg = s := nI_clamp (by omega)
  have ed : (nI d).toNatClampNeg = d := nI_clamp (by omega)
  have hS : mm.1 6 v 13 = nI ns := hV.1.1.1
  have hn4 : ns ≤ 4 := hV.1.1.2
  have hF : Fn_X0_wouldBolt mm [vR 0 0, vR 6 v, vI (nI s), vI (nI d)] = (some (vI (bI (boP (abV mm v) (mm.1 13 0) ns s d))), mm) := by
    show (some (vI (bI (boP (abV mm v) (mm.1 13 0) (mm.1 6 v 13).toNatClampNeg (nI s).toNatClampNeg (nI d).toNatClampNeg))), mm) = _
    rw [hS, nI_clamp (show ns < 2 ^ 31 by omega)]
    simp only [es, ed]
  rw [hF] at h
  obtain ⟨O, eO⟩ : ∃ O, O = mm.1 13 0 := ⟨_, rfl⟩
  rw [← eO] at h hO
  have s31 : ¬ O s = nI d → ¬ (¬ O s < 0 ∧ abV mm v (128 + 4 * s + d) ≤ abV mm v (128 + 4 * s + (O s).toNatClampNeg)) → X 31 [some (vR 0 0), some (vR 6 v), some (vI (nI s)), some (vI (nI d)), some (vI (O s)), none, none] [] mm := by
    intro c1 c2
    have loop : ∀ o, o ≤ ns → X 35 [some (vR 0 0), some (vR 6 v), some (vI (nI s)), some (vI (nI d)), some (vI (O s)), some (vI (hrC O d o)), some (vI (nI o))] [] mm := by
      refine up_ind ns ?_ (fun o ho ih => ?_)
      ·
        show X 35 [some (vR 0 0), some (vR 6 v), some (vI (nI s)), some (vI (nI d)), some (vI (O s)), some (vI (hrC O d ns)), some (vI (nI ns))] [] mm
        refine h (fun _ => false) 3000 35 _ _ _ ?_
        refine br_t (show mm.1 6 v 13 ≤ nI ns from by rw [hS]; exact Int32.le_refl _) ?_
        refine br_c (fun b50 => ?_) (fun b50 => ?_)
        · -- 50: hrC O d ns < 0 taken
          replace b50 : hrC O d ns < 0 := b50
          (try simp only [ed] at b50)
          refine And.intro (Or.inr rfl) ?_
          show ((some (vI 1) : Option MV), mm) = _
          (try simp only [ed])
          exact ret_t ⟨c1, c2, Or.inl b50⟩
        · -- 50: hrC O d ns < 0 on
          replace b50 : ¬ (hrC O d ns < 0) := b50
          (try simp only [ed] at b50)
          refine And.intro (show Pre_X6_hears mm [vR 6 v, vI (nI s), vI (nI d)] from ⟨v, ns, nm, nt, d, hV, hd, _, rfl⟩) ?_
          refine And.intro (show Pre_X6_hears mm [vR 6 v, vI (hrC O d ns), vI (nI d)] from ⟨v, ns, nm, nt, d, hV, hd, _, rfl⟩) ?_
          refine br_c (fun b59 => ?_) (fun b59 => ?_)
          · -- 59: hdA (abV mm v) (nI s) (nI d).toNatClampNeg ≤ hdA (abV mm v) (hrC O d ns) (nI d).toNatClampNeg taken
            replace b59 : hdA (abV mm v) (nI s) (nI d).toNatClampNeg ≤ hdA (abV mm v) (hrC O d ns) (nI d).toNatClampNeg := b59
            (try simp only [ed] at b59)
            refine And.intro (Or.inl rfl) ?_
            show ((some (vI 0) : Option MV), mm) = _
            (try simp only [ed])
            exact ret_f (fun z => z.2.2.elim b50 (fun y => Int32.not_lt.mpr b59 y))
          · -- 59: hdA (abV mm v) (nI s) (nI d).toNatClampNeg ≤ hdA (abV mm v) (hrC O d ns) (nI d).toNatClampNeg on
            replace b59 : ¬ (hdA (abV mm v) (nI s) (nI d).toNatClampNeg ≤ hdA (abV mm v) (hrC O d ns) (nI d).toNatClampNeg) := b59
            (try simp only [ed] at b59)
            refine And.intro (Or.inr rfl) ?_
            show ((some (vI 1) : Option MV), mm) = _
            (try simp only [ed])
            exact ret_t ⟨c1, c2, Or.inr (Int32.not_le.mp b59)⟩
      · have eo : (nI o).toNatClampNeg = o := nI_clamp (by omega)
        have st : ∀ w, w = hrC O d (o + 1) → X 47 [some (vR 0 0), some (vR 6 v), some (vI (nI s)), some (vI (nI d)), some (vI (O s)), some (vI (w)), some (vI (nI o))] [] mm := by
          intro w ew
          show X 47 [some (vR 0 0), some (vR 6 v), some (vI (nI s)), some (vI (nI d)), some (vI (O s)), some (vI w), some (vI (nI o))] [] mm
          refine h (fun i => Nat.beq i 35) 3000 47 _ _ _ ?_
          show X 35 [some (vR 0 0), some (vR 6 v), some (vI (nI s)), some (vI (nI d)), some (vI (O s)), some (vI w), some (vI ((nI o) + 1))] [] mm
          rw [nI_1, ew]
          exact ih
        show X 35 [some (vR 0 0), some (vR 6 v), some (vI (nI s)), some (vI (nI d)), some (vI (O s)), some (vI (hrC O d o)), some (vI (nI o))] [] mm
        refine h (fun i => Nat.beq i 47) 3000 35 _ _ _ ?_
        refine br_f (show ¬ (mm.1 6 v 13 ≤ nI o) from by rw [hS]; exact nI_ge ho (by omega)) ?_
        refine And.intro (show inb (nI o) (alen 13) = true from (inb_o 4 rfl rfl rfl (by omega))) ?_
        refine brn_c (fun b44 => ?_) (fun b44 => ?_)
        · -- 44: mm.1 13 0 ((nI o).toNatClampNeg) = nI d taken
          replace b44 : ¬ (mm.1 13 0 ((nI o).toNatClampNeg) = nI d) := b44
          (try simp only [eo, ← eO] at b44)
          show X 47 [some (vR 0 0), some (vR 6 v), some (vI (nI s)), some (vI (nI d)), some (vI (O s)), some (vI (hrC O d o)), some (vI (nI o))] [] mm
          (try simp only [eo, ← eO])
          exact st _ (if_neg b44).symm
        · -- 44: mm.1 13 0 ((nI o).toNatClampNeg) = nI d on
          replace b44 : mm.1 13 0 ((nI o).toNatClampNeg) = nI d := b44
          (try simp only [eo, ← eO] at b44)
          show X 47 [some (vR 0 0), some (vR 6 v), some (vI (nI s)), some (vI (nI d)), some (vI (O s)), some (vI (nI o)), some (vI (nI o))] [] mm
          (try simp only [eo, ← eO])
          exact st _ (if_pos b44).symm
    show X 31 [some (vR 0 0), some (vR 6 v), some (vI (nI s)), some (vI (nI d)), some (vI (O s)), none, none] [] mm
    refine h (fun i => Nat.beq i 35) 3000 31 _ _ _ ?_
    show X 35 [some (vR 0 0), some (vR 6 v), some (vI (nI s)), some (vI (nI d)), some (vI (O s)), some (vI (-1)), some (vI 0)] [] mm
    exact loop 0 (by omega)
  have s5 : X 5 [some (vR 0 0), some (vR 6 v), some (vI (nI s)), some (vI (nI d)), some (vI (O s)), none, none] [] mm := by
    rcases hO with e | ⟨k, hk, e⟩
    · have ng : O s < 0 := by rw [e]; decide
      show X 5 [some (vR 0 0), some (vR 6 v), some (vI (nI s)), some (vI (nI d)), some (vI (O s)), none, none] [] mm
      refine h (fun i => Nat.beq i 31) 3000 5 _ _ _ ?_
      refine brn_c (fun b7 => ?_) (fun b7 => ?_)
      · -- 7: O s = nI d taken
        replace b7 : ¬ (O s = nI d) := b7
        refine br_t (show O s < 0 from ng) ?_
        show X 31 [some (vR 0 0), some (vR 6 v), some (vI (nI s)), some (vI (nI d)), some (vI (O s)), none, none] [] mm
        exact s31 b7 (fun z => z.1 ng)
      · -- 7: O s = nI d on
        replace b7 : O s = nI d := b7
        refine And.intro (Or.inl rfl) ?_
        show ((some (vI 0) : Option MV), mm) = _
        exact ret_f (fun z => z.1 b7)
    · have ng : ¬ O s < 0 := by rw [e]; exact nI_pos (by omega)
      have x1 : nI s * 4 + nI d = nI (4 * s + d) := by rw [show (4 : Int32) = nI 4 from rfl, pk_mul, nI_add, Nat.mul_comm s 4]
      have x2 : nI s * 4 + O s = nI (4 * s + k) := by rw [e, show (4 : Int32) = nI 4 from rfl, pk_mul, nI_add, Nat.mul_comm s 4]
      have l1 := ab_lik (m := mm) (g := v) hs hd
      have l2 := ab_lik (m := mm) (g := v) hs hk
      have ek : (O s).toNatClampNeg = k := by rw [e]; exact nI_clamp (by omega)
      have c1 : (nI (4 * s + d)).toNatClampNeg = 4 * s + d := nI_clamp (by omega)
      have c2 : (nI (4 * s + k)).toNatClampNeg = 4 * s + k := nI_clamp (by omega)
      show X 5 [some (vR 0 0), some (vR 6 v), some (vI (nI s)), some (vI (nI d)), some (vI (O s)), none, none] [] mm
      refine h (fun i => Nat.beq i 31) 3000 5 _ _ _ ?_
      refine brn_c (fun b7 => ?_) (fun b7 => ?_)
      · -- 7: O s = nI d taken
        replace b7 : ¬ (O s = nI d) := b7
        (try simp only [x1, x2, c1, c2] at b7)
        refine br_f (show ¬ (O s < 0) from ng) ?_
        refine And.intro (show inb (((nI s) * 4) + (nI d)) (alen 31) = true from (inb_o 16 rfl rfl x1 (by omega))) ?_
        refine And.intro (show inb (((nI s) * 4) + (O s)) (alen 31) = true from (inb_o 16 rfl rfl x2 (by omega))) ?_
        refine br_c (fun b28 => ?_) (fun b28 => ?_)
        · -- 28: mm.1 31 v ((((nI s) * 4) + (O s)).toNatClampNeg) < mm.1 31 v ((((nI s) * 4) + (nI d)).toNatClampNeg) taken
          replace b28 : mm.1 31 v ((((nI s) * 4) + (O s)).toNatClampNeg) < mm.1 31 v ((((nI s) * 4) + (nI d)).toNatClampNeg) := b28
          (try simp only [x1, x2, c1, c2] at b28)
          show X 31 [some (vR 0 0), some (vR 6 v), some (vI (nI s)), some (vI (nI d)), some (vI (O s)), none, none] [] mm
          (try simp only [x1, x2, c1, c2])
          exact s31 b7 (fun z => Int32.not_lt.mpr (by have y := z.2; rw [ek, l1, l2] at y; exact y) b28)
        · -- 28: mm.1 31 v ((((nI s) * 4) + (O s)).toNatClampNeg) < mm.1 31 v ((((nI s) * 4) + (nI d)).toNatClampNeg) on
          replace b28 : ¬ (mm.1 31 v ((((nI s) * 4) + (O s)).toNatClampNeg) < mm.1 31 v ((((nI s) * 4) + (nI d)).toNatClampNeg)) := b28
          (try simp only [x1, x2, c1, c2] at b28)
          refine And.intro (Or.inl rfl) ?_
          show ((some (vI 0) : Option MV), mm) = _
          (try simp only [x1, x2, c1, c2])
          exact ret_f (fun z => z.2.1 ⟨ng, by rw [ek, l1, l2]; exact Int32.not_lt.mp b28⟩)
      · -- 7: O s = nI d on
        replace b7 : O s = nI d := b7
        (try simp only [x1, x2, c1, c2] at b7)
        refine And.intro (Or.inl rfl) ?_
        show ((some (vI 0) : Option MV), mm) = _
        (try simp only [x1, x2, c1, c2])
        exact ret_f (fun z => z.1 b7)
  show X 0 [some (vR 0 0), some (vR 6 v), some (vI (nI s)), some (vI (nI d)), none, none, none] [] mm
  refine h (fun i => Nat.beq i 5) 3000 0 _ _ _ ?_
  refine And.intro (show inb (nI s) (alen 13) = true from (inb_o 4 rfl rfl rfl (by omega))) ?_
  show X 5 [some (vR 0 0), some (vR 6 v), some (vI (nI s)), some (vI (nI d)), some (vI (mm.1 13 0 ((nI s).toNatClampNeg))), none, none] [] mm
  rw [es, ← eO]
  exact s5
theorem con_X0_wouldBolt (l : Launch) : CON l y_X0_wouldBolt prog_2_method_4_code 7 (some .boolean) rm_X0_wouldBolt Pre_X0_wouldBolt Fn_X0_wouldBolt := CON_of (by decide) rfl rfl (sa_X0_wouldBolt l) vc_X0_wouldBolt
/-- one more would bolt -/
def sb1 (m : MM) (s d : Nat) : MM := mI (if m.1 0 0 3 = 0 then mI (mI m 0 0 4 (nI s)) 0 0 5 (nI d) else m) 0 0 3 (m.1 0 0 3 + 1)
def sbI (P : Nat → Nat → Prop) [∀ s d, Decidable (P s d)] (s : Nat) : Nat → Nat → MM → MM
  | 0, _, m => m
  | k + 1, d, m => sbI P s k (d + 1) (if P s d then sb1 m s d else m)
def sbO (P : Nat → Nat → Prop) [∀ s d, Decidable (P s d)] (nm : Nat) : Nat → Nat → MM → MM
  | 0, _, m => m
  | k + 1, s, m => sbO P nm k (s + 1) (sbI P s nm 0 m)
def sb0 (m : MM) : MM := mI (mI (mI m 0 0 3 0) 0 0 4 (-1)) 0 0 5 (-1)
def sbM (m : MM) (v : Nat) : MM := sbO (fun s d => boP (abV m v) (m.1 13 0) (m.1 6 v 13).toNatClampNeg s d) (m.1 6 v 14).toNatClampNeg (m.1 6 v 13).toNatClampNeg 0 (sb0 m)
/-- only the numbers of courtship moved -/
def SM0 (m m' : MM) : Prop := ∀ k g, k ≠ 0 → m'.1 k g = m.1 k g
theorem SM0_i {m m' : MM} {j : Nat} {x : Int32} (h : SM0 m m') : SM0 m (mI m' 0 0 j x) := fun k g z => (show (mI m' 0 0 j x).1 k g = m'.1 k g from if_neg (fun y => z y.1)).trans (h k g z)
theorem SM0_1 {m m' : MM} {s d : Nat} (h : SM0 m m') : SM0 m (sb1 m' s d) := by
  unfold sb1
  refine SM0_i ?_
  split
  · exact SM0_i (SM0_i h)
  · exact h

--tpl ⟨_, _, _, _, by assumption, by assumption, rfl⟩ ||  || sbM {m} {g1}
def Pre_X0_seekBolters : PreT := fun m as => ∃ v ns nm nt : Nat, VC2 m v ns nm nt ∧ (∀ s, s < ns → (m.1 13 0 s = -1 ∨ ∃ k, k < 4 ∧ m.1 13 0 s = nI k)) ∧ as = [vR 0 0, vR 6 v]
def Fn_X0_seekBolters : FnT := fun m as => match as with
  | [_, Sum.inr (Sum.inr q)] => (none, sbM m q.2)
  | _ => (none, m)
abbrev y_X0_seekBolters : MethodName := ⟨"GivenUp$Courtship", "seekBolters", "(LGivenUp$Valley;)V"⟩
def P_X0_seekBolters : List StpT := [s_aload 0, s_ic (0), s_putI 0 3, s_aload 0, s_ic (-1), s_putI 0 4, s_aload 0, s_ic (-1), s_putI 0 5, s_ic (0), s_istore 2, s_iload 2, s_aload 1, s_getI 6 13, s_icge 46, s_ic (0), s_istore 3, s_iload 3, s_aload 1, s_getI 6 14, s_icge 44, s_aload 0, s_aload 1, s_iload 2, s_iload 3, s_callV 0 3 Pre_X0_wouldBolt Fn_X0_wouldBolt, s_ifeq 42, s_aload 0, s_getI 0 3, s_ifne 36, s_aload 0, s_iload 2, s_putI 0 4, s_aload 0, s_iload 3, s_putI 0 5, s_aload 0, s_dup, s_getI 0 3, s_ic (1), s_iadd, s_putI 0 3, s_iinc 3 (1), s_goto 17, s_iinc 2 (1), s_goto 11, s_vret]
def pc_X0_seekBolters : Nat → Nat := fun i => [0, 1, 2, 5, 6, 7, 10, 11, 12, 15, 16, 17, 18, 19, 22, 25, 26, 27, 28, 29, 32, 35, 36, 37, 38, 39, 42, 45, 46, 49, 52, 53, 54, 57, 58, 59, 62, 63, 64, 67, 68, 69, 72, 75, 78, 81, 84].getD i 0
def dl_X0_seekBolters : List (Nat × Instr × Nat) := [(0, .aload_n 0, 1), (1, .iconst 0, 1), (2, .putfield 21, 3), (5, .aload_n 0, 1), (6, .iconst (-1), 1), (7, .putfield 25, 3), (10, .aload_n 0, 1), (11, .iconst (-1), 1), (12, .putfield 28, 3), (15, .iconst 0, 1), (16, .istore_n 2, 1), (17, .iload_n 2, 1), (18, .aload_n 1, 1), (19, .getfield 34, 3), (22, .if_icmp .ge 62, 3), (25, .iconst 0, 1), (26, .istore_n 3, 1), (27, .iload_n 3, 1), (28, .aload_n 1, 1), (29, .getfield 47, 3), (32, .if_icmp .ge 46, 3), (35, .aload_n 0, 1), (36, .aload_n 1, 1), (37, .iload_n 2, 1), (38, .iload_n 3, 1), (39, .invokevirtual 54, 3), (42, .ifCond .eq 30, 3), (45, .aload_n 0, 1), (46, .getfield 21, 3), (49, .ifCond .ne 13, 3), (52, .aload_n 0, 1), (53, .iload_n 2, 1), (54, .putfield 25, 3), (57, .aload_n 0, 1), (58, .iload_n 3, 1), (59, .putfield 28, 3), (62, .aload_n 0, 1), (63, .dup, 1), (64, .getfield 21, 3), (67, .iconst 1, 1), (68, .iadd, 1), (69, .putfield 21, 3), (72, .iinc 3 1, 3), (75, .goto (-48), 3), (78, .iinc 2 1, 3), (81, .goto (-64), 3), (84, .return_, 1)]
theorem dc_X0_seekBolters : DEC prog_2_method_3_code pc_X0_seekBolters dl_X0_seekBolters := DEC_of (by decide +kernel)
abbrev rm_X0_seekBolters : Room := { frames := 3, cells := 0, slots := 0, locals := 72 }
set_option maxRecDepth 20000 in
theorem sa_X0_seekBolters (l : Launch) : SNDALL l prog_2_method_3_code "GivenUp$Courtship" 4 none rm_X0_seekBolters P_X0_seekBolters pc_X0_seekBolters := fun p e s m args below meth c cells slots Q D dA ad A RR hC hR => by
  have hM := RTX_room (R := rm_X0_seekBolters) hR
  exact ⟨st_aload_n hC (n := 0) (k := 0) (dc_X0_seekBolters 0 (0, .aload_n 0, 1) rfl rfl) rfl rfl,
    st_iconst hC (n := 1) (x := 0) (dc_X0_seekBolters 1 (1, .iconst 0, 1) rfl rfl) rfl (by decide),
    st_putI hC (n := 2) (k := 0) (j := 3) (dc_X0_seekBolters 2 (2, .putfield 21, 3) rfl rfl) rfl clf_0 (by decide) rfl rfl rfl wd_408,
    st_aload_n hC (n := 3) (k := 0) (dc_X0_seekBolters 3 (5, .aload_n 0, 1) rfl rfl) rfl rfl,
    st_iconst hC (n := 4) (x := (-1)) (dc_X0_seekBolters 4 (6, .iconst (-1), 1) rfl rfl) rfl (by decide),
    st_putI hC (n := 5) (k := 0) (j := 4) (dc_X0_seekBolters 5 (7, .putfield 25, 3) rfl rfl) rfl clf_0 (by decide) rfl rfl rfl wd_410,
    st_aload_n hC (n := 6) (k := 0) (dc_X0_seekBolters 6 (10, .aload_n 0, 1) rfl rfl) rfl rfl,
    st_iconst hC (n := 7) (x := (-1)) (dc_X0_seekBolters 7 (11, .iconst (-1), 1) rfl rfl) rfl (by decide),
    st_putI hC (n := 8) (k := 0) (j := 5) (dc_X0_seekBolters 8 (12, .putfield 28, 3) rfl rfl) rfl clf_0 (by decide) rfl rfl rfl wd_412,
    st_iconst hC (n := 9) (x := 0) (dc_X0_seekBolters 9 (15, .iconst 0, 1) rfl rfl) rfl (by decide),
    st_istore_n hC (n := 10) (k := 2) (dc_X0_seekBolters 10 (16, .istore_n 2, 1) rfl rfl) rfl rfl (by decide),
    st_iload_n hC (n := 11) (k := 2) (dc_X0_seekBolters 11 (17, .iload_n 2, 1) rfl rfl) rfl rfl,
    st_aload_n hC (n := 12) (k := 1) (dc_X0_seekBolters 12 (18, .aload_n 1, 1) rfl rfl) rfl rfl,
    st_getI hC (n := 13) (k := 6) (j := 13) (dc_X0_seekBolters 13 (19, .getfield 34, 3) rfl rfl) rfl clf_6 (by decide) rfl wd_619,
    st_icge hC (n := 14) (dc_X0_seekBolters 14 (22, .if_icmp .ge 62, 3) rfl rfl) rfl (by decide),
    st_iconst hC (n := 15) (x := 0) (dc_X0_seekBolters 15 (25, .iconst 0, 1) rfl rfl) rfl (by decide),
    st_istore_n hC (n := 16) (k := 3) (dc_X0_seekBolters 16 (26, .istore_n 3, 1) rfl rfl) rfl rfl (by decide),
    st_iload_n hC (n := 17) (k := 3) (dc_X0_seekBolters 17 (27, .iload_n 3, 1) rfl rfl) rfl rfl,
    st_aload_n hC (n := 18) (k := 1) (dc_X0_seekBolters 18 (28, .aload_n 1, 1) rfl rfl) rfl rfl,
    st_getI hC (n := 19) (k := 6) (j := 14) (dc_X0_seekBolters 19 (29, .getfield 47, 3) rfl rfl) rfl clf_6 (by decide) rfl wd_625,
    st_icge hC (n := 20) (dc_X0_seekBolters 20 (32, .if_icmp .ge 46, 3) rfl rfl) rfl (by decide),
    st_aload_n hC (n := 21) (k := 0) (dc_X0_seekBolters 21 (35, .aload_n 0, 1) rfl rfl) rfl rfl,
    st_aload_n hC (n := 22) (k := 1) (dc_X0_seekBolters 22 (36, .aload_n 1, 1) rfl rfl) rfl rfl,
    st_iload_n hC (n := 23) (k := 2) (dc_X0_seekBolters 23 (37, .iload_n 2, 1) rfl rfl) rfl rfl,
    st_iload_n hC (n := 24) (k := 3) (dc_X0_seekBolters 24 (38, .iload_n 3, 1) rfl rfl) rfl rfl,
    st_callV hC (n := 25) (k := 0) (na := 3) (con_X0_wouldBolt l) (dc_X0_seekBolters 25 (39, .invokevirtual 54, 3) rfl rfl) rfl wd_1390 wd_153 (by decide) ⟨rfl, rfl, by decide, by decide⟩ hM wd_1387 wd_1389 wd_39 clf_0,
    st_ifeq hC (n := 26) (dc_X0_seekBolters 26 (42, .ifCond .eq 30, 3) rfl rfl) rfl (by decide),
    st_aload_n hC (n := 27) (k := 0) (dc_X0_seekBolters 27 (45, .aload_n 0, 1) rfl rfl) rfl rfl,
    st_getI hC (n := 28) (k := 0) (j := 3) (dc_X0_seekBolters 28 (46, .getfield 21, 3) rfl rfl) rfl clf_0 (by decide) rfl wd_408,
    st_ifne hC (n := 29) (dc_X0_seekBolters 29 (49, .ifCond .ne 13, 3) rfl rfl) rfl (by decide),
    st_aload_n hC (n := 30) (k := 0) (dc_X0_seekBolters 30 (52, .aload_n 0, 1) rfl rfl) rfl rfl,
    st_iload_n hC (n := 31) (k := 2) (dc_X0_seekBolters 31 (53, .iload_n 2, 1) rfl rfl) rfl rfl,
    st_putI hC (n := 32) (k := 0) (j := 4) (dc_X0_seekBolters 32 (54, .putfield 25, 3) rfl rfl) rfl clf_0 (by decide) rfl rfl rfl wd_410,
    st_aload_n hC (n := 33) (k := 0) (dc_X0_seekBolters 33 (57, .aload_n 0, 1) rfl rfl) rfl rfl,
    st_iload_n hC (n := 34) (k := 3) (dc_X0_seekBolters 34 (58, .iload_n 3, 1) rfl rfl) rfl rfl,
    st_putI hC (n := 35) (k := 0) (j := 5) (dc_X0_seekBolters 35 (59, .putfield 28, 3) rfl rfl) rfl clf_0 (by decide) rfl rfl rfl wd_412,
    st_aload_n hC (n := 36) (k := 0) (dc_X0_seekBolters 36 (62, .aload_n 0, 1) rfl rfl) rfl rfl,
    st_dup hC (n := 37) (dc_X0_seekBolters 37 (63, .dup, 1) rfl rfl) rfl,
    st_getI hC (n := 38) (k := 0) (j := 3) (dc_X0_seekBolters 38 (64, .getfield 21, 3) rfl rfl) rfl clf_0 (by decide) rfl wd_408,
    st_iconst hC (n := 39) (x := 1) (dc_X0_seekBolters 39 (67, .iconst 1, 1) rfl rfl) rfl (by decide),
    st_iadd hC (n := 40) (dc_X0_seekBolters 40 (68, .iadd, 1) rfl rfl) rfl,
    st_putI hC (n := 41) (k := 0) (j := 3) (dc_X0_seekBolters 41 (69, .putfield 21, 3) rfl rfl) rfl clf_0 (by decide) rfl rfl rfl wd_408,
    st_iinc hC (n := 42) (x := 1) (dc_X0_seekBolters 42 (72, .iinc 3 1, 3) rfl rfl) rfl (by decide) (by decide),
    st_goto hC (n := 43) (dc_X0_seekBolters 43 (75, .goto (-48), 3) rfl rfl) (by decide),
    st_iinc hC (n := 44) (x := 1) (dc_X0_seekBolters 44 (78, .iinc 2 1, 3) rfl rfl) rfl (by decide) (by decide),
    st_goto hC (n := 45) (dc_X0_seekBolters 45 (81, .goto (-64), 3) rfl rfl) (by decide),
    st_vret hC (n := 46) hR (dc_X0_seekBolters 46 (84, .return_, 1) rfl rfl), trivial⟩
set_option maxRecDepth 8000 in
theorem vc_X0_seekBolters : VC P_X0_seekBolters 4 Pre_X0_seekBolters Fn_X0_seekBolters := by
  rintro mm as hom hoa ⟨v, ns, nm, nt, hV, hO, rfl⟩
  refine ⟨Nat.le_of_ble_eq_true rfl, fun X h => ?_⟩
  replace h : RUN P_X0_seekBolters (fun r m' => (r, m') = (none, sbM mm v)) X := h
  have hS : mm.1 6 v 13 = nI ns := hV.1.1.1
  have hn4 : ns ≤ 4 := hV.1.1.2
  have hN : mm.1 6 v 14 = nI nm := hV.1.2.1.1
  have hm4 : nm ≤ 4 := hV.1.2.1.2
  unfold sbM at h
  rw [hS, hN, nI_clamp (show ns < 2 ^ 31 by omega), nI_clamp (show nm < 2 ^ 31 by omega)] at h
  obtain ⟨R, eR⟩ : ∃ R, R = sbO (fun s d => boP (abV mm v) (mm.1 13 0) ns s d) nm ns 0 (sb0 mm) := ⟨_, rfl⟩
  rw [← eR] at h
  have h13 : ∀ M, SM0 mm M → M.1 6 v 13 = nI ns := fun M hM => by rw [hM 6 v (by decide)]; exact hS
  have h14 : ∀ M, SM0 mm M → M.1 6 v 14 = nI nm := fun M hM => by rw [hM 6 v (by decide)]; exact hN
  have loop : ∀ k s M, s + k = ns → SM0 mm M → R = sbO (fun s d => boP (abV mm v) (mm.1 13 0) ns s d) nm k s M → ∀ L3, X 11 [some (vR 0 0), some (vR 6 v), some (vI (nI s)), L3] [] (M) := by
    intro k
    induction k with
    | zero =>
      intro s M hs hM hR L3
      have hs2 : s = ns := by omega
      rw [sbO] at hR
      show X 11 [some (vR 0 0), some (vR 6 v), some (vI (nI s)), L3] [] M
      refine h (fun _ => false) 3000 11 _ _ _ ?_
      refine br_t (show M.1 6 v 13 ≤ nI s from by rw [h13 M hM, hs2]; exact Int32.le_refl _) ?_
      show ((none : Option MV), M) = _
      rw [hR]
    | succ k ih =>
      intro s M hs hM hR L3
      rw [sbO] at hR
      have es : (nI s).toNatClampNeg = s := nI_clamp (by omega)
      have inner : ∀ k' d M, d + k' = nm → SM0 mm M → R = sbO (fun s d => boP (abV mm v) (mm.1 13 0) ns s d) nm k (s + 1) (sbI (fun s d => boP (abV mm v) (mm.1 13 0) ns s d) s k' d M) → X 17 [some (vR 0 0), some (vR 6 v), some (vI (nI s)), some (vI (nI d))] [] (M) := by
        intro k'
        induction k' with
        | zero =>
          intro d M hd hM hR
          have hd2 : d = nm := by omega
          rw [sbI] at hR
          have z := ih (s + 1) M (by omega) hM hR
          show X 17 [some (vR 0 0), some (vR 6 v), some (vI (nI s)), some (vI (nI d))] [] M
          refine h (fun i => Nat.beq i 11) 3000 17 _ _ _ ?_
          refine br_t (show M.1 6 v 14 ≤ nI d from by rw [h14 M hM, hd2]; exact Int32.le_refl _) ?_
          show X 11 [some (vR 0 0), some (vR 6 v), some (vI ((nI s) + 1)), some (vI (nI d))] [] M
          rw [nI_1]
          exact z _
        | succ k' ihd =>
          intro d M hd hM hR
          rw [sbI] at hR
          have ed : (nI d).toNatClampNeg = d := nI_clamp (by omega)
          have hA : abV M v = abV mm v := abV_c (fun k hk => hM k v (by omega))
          have h13O : M.1 13 0 = mm.1 13 0 := hM 13 0 (by decide)
          have s42 : ∀ M', SM0 mm M' → M' = (if boP (abV mm v) (mm.1 13 0) ns s d then sb1 M s d else M) → X 42 [some (vR 0 0), some (vR 6 v), some (vI (nI s)), some (vI (nI d))] [] (M') := by
            intro M' hM' e
            rw [← e] at hR
            have z := ihd (d + 1) M' (by omega) hM' hR
            show X 42 [some (vR 0 0), some (vR 6 v), some (vI (nI s)), some (vI (nI d))] [] M'
            refine h (fun i => Nat.beq i 17) 3000 42 _ _ _ ?_
            show X 17 [some (vR 0 0), some (vR 6 v), some (vI (nI s)), some (vI ((nI d) + 1))] [] M'
            rw [nI_1]
            exact z
          have eS := h13 M hM
          have ens : (nI ns).toNatClampNeg = ns := nI_clamp (by omega)
          show X 17 [some (vR 0 0), some (vR 6 v), some (vI (nI s)), some (vI (nI d))] [] M
          refine h (fun i => Nat.beq i 42) 3000 17 _ _ _ ?_
          refine br_f (show ¬ (M.1 6 v 14 ≤ nI d) from by rw [h14 M hM]; exact nI_ge (by omega) (by omega)) ?_
          refine And.intro (show Pre_X0_wouldBolt M [vR 0 0, vR 6 v, vI (nI s), vI (nI d)] from ⟨v, ns, nm, nt, s, d, VC2_c hA hV, by omega, by omega, by rw [h13O]; exact hO s (by omega), rfl⟩) ?_
          refine br_c (fun b26 => ?_) (fun b26 => ?_)
          · -- 26: bI (boP (abV M v) (M.1 13 0) (M.1 6 v 13).toNatClampNeg (nI s).toNatClampNeg (nI d).toNatClampNeg) = 0 taken
            replace b26 : ¬ (boP (abV M v) (M.1 13 0) (M.1 6 v 13).toNatClampNeg (nI s).toNatClampNeg (nI d).toNatClampNeg) := bI_0.mp b26
            (try simp only [es, ed, hA, h13O, eS, ens] at b26)
            show X 42 [some (vR 0 0), some (vR 6 v), some (vI (nI s)), some (vI (nI d))] [] M
            (try simp only [es, ed, hA, h13O, eS, ens])
            exact s42 M hM (if_neg b26).symm
          · -- 26: bI (boP (abV M v) (M.1 13 0) (M.1 6 v 13).toNatClampNeg (nI s).toNatClampNeg (nI d).toNatClampNeg) = 0 on
            replace b26 : boP (abV M v) (M.1 13 0) (M.1 6 v 13).toNatClampNeg (nI s).toNatClampNeg (nI d).toNatClampNeg := bI_n0.mp b26
            (try simp only [es, ed, hA, h13O, eS, ens] at b26)
            refine brn_c (fun b29 => ?_) (fun b29 => ?_)
            · -- 29: M.1 0 0 3 = 0 taken
              replace b29 : ¬ (M.1 0 0 3 = 0) := b29
              (try simp only [es, ed, hA, h13O, eS, ens] at b29)
              show X 42 [some (vR 0 0), some (vR 6 v), some (vI (nI s)), some (vI (nI d))] [] (mI M 0 0 3 ((M.1 0 0 3) + 1))
              (try simp only [es, ed, hA, h13O, eS, ens])
              refine s42 _ (SM0_i hM) ?_
              rw [if_pos b26] 
              unfold sb1 
              rw [if_neg b29]
            · -- 29: M.1 0 0 3 = 0 on
              replace b29 : M.1 0 0 3 = 0 := b29
              (try simp only [es, ed, hA, h13O, eS, ens] at b29)
              show X 42 [some (vR 0 0), some (vR 6 v), some (vI (nI s)), some (vI (nI d))] [] (mI (mI (mI M 0 0 4 (nI s)) 0 0 5 (nI d)) 0 0 3 ((M.1 0 0 3) + 1))
              (try simp only [es, ed, hA, h13O, eS, ens])
              refine s42 _ (SM0_i (SM0_i (SM0_i hM))) ?_
              rw [if_pos b26] 
              unfold sb1 
              rw [if_pos b29]
      have i0 := inner nm 0 M (by omega) hM hR
      show X 11 [some (vR 0 0), some (vR 6 v), some (vI (nI s)), L3] [] M
      refine h (fun i => Nat.beq i 17) 3000 11 _ _ _ ?_
      refine br_f (show ¬ (M.1 6 v 13 ≤ nI s) from by rw [h13 M hM]; exact nI_ge (by omega) (by omega)) ?_
      show X 17 [some (vR 0 0), some (vR 6 v), some (vI (nI s)), some (vI 0)] [] M
      exact i0
  have l0 := loop ns 0 (sb0 mm) (by omega) (SM0_i (SM0_i (SM0_i (fun _ _ _ => rfl)))) eR
  show X 0 [some (vR 0 0), some (vR 6 v), none, none] [] mm
  refine h (fun i => Nat.beq i 11) 3000 0 _ _ _ ?_
  show X 11 [some (vR 0 0), some (vR 6 v), some (vI 0), none] [] (mI (mI (mI mm 0 0 3 0) 0 0 4 (-1)) 0 0 5 (-1))
  exact l0 none
theorem con_X0_seekBolters (l : Launch) : CON l y_X0_seekBolters prog_2_method_3_code 4 none rm_X0_seekBolters Pre_X0_seekBolters Fn_X0_seekBolters := CON_of (by decide) rfl rfl (sa_X0_seekBolters l) vc_X0_seekBolters
