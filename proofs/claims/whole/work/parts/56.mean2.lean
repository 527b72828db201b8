/-! PART 56: the model: mean -/

theorem LV_70 {m : MM} {f : Nat → Int32} {ns nm nt L : Nat} (h : LV m ns nm nt L) : LV (mRow m 70 0 f) ns nm nt L := h
theorem lv_keep {ns nm nt L : Nat} : ∀ f m k, LV m ns nm nt L → k ≤ L → LV (lvR f m L k) ns nm nt L ∧ ∀ j, 44 ≤ j → (lvR f m L k).1 54 0 j = m.1 54 0 j
  | 0, _, _, h, _ => ⟨h, fun _ _ => rfl⟩
  | f + 1, m, k, h, hk => by
    have e1 : lvR (f + 1) m L k = if k < L then (match lvT m k with
      | (some k', m') => lvR f m' L k'
      | (none, m') => m') else m := rfl
    by_cases hkL : k < L
    · rw [if_pos hkL] at e1
      unfold lvT at e1
      by_cases h25 : m.1 54 0 (146 + 6 * k) = 25
      · rw [if_pos h25] at e1
        have e2 : lvR (f + 1) m L k = lvR f (enM m k) L (enK m k) := e1
        have g := en_ok h.2.1 h.2.2.1 ⟨hkL, h25⟩
        obtain ⟨i1, i2⟩ := lv_keep f (enM m k) (enK m k) (LV_en h ⟨hkL, h25⟩) g.2.2.1
        rw [e2]
        exact ⟨i1, fun j hj => by rw [i2 j hj, enM_54]⟩
      · rw [if_neg h25] at e1
        unfold lvS at e1
        by_cases h300 : m.1 12 0 35 = 300
        · rw [if_pos h300] at e1
          have e2 : lvR (f + 1) m L k = mRow m 70 0 (upd (m.1 70 0) 4 1) := e1
          rw [e2]
          exact ⟨LV_70 h, fun _ _ => rfl⟩
        · rw [if_neg h300] at e1
          by_cases h26 : m.1 54 0 (146 + 6 * k) = 26
          · rw [if_pos h26] at e1
            have e2 : lvR (f + 1) m L k = stI m := e1
            rw [e2]
            obtain ⟨h1, h2, h3, h4, st, hst, est⟩ := h
            have hst2 : st < 300 := by
              rcases Nat.eq_or_lt_of_le hst with e | e
              · exact absurd (by rw [est, e]; rfl) h300
              · exact e
            refine ⟨⟨h1, h2, h3, h4, st + 1, by omega, ?_⟩, fun _ _ => rfl⟩
            show m.1 12 0 35 + 1 = _
            rw [est, nI_1]
          · rw [if_neg h26] at e1
            have e2 : lvR (f + 1) m L k = lvR f (stL m k) L (stK (stL m k) k) := e1
            obtain ⟨s1, s2, s3, s4⟩ := st_ok h hkL h300
            obtain ⟨i1, i2⟩ := lv_keep f (stL m k) (stK (stL m k) k) s1 s2
            rw [e2]
            exact ⟨i1, fun j hj => by rw [i2 j hj, s4 j hj]⟩
    · rw [if_neg hkL] at e1
      rw [e1]
      exact ⟨h, fun _ _ => rfl⟩
theorem li_keep {m : MM} {ns nm nt L d : Nat} (hV : VMx m ns nm nt) (hY : YP (m.1 54 0) ns nm nt L) (hl : LPo m) (hd : d < 65536) : LV (liM m (nI d)) ns nm nt L ∧ ∀ j, 44 ≤ j → (liM m (nI d)).1 54 0 j = m.1 54 0 j := by
  have hL60 := hY.2.1
  unfold liM
  rw [hY.1, nI_clamp (by omega)]
  have hI : LV (lvI2 m (nI d)) ns nm nt L := ⟨hV, hY, hl, ⟨d, rfl, hd⟩, 0, by omega, rfl⟩
  have key : ∀ f, LV (lvR f (lvI2 m (nI d)) L 0) ns nm nt L ∧ ∀ j, 44 ≤ j → (lvR f (lvI2 m (nI d)) L 0).1 54 0 j = m.1 54 0 j := fun f => ⟨(lv_keep f _ 0 hI (Nat.zero_le _)).1, fun j hj => (lv_keep f _ 0 hI (Nat.zero_le _)).2 j hj⟩
  generalize (100000 : Nat) = f
  exact key f
/-- WORTHs are small -/
def WBo (a : Nat → Int32) (nt : Nat) : Prop := ∀ j, j < nt → ∃ w, w ≤ 99 ∧ a (45 + 3 * j) = nI w
theorem wth_le {a : Nat → Int32} {set : Int32} {nt : Nat} (h : WBo a nt) : ∀ n, n ≤ nt → ∃ v, v ≤ 99 * n ∧ wth a set n = nI v
  | 0, _ => ⟨0, by omega, rfl⟩
  | n + 1, hn => by
    obtain ⟨v, hv, e⟩ := wth_le (set := set) h n (by omega)
    obtain ⟨w, hw, ew⟩ := h n (by omega)
    rw [wth, e]
    by_cases hc : inS set (nI n)
    · rw [if_pos hc, ew, nI_add]
      exact ⟨v + w, by omega, rfl⟩
    · rw [if_neg hc, show (0 : Int32) = nI 0 from rfl, nI_add]
      exact ⟨v, by omega, rfl⟩
def wkC (a : Nat → Int32) (i : Nat) : Nat → Int32 := fun j => if 2550 ≤ j ∧ j < 2550 + i then a (j - 2550) else a j
theorem wkC_s (a : Nat → Int32) (i : Nat) : upd (wkC a i) (2550 + i) (a i) = wkC a (i + 1) := by
  funext j
  unfold upd wkC
  by_cases h : j = 2550 + i
  · subst h
    rw [if_pos rfl, if_pos (by omega), show 2550 + i - 2550 = i by omega]
  · rw [if_neg h]
    by_cases h2 : 2550 ≤ j ∧ j < 2550 + i
    · rw [if_pos h2, if_pos (by omega)]
    · rw [if_neg h2, if_neg (by omega)]
theorem wkC_lo (a : Nat → Int32) {i j : Nat} (h : j < 2550) : wkC a i j = a j := if_neg (by omega)
theorem wkC_0 (a : Nat → Int32) : wkC a 0 = a := by
  funext j
  exact if_neg (by omega)
def rsC (b : Nat → Int32) (i : Nat) : Nat → Int32 := fun j => if j < i then b (2550 + j) else b j
theorem rsC_s (b : Nat → Int32) (i : Nat) : upd (rsC b i) i (b (2550 + i)) = rsC b (i + 1) := by
  funext j
  unfold upd rsC
  by_cases h : j = i
  · subst h
    rw [if_pos rfl, if_pos (by omega)]
  · rw [if_neg h]
    by_cases h2 : j < i
    · rw [if_pos h2, if_pos (by omega)]
    · rw [if_neg h2, if_neg (by omega)]
theorem rsC_r (b : Nat → Int32) (i : Nat) (h : i ≤ 146) : rsC b i (2550 + i) = b (2550 + i) := if_neg (by omega)
theorem rsC_0 (b : Nat → Int32) : rsC b 0 = b := by
  funext j
  exact if_neg (by omega)
/-- the losses by the first seeds, one behind the other -/
def mnM (m : MM) (q : Nat) : Nat → MM
  | 0 => mRow m 54 0 (wkC (m.1 54 0) 146)
  | i + 1 => mRow (liM (mnM m q i) (nI (q + i))) 54 0 (rsC ((liM (mnM m q i) (nI (q + i))).1 54 0) 146)
def mnS (m : MM) (s : Int32) (q : Nat) : Nat → Nat
  | 0 => 0
  | i + 1 => mnS m s q i + (lsA' ((liM (mnM m q i) (nI (q + i))).1 54 0) s).toNatClampNeg
theorem VA_keep2 {a b : Nat → Int32} {ns nm nt : Nat} (h : VA a ns nm nt) (e : ∀ j, j < 80 → b j = a j) : VA b ns nm nt := by
  obtain ⟨h0, h1, h2, h3, h4, h5⟩ := h
  have hnt := h2.2
  refine ⟨⟨(e 0 (by omega)).trans h0.1, h0.2⟩, ⟨(e 1 (by omega)).trans h1.1, h1.2⟩, ⟨(e 2 (by omega)).trans h2.1, h2.2⟩, fun j hj => ?_, ?_, ?_⟩
  · rw [e (44 + 3 * j) (by omega)]; exact h3 j hj
  · rw [e 4 (by omega)]; exact h4
  · rw [e 5 (by omega)]; exact h5
theorem YP_keep2 {a b : Nat → Int32} {ns nm nt L : Nat} (h : YP a ns nm nt L) (e : ∀ j, j < 510 → b j = a j) : YP b ns nm nt L := by
  have hL := h.2.1
  refine ⟨(e 10 (by omega)).trans h.1, h.2.1, fun k hk => ?_⟩
  have := h.2.2 k hk
  unfold YL at this ⊢
  rw [e (146 + 6 * k) (by omega), e (147 + 6 * k) (by omega), e (148 + 6 * k) (by omega), e (150 + 6 * k) (by omega)]
  refine ⟨this.1, this.2.1, this.2.2.1, this.2.2.2.1, fun h25 => ?_, this.2.2.2.2.2⟩
  obtain ⟨o, h1, h2, h3⟩ := this.2.2.2.2.1 h25
  exact ⟨o, h1, h2, fun z => h3 (by rw [← e _ (by omega)]; exact z)⟩
theorem mn_ok {m : MM} {ns nm nt L q : Nat} (hV : VMx m ns nm nt) (hY : YP (m.1 54 0) ns nm nt L) (hl : LPo m) : ∀ i, q + i ≤ 10000 → (mnM m q i).1 54 0 = wkC (m.1 54 0) 146 ∧ LPo (mnM m q i) ∧ VMx (mnM m q i) ns nm nt ∧ YP ((mnM m q i).1 54 0) ns nm nt L
  | 0, _ => ⟨rfl, hl, VA_keep2 hV (fun j hj => wkC_lo _ (by omega)), YP_keep2 hY (fun j hj => wkC_lo _ (by omega))⟩
  | i + 1, h => by
    obtain ⟨e, hl2, hV2, hY2⟩ := mn_ok (q := q) hV hY hl i (by omega)
    obtain ⟨g1, g2⟩ := li_keep (d := q + i) hV2 hY2 hl2 (by omega)
    have e2 : (mnM m q (i + 1)).1 54 0 = wkC (m.1 54 0) 146 := by
      show rsC ((liM (mnM m q i) (nI (q + i))).1 54 0) 146 = _
      funext j
      unfold rsC
      by_cases hj : j < 146
      · rw [if_pos hj, g2 (2550 + j) (by omega), e]
        unfold wkC
        rw [if_pos (by omega), if_neg (by omega), show 2550 + j - 2550 = j by omega]
      · rw [if_neg hj, g2 j (by omega), e]
    refine ⟨e2, g1.2.2.1, ?_, ?_⟩
    · unfold VMx; rw [e2, ← e]; exact hV2
    · rw [e2, ← e]; exact hY2
theorem mnS_le {m : MM} {s : Int32} {ns nm nt L q : Nat} (hV : VMx m ns nm nt) (hY : YP (m.1 54 0) ns nm nt L) (hl : LPo m) (hW : WBo (m.1 54 0) nt) : ∀ i, q + i ≤ 10000 → mnS m s q i ≤ 1188 * i ∧ ∀ i', i' < i → lsA' ((liM (mnM m q i') (nI (q + i'))).1 54 0) s = nI (lsA' ((liM (mnM m q i') (nI (q + i'))).1 54 0) s).toNatClampNeg ∧ (lsA' ((liM (mnM m q i') (nI (q + i'))).1 54 0) s).toNatClampNeg ≤ 1188
  | 0, _ => ⟨Nat.le_refl _, fun i' h => absurd h (by omega)⟩
  | i + 1, h => by
    obtain ⟨h1, h2⟩ := mnS_le (s := s) (q := q) hV hY hl hW i (by omega)
    obtain ⟨e, hl2, hV2, hY2⟩ := mn_ok (q := q) hV hY hl i (by omega)
    obtain ⟨g1, g2⟩ := li_keep (d := q + i) hV2 hY2 hl2 (by omega)
    have hnt : nt ≤ 12 := hV.2.2.1.2
    have hW2 : WBo ((liM (mnM m q i) (nI (q + i))).1 54 0) nt := fun j hj => by
      obtain ⟨w, hw, ew⟩ := hW j hj
      exact ⟨w, hw, by rw [g2 (45 + 3 * j) (by omega), e, wkC_lo _ (by omega)]; exact ew⟩
    obtain ⟨v, hv, ev⟩ := wth_le (set := thA ((liM (mnM m q i) (nI (q + i))).1 54 0) s &&& (liM (mnM m q i) (nI (q + i))).1 54 0 8) hW2 nt (Nat.le_refl _)
    have el : lsA' ((liM (mnM m q i) (nI (q + i))).1 54 0) s = nI v := by
      unfold lsA' wtA
      rw [g1.1.2.2.1.1, nI_clamp (by omega)]
      exact ev
    have hv2 : (lsA' ((liM (mnM m q i) (nI (q + i))).1 54 0) s).toNatClampNeg = v := by rw [el]; exact nI_clamp (by omega)
    refine ⟨?_, fun i' hi' => ?_⟩
    · show mnS m s q i + _ ≤ _
      rw [hv2]
      omega
    · rcases Nat.eq_or_lt_of_le (Nat.le_of_lt_succ hi') with z | z
      · subst z
        rw [hv2]
        exact ⟨el, by omega⟩
      · exact h2 i' z
abbrev mnP (a : Nat → Int32) (x y z : Int32) : Prop := suP a x ∧ i99 y 9999 ∧ (¬ lg_cmp z.toInt64 1 < 0 ∧ ¬ 0 < lg_cmp z.toInt64 20) ∧ y + z - 1 ≤ 9999
def mnR (m : MM) (x : Int32) (q n : Nat) : Option MV × MM := (some (vI 1), tbM (mnM m q n) (mnS m x q n) n)
theorem i20_in {x : Int32} (h : ¬ lg_cmp x.toInt64 1 < 0 ∧ ¬ 0 < lg_cmp x.toInt64 20) : ∃ d, 1 ≤ d ∧ d ≤ 20 ∧ x = nI d := by
  have h1 : ¬ x < 1 := fun z => h.1 ((lg_cmp_lt _ _).mpr (by
    rw [Int64.lt_iff_toInt_lt, Int32.toInt_toInt64]
    rw [Int32.lt_iff_toInt_lt] at z
    exact z))
  have h2 : x ≤ 20 := by
    rw [Int32.le_iff_toInt_le]
    have h3 := h.2
    rw [lg_cmp_gt, Int64.lt_iff_toInt_lt, Int32.toInt_toInt64] at h3
    have e1 : (20 : Int64).toInt = 20 := by decide
    have e2 : (20 : Int32).toInt = 20 := by decide
    rw [e1] at h3
    rw [e2]
    omega
  obtain ⟨d, hd, e⟩ := nI_of2 (n := 20) (by decide) (fun z => h1 (Int32.lt_trans z (by decide))) h2
  refine ⟨d, ?_, hd, e⟩
  rcases Nat.eq_zero_or_pos d with z | z
  · rw [e, z] at h1
    exact absurd (by decide) h1
  · exact z

--tpl rfl
def Pre_X12_mean : PreT := fun m as => (∃ ns nm nt, VMx m ns nm nt ∧ YO (m.1 54 0) ns nm nt ∧ WBo (m.1 54 0) nt) ∧ LPo m ∧ ∃ x y z : Int32, as = [vR 12 0, vI x, vI y, vI z]
def Fn_X12_mean : FnT := fun m as => match as with
  | [_, Sum.inl x, Sum.inl y, Sum.inl z] => if mnP (m.1 54 0) x y z then (if m.1 54 0 10 = -1 then isM m 6 else mnR m x y.toNatClampNeg z.toNatClampNeg) else isM m 1
  | _ => (none, m)
abbrev y_X12_mean : MethodName := ⟨"GivenUpModel", "mean", "(III)Z"⟩
def P_X12_mean : List StpT := [s_aload 0, s_iload 1, s_callV 12 1 Pre_X12_isSuitor Fn_X12_isSuitor, s_ifeq 23, s_iload 2, s_i2l, s_lc 0, s_lc (9999), s_callS 3 Pre_X12_isFrom Fn_X12_isFrom, s_ifeq 23, s_iload 3, s_i2l, s_lc 1, s_lc (20), s_callS 3 Pre_X12_isFrom Fn_X12_isFrom, s_ifeq 23, s_iload 2, s_iload 3, s_iadd, s_ic (1), s_isub, s_ic (9999), s_icle 27, s_aload 0, s_ic (1), s_callV 12 1 Pre_X12_is Fn_X12_is, s_zret, s_aload 0, s_getR 12 0 54, s_ic (10), s_iald, s_ic (-1), s_icne 37, s_aload 0, s_ic (6), s_callV 12 1 Pre_X12_is Fn_X12_is, s_zret, s_ic (0), s_istore 4, s_iload 4, s_ic (146), s_icge 54, s_aload 0, s_getR 12 0 54, s_ic (2550), s_iload 4, s_iadd, s_aload 0, s_getR 12 0 54, s_iload 4, s_iald, s_iast, s_iinc 4 (1), s_goto 39, s_lc 0, s_lstore 4, s_ic (0), s_istore 6, s_iload 6, s_iload 3, s_icge 92, s_aload 0, s_iload 2, s_iload 6, s_iadd, s_callV 12 1 Pre_X12_lives Fn_X12_lives, s_lload 4, s_aload 0, s_iload 1, s_callV 12 1 Pre_X12_lossOf Fn_X12_lossOf, s_i2l, s_ladd, s_lstore 4, s_ic (0), s_istore 7, s_iload 7, s_ic (146), s_icge 90, s_aload 0, s_getR 12 0 54, s_iload 7, s_aload 0, s_getR 12 0 54, s_ic (2550), s_iload 7, s_iadd, s_iald, s_iast, s_iinc 7 (1), s_goto 75, s_iinc 6 (1), s_goto 58, s_aload 0, s_lload 4, s_iload 3, s_i2l, s_callV 12 2 Pre_X12_tellsBy Fn_X12_tellsBy, s_zret]
def pc_X12_mean : Nat → Nat := fun i => [0, 1, 2, 5, 8, 9, 10, 11, 14, 17, 20, 21, 22, 23, 26, 29, 32, 33, 34, 35, 36, 37, 40, 43, 44, 45, 48, 49, 50, 53, 55, 56, 57, 60, 61, 63, 66, 67, 68, 70, 72, 75, 78, 79, 82, 85, 87, 88, 89, 92, 94, 95, 96, 99, 102, 103, 105, 106, 108, 110, 111, 114, 115, 116, 118, 119, 122, 124, 125, 126, 129, 130, 131, 133, 134, 136, 138, 141, 144, 145, 148, 150, 151, 154, 157, 159, 160, 161, 162, 165, 168, 171, 174, 175, 177, 178, 179, 182].getD i 0
def dl_X12_mean : List (Nat × Instr × Nat) := [(0, .aload_n 0, 1), (1, .iload_n 1, 1), (2, .invokevirtual 265, 3), (5, .ifCond .eq 38, 3), (8, .iload_n 2, 1), (9, .i2l, 1), (10, .lconst 0, 1), (11, .ldc2_w 479, 3), (14, .invokestatic 373, 3), (17, .ifCond .eq 26, 3), (20, .iload_n 3, 1), (21, .i2l, 1), (22, .lconst 1, 1), (23, .ldc2_w 488, 3), (26, .invokestatic 373, 3), (29, .ifCond .eq 14, 3), (32, .iload_n 2, 1), (33, .iload_n 3, 1), (34, .iadd, 1), (35, .iconst 1, 1), (36, .isub, 1), (37, .sipush 9999, 3), (40, .if_icmp .le 9, 3), (43, .aload_n 0, 1), (44, .iconst 1, 1), (45, .invokevirtual 94, 3), (48, .ireturn, 1), (49, .aload_n 0, 1), (50, .getfield 7, 3), (53, .bipush 10, 2), (55, .iaload, 1), (56, .iconst (-1), 1), (57, .if_icmp .ne 10, 3), (60, .aload_n 0, 1), (61, .bipush 6, 2), (63, .invokevirtual 94, 3), (66, .ireturn, 1), (67, .iconst 0, 1), (68, .istore 4, 2), (70, .iload 4, 2), (72, .sipush 146, 3), (75, .if_icmp .ge 27, 3), (78, .aload_n 0, 1), (79, .getfield 7, 3), (82, .sipush 2550, 3), (85, .iload 4, 2), (87, .iadd, 1), (88, .aload_n 0, 1), (89, .getfield 7, 3), (92, .iload 4, 2), (94, .iaload, 1), (95, .iastore, 1), (96, .iinc 4 1, 3), (99, .goto (-29), 3), (102, .lconst 0, 1), (103, .lstore 4, 2), (105, .iconst 0, 1), (106, .istore 6, 2), (108, .iload 6, 2), (110, .iload_n 3, 1), (111, .if_icmp .ge 63, 3), (114, .aload_n 0, 1), (115, .iload_n 2, 1), (116, .iload 6, 2), (118, .iadd, 1), (119, .invokevirtual 481, 3), (122, .lload 4, 2), (124, .aload_n 0, 1), (125, .iload_n 1, 1), (126, .invokevirtual 307, 3), (129, .i2l, 1), (130, .ladd, 1), (131, .lstore 4, 2), (133, .iconst 0, 1), (134, .istore 7, 2), (136, .iload 7, 2), (138, .sipush 146, 3), (141, .if_icmp .ge 27, 3), (144, .aload_n 0, 1), (145, .getfield 7, 3), (148, .iload 7, 2), (150, .aload_n 0, 1), (151, .getfield 7, 3), (154, .sipush 2550, 3), (157, .iload 7, 2), (159, .iadd, 1), (160, .iaload, 1), (161, .iastore, 1), (162, .iinc 7 1, 3), (165, .goto (-29), 3), (168, .iinc 6 1, 3), (171, .goto (-63), 3), (174, .aload_n 0, 1), (175, .lload 4, 2), (177, .iload_n 3, 1), (178, .i2l, 1), (179, .invokevirtual 367, 3), (182, .ireturn, 1)]
theorem dc_X12_mean : DEC prog_14_method_162_code pc_X12_mean dl_X12_mean := DEC_of (by decide +kernel)
abbrev rm_X12_mean : Room := { frames := 8, cells := 0, slots := 0, locals := 176 }
set_option maxRecDepth 20000 in
theorem sa_X12_mean (l : Launch) : SNDALL l prog_14_method_162_code "GivenUpModel" 8 (some .boolean) rm_X12_mean P_X12_mean pc_X12_mean := fun p e s m args below meth c cells slots Q D dA ad A RR hC hR => by
  have hM := RTX_room (R := rm_X12_mean) hR
  exact ⟨st_aload_n hC (n := 0) (k := 0) (dc_X12_mean 0 (0, .aload_n 0, 1) rfl rfl) rfl rfl,
    st_iload_n hC (n := 1) (k := 1) (dc_X12_mean 1 (1, .iload_n 1, 1) rfl rfl) rfl rfl,
    st_callV hC (n := 2) (k := 12) (na := 1) (con_X12_isSuitor l) (dc_X12_mean 2 (2, .invokevirtual 265, 3) rfl rfl) rfl wd_1885 wd_160 (by decide) ⟨rfl, rfl, by decide, by decide⟩ hM wd_1882 wd_1884 wd_85 clf_12,
    st_ifeq hC (n := 3) (dc_X12_mean 3 (5, .ifCond .eq 38, 3) rfl rfl) rfl (by decide),
    st_iload_n hC (n := 4) (k := 2) (dc_X12_mean 4 (8, .iload_n 2, 1) rfl rfl) rfl rfl,
    st_i2l hC (n := 5) (dc_X12_mean 5 (9, .i2l, 1) rfl rfl) rfl,
    st_lconst hC (n := 6) (x := 0) (dc_X12_mean 6 (10, .lconst 0, 1) rfl rfl) rfl (by decide),
    st_ldc2 hC (n := 7) (x := 9999) (dc_X12_mean 7 (11, .ldc2_w 479, 3) rfl rfl) rfl wd_2280,
    st_callS hC (n := 8) (na := 3) (con_X12_isFrom l) (dc_X12_mean 8 (14, .invokestatic 373, 3) rfl rfl) rfl wd_2110 wd_160 (by decide) ⟨rfl, rfl, by decide, by decide⟩ hM wd_2108 wd_2109,
    st_ifeq hC (n := 9) (dc_X12_mean 9 (17, .ifCond .eq 26, 3) rfl rfl) rfl (by decide),
    st_iload_n hC (n := 10) (k := 3) (dc_X12_mean 10 (20, .iload_n 3, 1) rfl rfl) rfl rfl,
    st_i2l hC (n := 11) (dc_X12_mean 11 (21, .i2l, 1) rfl rfl) rfl,
    st_lconst hC (n := 12) (x := 1) (dc_X12_mean 12 (22, .lconst 1, 1) rfl rfl) rfl (by decide),
    st_ldc2 hC (n := 13) (x := 20) (dc_X12_mean 13 (23, .ldc2_w 488, 3) rfl rfl) rfl wd_2318,
    st_callS hC (n := 14) (na := 3) (con_X12_isFrom l) (dc_X12_mean 14 (26, .invokestatic 373, 3) rfl rfl) rfl wd_2110 wd_160 (by decide) ⟨rfl, rfl, by decide, by decide⟩ hM wd_2108 wd_2109,
    st_ifeq hC (n := 15) (dc_X12_mean 15 (29, .ifCond .eq 14, 3) rfl rfl) rfl (by decide),
    st_iload_n hC (n := 16) (k := 2) (dc_X12_mean 16 (32, .iload_n 2, 1) rfl rfl) rfl rfl,
    st_iload_n hC (n := 17) (k := 3) (dc_X12_mean 17 (33, .iload_n 3, 1) rfl rfl) rfl rfl,
    st_iadd hC (n := 18) (dc_X12_mean 18 (34, .iadd, 1) rfl rfl) rfl,
    st_iconst hC (n := 19) (x := 1) (dc_X12_mean 19 (35, .iconst 1, 1) rfl rfl) rfl (by decide),
    st_isub hC (n := 20) (dc_X12_mean 20 (36, .isub, 1) rfl rfl) rfl,
    st_sipush hC (n := 21) (x := 9999) (dc_X12_mean 21 (37, .sipush 9999, 3) rfl rfl) rfl (by decide),
    st_icle hC (n := 22) (dc_X12_mean 22 (40, .if_icmp .le 9, 3) rfl rfl) rfl (by decide),
    st_aload_n hC (n := 23) (k := 0) (dc_X12_mean 23 (43, .aload_n 0, 1) rfl rfl) rfl rfl,
    st_iconst hC (n := 24) (x := 1) (dc_X12_mean 24 (44, .iconst 1, 1) rfl rfl) rfl (by decide),
    st_callV hC (n := 25) (k := 12) (na := 1) (con_X12_is l) (dc_X12_mean 25 (45, .invokevirtual 94, 3) rfl rfl) rfl wd_1698 wd_160 (by decide) ⟨rfl, rfl, by decide, by decide⟩ hM wd_1695 wd_1697 wd_51 clf_12,
    st_zret hC (n := 26) hR (dc_X12_mean 26 (48, .ireturn, 1) rfl rfl),
    st_aload_n hC (n := 27) (k := 0) (dc_X12_mean 27 (49, .aload_n 0, 1) rfl rfl) rfl rfl,
    st_getR hC (n := 28) (k := 12) (j := 0) (dc_X12_mean 28 (50, .getfield 7, 3) rfl rfl) rfl clf_12 (by decide) rfl (by decide) wd_1552,
    st_bipush hC (n := 29) (x := 10) (dc_X12_mean 29 (53, .bipush 10, 2) rfl rfl) rfl (by decide),
    st_iald hC (n := 30) (dc_X12_mean 30 (55, .iaload, 1) rfl rfl) rfl,
    st_iconst hC (n := 31) (x := (-1)) (dc_X12_mean 31 (56, .iconst (-1), 1) rfl rfl) rfl (by decide),
    st_icne hC (n := 32) (dc_X12_mean 32 (57, .if_icmp .ne 10, 3) rfl rfl) rfl (by decide),
    st_aload_n hC (n := 33) (k := 0) (dc_X12_mean 33 (60, .aload_n 0, 1) rfl rfl) rfl rfl,
    st_bipush hC (n := 34) (x := 6) (dc_X12_mean 34 (61, .bipush 6, 2) rfl rfl) rfl (by decide),
    st_callV hC (n := 35) (k := 12) (na := 1) (con_X12_is l) (dc_X12_mean 35 (63, .invokevirtual 94, 3) rfl rfl) rfl wd_1698 wd_160 (by decide) ⟨rfl, rfl, by decide, by decide⟩ hM wd_1695 wd_1697 wd_51 clf_12,
    st_zret hC (n := 36) hR (dc_X12_mean 36 (66, .ireturn, 1) rfl rfl),
    st_iconst hC (n := 37) (x := 0) (dc_X12_mean 37 (67, .iconst 0, 1) rfl rfl) rfl (by decide),
    st_istore hC (n := 38) (dc_X12_mean 38 (68, .istore 4, 2) rfl rfl) rfl (by decide),
    st_iload hC (n := 39) (dc_X12_mean 39 (70, .iload 4, 2) rfl rfl) rfl,
    st_sipush hC (n := 40) (x := 146) (dc_X12_mean 40 (72, .sipush 146, 3) rfl rfl) rfl (by decide),
    st_icge hC (n := 41) (dc_X12_mean 41 (75, .if_icmp .ge 27, 3) rfl rfl) rfl (by decide),
    st_aload_n hC (n := 42) (k := 0) (dc_X12_mean 42 (78, .aload_n 0, 1) rfl rfl) rfl rfl,
    st_getR hC (n := 43) (k := 12) (j := 0) (dc_X12_mean 43 (79, .getfield 7, 3) rfl rfl) rfl clf_12 (by decide) rfl (by decide) wd_1552,
    st_sipush hC (n := 44) (x := 2550) (dc_X12_mean 44 (82, .sipush 2550, 3) rfl rfl) rfl (by decide),
    st_iload hC (n := 45) (dc_X12_mean 45 (85, .iload 4, 2) rfl rfl) rfl,
    st_iadd hC (n := 46) (dc_X12_mean 46 (87, .iadd, 1) rfl rfl) rfl,
    st_aload_n hC (n := 47) (k := 0) (dc_X12_mean 47 (88, .aload_n 0, 1) rfl rfl) rfl rfl,
    st_getR hC (n := 48) (k := 12) (j := 0) (dc_X12_mean 48 (89, .getfield 7, 3) rfl rfl) rfl clf_12 (by decide) rfl (by decide) wd_1552,
    st_iload hC (n := 49) (dc_X12_mean 49 (92, .iload 4, 2) rfl rfl) rfl,
    st_iald hC (n := 50) (dc_X12_mean 50 (94, .iaload, 1) rfl rfl) rfl,
    st_iast hC (n := 51) (dc_X12_mean 51 (95, .iastore, 1) rfl rfl) rfl,
    st_iinc hC (n := 52) (x := 1) (dc_X12_mean 52 (96, .iinc 4 1, 3) rfl rfl) rfl (by decide) (by decide),
    st_goto hC (n := 53) (dc_X12_mean 53 (99, .goto (-29), 3) rfl rfl) (by decide),
    st_lconst hC (n := 54) (x := 0) (dc_X12_mean 54 (102, .lconst 0, 1) rfl rfl) rfl (by decide),
    st_lstore hC (n := 55) (dc_X12_mean 55 (103, .lstore 4, 2) rfl rfl) rfl (by decide),
    st_iconst hC (n := 56) (x := 0) (dc_X12_mean 56 (105, .iconst 0, 1) rfl rfl) rfl (by decide),
    st_istore hC (n := 57) (dc_X12_mean 57 (106, .istore 6, 2) rfl rfl) rfl (by decide),
    st_iload hC (n := 58) (dc_X12_mean 58 (108, .iload 6, 2) rfl rfl) rfl,
    st_iload_n hC (n := 59) (k := 3) (dc_X12_mean 59 (110, .iload_n 3, 1) rfl rfl) rfl rfl,
    st_icge hC (n := 60) (dc_X12_mean 60 (111, .if_icmp .ge 63, 3) rfl rfl) rfl (by decide),
    st_aload_n hC (n := 61) (k := 0) (dc_X12_mean 61 (114, .aload_n 0, 1) rfl rfl) rfl rfl,
    st_iload_n hC (n := 62) (k := 2) (dc_X12_mean 62 (115, .iload_n 2, 1) rfl rfl) rfl rfl,
    st_iload hC (n := 63) (dc_X12_mean 63 (116, .iload 6, 2) rfl rfl) rfl,
    st_iadd hC (n := 64) (dc_X12_mean 64 (118, .iadd, 1) rfl rfl) rfl,
    st_callV hC (n := 65) (k := 12) (na := 1) (con_X12_lives l) (dc_X12_mean 65 (119, .invokevirtual 481, 3) rfl rfl) rfl wd_2284 wd_160 (by decide) ⟨rfl, rfl, by decide, by decide⟩ hM wd_2281 wd_2283 wd_134 clf_12,
    st_lload hC (n := 66) (dc_X12_mean 66 (122, .lload 4, 2) rfl rfl) rfl,
    st_aload_n hC (n := 67) (k := 0) (dc_X12_mean 67 (124, .aload_n 0, 1) rfl rfl) rfl rfl,
    st_iload_n hC (n := 68) (k := 1) (dc_X12_mean 68 (125, .iload_n 1, 1) rfl rfl) rfl rfl,
    st_callV hC (n := 69) (k := 12) (na := 1) (con_X12_lossOf l) (dc_X12_mean 69 (126, .invokevirtual 307, 3) rfl rfl) rfl wd_1911 wd_160 (by decide) ⟨rfl, rfl, by decide, by decide⟩ hM wd_1908 wd_1910 wd_90 clf_12,
    st_i2l hC (n := 70) (dc_X12_mean 70 (129, .i2l, 1) rfl rfl) rfl,
    st_ladd hC (n := 71) (dc_X12_mean 71 (130, .ladd, 1) rfl rfl) rfl,
    st_lstore hC (n := 72) (dc_X12_mean 72 (131, .lstore 4, 2) rfl rfl) rfl (by decide),
    st_iconst hC (n := 73) (x := 0) (dc_X12_mean 73 (133, .iconst 0, 1) rfl rfl) rfl (by decide),
    st_istore hC (n := 74) (dc_X12_mean 74 (134, .istore 7, 2) rfl rfl) rfl (by decide),
    st_iload hC (n := 75) (dc_X12_mean 75 (136, .iload 7, 2) rfl rfl) rfl,
    st_sipush hC (n := 76) (x := 146) (dc_X12_mean 76 (138, .sipush 146, 3) rfl rfl) rfl (by decide),
    st_icge hC (n := 77) (dc_X12_mean 77 (141, .if_icmp .ge 27, 3) rfl rfl) rfl (by decide),
    st_aload_n hC (n := 78) (k := 0) (dc_X12_mean 78 (144, .aload_n 0, 1) rfl rfl) rfl rfl,
    st_getR hC (n := 79) (k := 12) (j := 0) (dc_X12_mean 79 (145, .getfield 7, 3) rfl rfl) rfl clf_12 (by decide) rfl (by decide) wd_1552,
    st_iload hC (n := 80) (dc_X12_mean 80 (148, .iload 7, 2) rfl rfl) rfl,
    st_aload_n hC (n := 81) (k := 0) (dc_X12_mean 81 (150, .aload_n 0, 1) rfl rfl) rfl rfl,
    st_getR hC (n := 82) (k := 12) (j := 0) (dc_X12_mean 82 (151, .getfield 7, 3) rfl rfl) rfl clf_12 (by decide) rfl (by decide) wd_1552,
    st_sipush hC (n := 83) (x := 2550) (dc_X12_mean 83 (154, .sipush 2550, 3) rfl rfl) rfl (by decide),
    st_iload hC (n := 84) (dc_X12_mean 84 (157, .iload 7, 2) rfl rfl) rfl,
    st_iadd hC (n := 85) (dc_X12_mean 85 (159, .iadd, 1) rfl rfl) rfl,
    st_iald hC (n := 86) (dc_X12_mean 86 (160, .iaload, 1) rfl rfl) rfl,
    st_iast hC (n := 87) (dc_X12_mean 87 (161, .iastore, 1) rfl rfl) rfl,
    st_iinc hC (n := 88) (x := 1) (dc_X12_mean 88 (162, .iinc 7 1, 3) rfl rfl) rfl (by decide) (by decide),
    st_goto hC (n := 89) (dc_X12_mean 89 (165, .goto (-29), 3) rfl rfl) (by decide),
    st_iinc hC (n := 90) (x := 1) (dc_X12_mean 90 (168, .iinc 6 1, 3) rfl rfl) rfl (by decide) (by decide),
    st_goto hC (n := 91) (dc_X12_mean 91 (171, .goto (-63), 3) rfl rfl) (by decide),
    st_aload_n hC (n := 92) (k := 0) (dc_X12_mean 92 (174, .aload_n 0, 1) rfl rfl) rfl rfl,
    st_lload hC (n := 93) (dc_X12_mean 93 (175, .lload 4, 2) rfl rfl) rfl,
    st_iload_n hC (n := 94) (k := 3) (dc_X12_mean 94 (177, .iload_n 3, 1) rfl rfl) rfl rfl,
    st_i2l hC (n := 95) (dc_X12_mean 95 (178, .i2l, 1) rfl rfl) rfl,
    st_callV hC (n := 96) (k := 12) (na := 2) (con_X12_tellsBy l) (dc_X12_mean 96 (179, .invokevirtual 367, 3) rfl rfl) rfl wd_2102 wd_160 (by decide) ⟨rfl, rfl, by decide, by decide⟩ hM wd_2099 wd_2101 wd_116 clf_12,
    st_zret hC (n := 97) hR (dc_X12_mean 97 (182, .ireturn, 1) rfl rfl), trivial⟩
set_option maxRecDepth 8000 in
theorem vc_X12_mean : VC P_X12_mean 8 Pre_X12_mean Fn_X12_mean := by
  rintro mm as hom hoa ⟨⟨ns, nm, nt, hV, hO, hW⟩, hl, x, y, z, rfl⟩
  refine ⟨Nat.le_of_ble_eq_true rfl, fun X h => ?_⟩
  have hM : VM mm := ⟨ns, nm, nt, hV⟩
  have hF : Fn_X12_mean mm [vR 12 0, vI x, vI y, vI z] = if mnP (mm.1 54 0) x y z then (if mm.1 54 0 10 = -1 then isM mm 6 else mnR mm x y.toNatClampNeg z.toNatClampNeg) else isM mm 1 := rfl
  rw [hF] at h
  have no : ¬ mnP (mm.1 54 0) x y z → X 23 [some (vR 12 0), some (vI (x)), some (vI (y)), some (vI (z)), none, none, none, none] [] mm := by
    intro hc
    rw [if_neg hc] at h
    show X 23 [some (vR 12 0), some (vI x), some (vI y), some (vI z), none, none, none, none] [] mm
    refine h (fun _ => false) 3000 23 _ _ _ ?_
    refine And.intro (show Pre_X12_is mm [vR 12 0, vI 1] from ⟨_, rfl⟩) ?_
    refine And.intro bI_in ?_
    show ((some (vI (bI (1 = 0))) : Option MV), stM mm 1) = _
    exact rfl
  have go : mnP (mm.1 54 0) x y z → ¬ mm.1 54 0 10 = -1 → X 37 [some (vR 12 0), some (vI (x)), some (vI (y)), some (vI (z)), none, none, none, none] [] mm := by
    intro hc hn
    rw [if_pos hc, if_neg hn] at h
    obtain ⟨L, hY⟩ := hO.resolve_left hn
    obtain ⟨q, hq, rfl⟩ := i99_in hc.2.1
    obtain ⟨n, hn1, hn20, rfl⟩ := i20_in hc.2.2.1
    have hqn : q + n ≤ 10000 := by
      have h3 := hc.2.2.2
      rw [nI_add, show (1 : Int32) = nI 1 from rfl, nI_sb (by omega), show (9999 : Int32) = nI 9999 from rfl, nI_leI (by omega) (by omega)] at h3
      omega
    rw [nI_clamp (show q < 2 ^ 31 by omega), nI_clamp (show n < 2 ^ 31 by omega)] at h
    unfold mnR at h
    obtain ⟨hS1, hS2⟩ := mnS_le (s := x) (q := q) hV hY hl hW n hqn
    have fin : ∀ L7, X 92 [some (vR 12 0), some (vI (x)), some (vI (nI q)), some (vI (nI n)), some (vL (lN (mnS mm x q n))), none, some (vI (nI n)), L7] [] (mnM mm q n) := by
      intro L7
      generalize mnM mm q n = M at h
      generalize mnS mm x q n = S at h hS1
      have e1 : (nI n).toInt64 = lN n := nI_l (by omega)
      have fin2 : X 96 [some (vR 12 0), some (vI x), some (vI (nI q)), some (vI (nI n)), some (vL (lN S)), none, some (vI (nI n)), L7] [vL (lN n), vL (lN S), vR 12 0] M := by
        refine h (fun _ => false) 3000 96 _ _ _ ?_
        refine And.intro (show Pre_X12_tellsBy M [vR 12 0, vL (lN S), vL (lN n)] from ⟨S, n, by omega, by omega, by omega, rfl⟩) ?_
        refine And.intro (Or.inr rfl) ?_
        show (some (vI 1), tbM M (lN S).toInt.toNat (lN n).toInt.toNat) = _
        rw [pk_lT (by omega), pk_lT (by omega)]
        rfl
      show X 92 [some (vR 12 0), some (vI x), some (vI (nI q)), some (vI (nI n)), some (vL (lN S)), none, some (vI (nI n)), L7] [] M
      refine h (fun i => Nat.beq i 96) 3000 92 _ _ _ ?_
      show X 96 [some (vR 12 0), some (vI x), some (vI (nI q)), some (vI (nI n)), some (vL (lN S)), none, some (vI (nI n)), L7] [vL ((nI n).toInt64), vL (lN S), vR 12 0] M
      rw [e1]
      exact fin2
    have loop : ∀ i, i ≤ n → ∀ L7, X 58 [some (vR 12 0), some (vI (x)), some (vI (nI q)), some (vI (nI n)), some (vL (lN (mnS mm x q i))), none, some (vI (nI i)), L7] [] (mnM mm q i) := by
      refine up_ind n ?_ (fun i hi ih => ?_)
      · intro L7
        show X 58 [some (vR 12 0), some (vI x), some (vI (nI q)), some (vI (nI n)), some (vL (lN (mnS mm x q n))), none, some (vI (nI n)), L7] [] (mnM mm q n)
        refine h (fun i => Nat.beq i 92) 3000 58 _ _ _ ?_
        refine br_t (show nI n ≤ nI n from Int32.le_refl _) ?_
        show X 92 [some (vR 12 0), some (vI x), some (vI (nI q)), some (vI (nI n)), some (vL (lN (mnS mm x q n))), none, some (vI (nI n)), L7] [] (mnM mm q n)
        exact fin _
      · intro L7
        obtain ⟨e, hl2, hV2, hY2⟩ := mn_ok (q := q) hV hY hl i (by omega)
        obtain ⟨g1, g2⟩ := li_keep (d := q + i) hV2 hY2 hl2 (by omega)
        obtain ⟨t1, t2⟩ := hS2 i hi
        have es : mnS mm x q (i + 1) = mnS mm x q i + (lsA' ((liM (mnM mm q i) (nI (q + i))).1 54 0) x).toNatClampNeg := rfl
        have em : mnM mm q (i + 1) = mRow (liM (mnM mm q i) (nI (q + i))) 54 0 (rsC ((liM (mnM mm q i) (nI (q + i))).1 54 0) 146) := rfl
        obtain ⟨b1, -⟩ := mnS_le (s := x) (q := q) hV hY hl hW i (by omega)
        rw [es, em] at ih
        suffices w : X 75 [some (vR 12 0), some (vI (x)), some (vI (nI q)), some (vI (nI n)), some (vL (lN (mnS mm x q i + (lsA' ((liM (mnM mm q i) (nI (q + i))).1 54 0) x).toNatClampNeg))), none, some (vI (nI i)), some (vI (0))] [] (liM (mnM mm q i) (nI (q + i))) by
          have x1 : nI q + nI i = nI (q + i) := nI_add q i
          show X 58 [some (vR 12 0), some (vI x), some (vI (nI q)), some (vI (nI n)), some (vL (lN (mnS mm x q i))), none, some (vI (nI i)), L7] [] (mnM mm q i)
          refine h (fun i => Nat.beq i 75) 3000 58 _ _ _ ?_
          refine br_f (show ¬ (nI n ≤ nI i) from nI_ge hi (by omega)) ?_
          refine And.intro (show Pre_X12_lives (mnM mm q i) [vR 12 0, vI ((nI q) + (nI i))] from ⟨ns, nm, nt, L, q + i, hV2, hY2, hl2, by omega, by rw [x1]⟩) ?_
          refine And.intro (show Pre_X12_lossOf (liM (mnM mm q i) ((nI q) + (nI i))) [vR 12 0, vI x] from ⟨by rw [x1]; exact ⟨ns, nm, nt, g1.1⟩, x, rfl⟩) ?_
          show X 75 [some (vR 12 0), some (vI x), some (vI (nI q)), some (vI (nI n)), some (vL ((lN (mnS mm x q i)) + ((lsA' ((liM (mnM mm q i) ((nI q) + (nI i))).1 54 0) x).toInt64))), none, some (vI (nI i)), some (vI 0)] [] (liM (mnM mm q i) ((nI q) + (nI i)))
          rw [x1]
          rw [t1, nI_l (by omega), lN_add] 
          exact w
        generalize liM (mnM mm q i) (nI (q + i)) = M at *
        generalize mnS mm x q i + (lsA' (M.1 54 0) x).toNatClampNeg = S at *
        have rest : ∀ j, j ≤ 146 → X 75 [some (vR 12 0), some (vI (x)), some (vI (nI q)), some (vI (nI n)), some (vL (lN S)), none, some (vI (nI i)), some (vI (nI j))] [] (mRow M 54 0 (rsC (M.1 54 0) j)) := by
          refine up_ind 146 ?_ (fun j hj ihj => ?_)
          ·
            show X 75 [some (vR 12 0), some (vI x), some (vI (nI q)), some (vI (nI n)), some (vL (lN S)), none, some (vI (nI i)), some (vI (nI 146))] [] (mRow M 54 0 (rsC (M.1 54 0) 146))
            refine h (fun i => Nat.beq i 58) 3000 75 _ _ _ ?_
            refine br_t (show 146 ≤ nI 146 from Int32.le_refl _) ?_
            show X 58 [some (vR 12 0), some (vI x), some (vI (nI q)), some (vI (nI n)), some (vL (lN S)), none, some (vI ((nI i) + 1)), some (vI (nI 146))] [] (mRow M 54 0 (rsC (M.1 54 0) 146))
            rw [nI_1]
            exact ih _
          · have ej : (nI j).toNatClampNeg = j := nI_clamp (by omega)
            have e2 : (2550 + nI j).toNatClampNeg = 2550 + j := by simp (disch := omega) only [li, pk_mul, nI_add, nI_clamp]
            show X 75 [some (vR 12 0), some (vI x), some (vI (nI q)), some (vI (nI n)), some (vL (lN S)), none, some (vI (nI i)), some (vI (nI j))] [] (mRow M 54 0 (rsC (M.1 54 0) j))
            refine h (fun i => Nat.beq i 75) 3000 75 _ _ _ ?_
            refine br_f (show ¬ (146 ≤ nI j) from show ¬ nI 146 ≤ nI j from nI_ge hj (by omega)) ?_
            refine And.intro (show inb (2550 + (nI j)) (alen 54) = true from (inb_o 3060 rfl rfl (show 2550 + (nI j) = nI (2550 + ( j)) by simp (disch := omega) only [li, pk_mul, nI_add, nI_clamp]) (by omega))) ?_
            refine And.intro (show inb (nI j) (alen 54) = true from (inb_o 3060 rfl rfl rfl (by omega))) ?_
            show X 75 [some (vR 12 0), some (vI x), some (vI (nI q)), some (vI (nI n)), some (vL (lN S)), none, some (vI (nI i)), some (vI ((nI j) + 1))] [] (mRow (mRow M 54 0 (rsC (M.1 54 0) j)) 54 0 (upd (rsC (M.1 54 0) j) (nI j).toNatClampNeg ((rsC (M.1 54 0) j) ((2550 + (nI j)).toNatClampNeg))))
            rw [ej, e2, rsC_r _ _ (by omega), mRow2, rsC_s, nI_1]
            exact ihj
        have r0 := rest 0 (by omega)
        rw [rsC_0, mRow_self] at r0
        exact r0
    have copy : ∀ j, j ≤ 146 → X 39 [some (vR 12 0), some (vI (x)), some (vI (nI q)), some (vI (nI n)), some (vI (nI j)), none, none, none] [] (mRow mm 54 0 (wkC (mm.1 54 0) j)) := by
      refine up_ind 146 ?_ (fun j hj ihj => ?_)
      · have l0 := loop 0 (by omega) none
        show X 39 [some (vR 12 0), some (vI x), some (vI (nI q)), some (vI (nI n)), some (vI (nI 146)), none, none, none] [] (mRow mm 54 0 (wkC (mm.1 54 0) 146))
        refine h (fun i => Nat.beq i 58) 3000 39 _ _ _ ?_
        refine br_t (show 146 ≤ nI 146 from Int32.le_refl _) ?_
        show X 58 [some (vR 12 0), some (vI x), some (vI (nI q)), some (vI (nI n)), some (vL 0), none, some (vI 0), none] [] (mRow mm 54 0 (wkC (mm.1 54 0) 146))
        exact l0
      · have ej : (nI j).toNatClampNeg = j := nI_clamp (by omega)
        have e2 : (2550 + nI j).toNatClampNeg = 2550 + j := by simp (disch := omega) only [li, pk_mul, nI_add, nI_clamp]
        show X 39 [some (vR 12 0), some (vI x), some (vI (nI q)), some (vI (nI n)), some (vI (nI j)), none, none, none] [] (mRow mm 54 0 (wkC (mm.1 54 0) j))
        refine h (fun i => Nat.beq i 39) 3000 39 _ _ _ ?_
        refine br_f (show ¬ (146 ≤ nI j) from show ¬ nI 146 ≤ nI j from nI_ge hj (by omega)) ?_
        refine And.intro (show inb (nI j) (alen 54) = true from (inb_o 3060 rfl rfl rfl (by omega))) ?_
        refine And.intro (show inb (2550 + (nI j)) (alen 54) = true from (inb_o 3060 rfl rfl (show 2550 + (nI j) = nI (2550 + ( j)) by simp (disch := omega) only [li, pk_mul, nI_add, nI_clamp]) (by omega))) ?_
        show X 39 [some (vR 12 0), some (vI x), some (vI (nI q)), some (vI (nI n)), some (vI ((nI j) + 1)), none, none, none] [] (mRow (mRow mm 54 0 (wkC (mm.1 54 0) j)) 54 0 (upd (wkC (mm.1 54 0) j) (2550 + (nI j)).toNatClampNeg ((wkC (mm.1 54 0) j) ((nI j).toNatClampNeg))))
        rw [ej, e2, wkC_lo _ (by omega), mRow2, wkC_s, nI_1]
        exact ihj
    have c0 := copy 0 (by omega)
    rw [wkC_0, mRow_self] at c0
    show X 37 [some (vR 12 0), some (vI x), some (vI (nI q)), some (vI (nI n)), none, none, none, none] [] mm
    refine h (fun i => Nat.beq i 39) 3000 37 _ _ _ ?_
    show X 39 [some (vR 12 0), some (vI x), some (vI (nI q)), some (vI (nI n)), some (vI 0), none, none, none] [] mm
    exact c0
  show X 0 [some (vR 12 0), some (vI x), some (vI y), some (vI z), none, none, none, none] [] mm
  refine h (fun i => Nat.beq i 23 || Nat.beq i 37) 3000 0 _ _ _ ?_
  refine And.intro (show Pre_X12_isSuitor mm [vR 12 0, vI x] from ⟨_, rfl⟩) ?_
  refine br_c (fun b3 => ?_) (fun b3 => ?_)
  · -- 3: bI (suP (mm.1 54 0) x) = 0 taken
    replace b3 : ¬ (suP (mm.1 54 0) x) := bI_0.mp b3
    show X 23 [some (vR 12 0), some (vI x), some (vI y), some (vI z), none, none, none, none] [] mm
    exact no (fun w => b3 w.1)
  · -- 3: bI (suP (mm.1 54 0) x) = 0 on
    replace b3 : suP (mm.1 54 0) x := bI_n0.mp b3
    refine And.intro (show Pre_X12_isFrom mm [vL y.toInt64, vL 0, vL 9999] from ⟨_, _, _, rfl⟩) ?_
    refine br_c (fun b9 => ?_) (fun b9 => ?_)
    · -- 9: bI (¬ lg_cmp y.toInt64 0 < 0 ∧ ¬ 0 < lg_cmp y.toInt64 9999) = 0 taken
      replace b9 : ¬ (¬ lg_cmp y.toInt64 0 < 0 ∧ ¬ 0 < lg_cmp y.toInt64 9999) := bI_0.mp b9
      show X 23 [some (vR 12 0), some (vI x), some (vI y), some (vI z), none, none, none, none] [] mm
      exact no (fun w => b9 w.2.1)
    · -- 9: bI (¬ lg_cmp y.toInt64 0 < 0 ∧ ¬ 0 < lg_cmp y.toInt64 9999) = 0 on
      replace b9 : ¬ lg_cmp y.toInt64 0 < 0 ∧ ¬ 0 < lg_cmp y.toInt64 9999 := bI_n0.mp b9
      refine And.intro (show Pre_X12_isFrom mm [vL z.toInt64, vL 1, vL 20] from ⟨_, _, _, rfl⟩) ?_
      refine br_c (fun b15 => ?_) (fun b15 => ?_)
      · -- 15: bI (¬ lg_cmp z.toInt64 1 < 0 ∧ ¬ 0 < lg_cmp z.toInt64 20) = 0 taken
        replace b15 : ¬ (¬ lg_cmp z.toInt64 1 < 0 ∧ ¬ 0 < lg_cmp z.toInt64 20) := bI_0.mp b15
        show X 23 [some (vR 12 0), some (vI x), some (vI y), some (vI z), none, none, none, none] [] mm
        exact no (fun w => b15 w.2.2.1)
      · -- 15: bI (¬ lg_cmp z.toInt64 1 < 0 ∧ ¬ 0 < lg_cmp z.toInt64 20) = 0 on
        replace b15 : ¬ lg_cmp z.toInt64 1 < 0 ∧ ¬ 0 < lg_cmp z.toInt64 20 := bI_n0.mp b15
        refine br_c (fun b22 => ?_) (fun b22 => ?_)
        · -- 22: (y + z) - 1 ≤ 9999 taken
          replace b22 : (y + z) - 1 ≤ 9999 := b22
          refine And.intro (show inb 10 (alen 54) = true from rfl) ?_
          refine brn_c (fun b32 => ?_) (fun b32 => ?_)
          · -- 32: mm.1 54 0 10 = (-1) taken
            replace b32 : ¬ (mm.1 54 0 10 = (-1)) := b32
            show X 37 [some (vR 12 0), some (vI x), some (vI y), some (vI z), none, none, none, none] [] mm
            exact go ⟨b3, b9, b15, b22⟩ b32
          · -- 32: mm.1 54 0 10 = (-1) on
            replace b32 : mm.1 54 0 10 = (-1) := b32
            refine And.intro (show Pre_X12_is mm [vR 12 0, vI 6] from ⟨_, rfl⟩) ?_
            refine And.intro bI_in ?_
            show ((some (vI (bI (6 = 0))) : Option MV), stM mm 6) = _
            rw [if_pos ⟨b3, b9, b15, b22⟩, if_pos b32]
            exact rfl
        · -- 22: (y + z) - 1 ≤ 9999 on
          replace b22 : ¬ ((y + z) - 1 ≤ 9999) := b22
          show X 23 [some (vR 12 0), some (vI x), some (vI y), some (vI z), none, none, none, none] [] mm
          exact no (fun w => b22 w.2.2.2)
theorem con_X12_mean (l : Launch) : CON l y_X12_mean prog_14_method_162_code 8 (some .boolean) rm_X12_mean Pre_X12_mean Fn_X12_mean := CON_of (by decide) rfl rfl (sa_X12_mean l) vc_X12_mean
