/-! PART 54: the model: living through the YEARS -/

theorem VA_keep {a b : Nat → Int32} {ns nm nt : Nat} (h : VA a ns nm nt) (e : ∀ j, j = 0 ∨ j = 1 ∨ j = 2 ∨ j = 4 ∨ j = 5 ∨ 44 ≤ j → b j = a j) : VA b ns nm nt := by
  obtain ⟨h0, h1, h2, h3, h4, h5⟩ := h
  refine ⟨⟨(e 0 (by omega)).trans h0.1, h0.2⟩, ⟨(e 1 (by omega)).trans h1.1, h1.2⟩, ⟨(e 2 (by omega)).trans h2.1, h2.2⟩, fun j hj => ?_, ?_, ?_⟩
  · rw [e (44 + 3 * j) (by omega)]; exact h3 j hj
  · rw [e 4 (by omega)]; exact h4
  · rw [e 5 (by omega)]; exact h5
def DRo (m : MM) : Prop := ∃ d, m.1 12 0 34 = nI d ∧ d < 65536
/-- what living changes not -/
def DK (m m' : MM) : Prop := (∀ j, j ≤ 5 ∨ j = 10 ∨ 44 ≤ j → m'.1 54 0 j = m.1 54 0 j) ∧ m'.1 69 0 = m.1 69 0 ∧ (∀ j, j ≠ 34 → m'.1 12 0 j = m.1 12 0 j) ∧ DRo m'
theorem DK_r {m : MM} (h : DRo m) : DK m m := ⟨fun _ _ => rfl, rfl, fun _ _ => rfl, h⟩
theorem DK_70 {m m' : MM} {f : Nat → Int32} (h : DK m m') : DK m (mRow m' 70 0 f) := h
theorem DK_row {m m' : MM} {f : Nat → Int32} (h : DK m m') (e : ∀ j, j ≤ 5 ∨ j = 10 ∨ 44 ≤ j → f j = m'.1 54 0 j) : DK m (mRow m' 54 0 f) := ⟨fun j hj => (e j hj).trans (h.1 j hj), h.2⟩
theorem DK_at {m m' : MM} {i : Nat} {x : Int32} (h : DK m m') (hi : (6 ≤ i ∧ i ≤ 9) ∨ (12 ≤ i ∧ i < 44)) : DK m (mI m' 54 0 i x) := DK_row h (fun j hj => upd_ne (by omega))
theorem drN_lt (d : Nat) : drN d < 65536 := by
  unfold drN
  exact Nat.mod_lt _ (by omega)
theorem DK_dr {m m' : MM} (h : DK m m') : DK m (gaD m') := by
  refine ⟨h.1, h.2.1, fun j hj => ?_, ?_⟩
  · show upd (m'.1 12 0) 34 _ j = _
    rw [upd_ne hj]
    exact h.2.2.1 j hj
  · refine ⟨drN (m'.1 12 0 34).toNatClampNeg, ?_, drN_lt _⟩
    show upd (m'.1 12 0) 34 (nI (drN (m'.1 12 0 34).toNatClampNeg)) 34 = _
    exact upd_eq
theorem owA_lt {a : Nat → Int32} {ns nm nt j : Nat} (hV : VA a ns nm nt) (hj : j < nt) : owA a j < 4 := by
  have := (owA_at hV hj).1
  have := hV.1.2
  omega
theorem DK_put {m m' : MM} {how j : Nat} (h : DK m m') (hh : how = 8 ∨ how = 9) (ho : owA (m'.1 54 0) j < 4) : DK m (putA m' how j) := DK_at (DK_at h (by omega)) (by omega)
theorem pb_ok {m m' : MM} {ns nm nt j : Nat} (hV : VMx m' ns nm nt) (h : DK m m') (hj : j < nt) : DK m (pbP m' j).2 := by
  unfold pbP; split
  · exact DK_70 (DK_put h (Or.inl rfl) (owA_lt hV hj))
  · exact h
theorem zwA_ne : ∀ (n : Nat) (f : Nat → Int32) (j : Nat), n ≤ 4 → (j ≤ 13 ∨ 44 ≤ j) → zwA f n j = f j
  | 0, _, _, _, _ => rfl
  | n + 1, f, j, hn, hj => by
    show upd (zwA f n) (14 + 4 * n) 0 j = _
    rw [upd_ne (by omega)]
    exact zwA_ne n f j (by omega) hj
theorem pMi_2 {p : Prop} [Decidable p] {a b m : MM} (ha : p → DK m a) (hb : DK m b) : DK m (pMi p a b).2 := by
  unfold pMi; split
  · rename_i hp; exact ha hp
  · exact hb
theorem ga_ok {m : MM} {s : Int32} {ns nm nt : Nat} (hV : VMx m ns nm nt) (h : DRo m) : DK m (pGa m s).2 := by
  unfold pGa; split
  · exact DK_r h
  · rename_i hW0
    have hnt : nt ≤ 12 := hV.2.2.1.2
    have hD := DK_dr (DK_r h)
    have hVD : VMx (gaD m) ns nm nt := hV
    have eW : gaW m s = stN (fun j => m.1 54 0 (44 + 3 * j) = s ∧ mgA (m.1 54 0) j) nt := by
      unfold gaW
      rw [hV.2.2.1.1, nI_clamp (by omega), myA_st _ _ _ (by omega)]
      exact nI_clamp (Nat.lt_trans (stN_lt _ nt) (Nat.pow_lt_pow_right (by omega) (by omega)))
    have hW2 : gaW m s < 4096 := by rw [eW]; exact Nat.lt_of_lt_of_le (stN_lt _ nt) (Nat.pow_le_pow_right (n := 2) (by omega) hnt)
    have hpc : 1 ≤ pcN (gaW m s) := Nat.pos_of_ne_zero (fun e => hW0 (pc_zero hW2 e))
    have hkl : gaK m s < pcN (gaW m s) := Nat.mod_lt _ (by omega)
    obtain ⟨q1, q2⟩ := itr_pc (gaK m s) (gaW m s) hW2 hkl
    have hw0 : ¬ itr clr (gaK m s) (gaW m s) = 0 := fun e => by rw [e] at q2; have : pcN 0 = 0 := rfl; omega
    obtain ⟨t, ht12, et, htb, htn⟩ := lb_ex q1 hw0
    rw [et, nI_clamp (by omega)]
    refine pb_ok hVD hD ?_
    have := itr_bit _ _ _ htb
    rw [eW] at this
    exact ((stN_bit _ nt t).mp this).1
theorem do_ok {m : MM} {ns nm nt L k : Nat} (hV : VMx m ns nm nt) (hY : YP (m.1 54 0) ns nm nt L) (h : DRo m) (hk : k < L) : DK m (doP m k).2 := by
  obtain ⟨hL, hL60, hY⟩ := hY
  obtain ⟨y1, y2, y3, -, -, -⟩ := hY k hk
  have hns : ns ≤ 4 := hV.1.2
  have hnm : nm ≤ 4 := hV.2.1.2
  have hnt : nt ≤ 12 := hV.2.2.1.2
  unfold doP doQ
  split
  · rename_i hc
    obtain ⟨t, ht, e⟩ := y1 (Or.inl hc)
    rw [e, nI_clamp (by omega)]
    exact pb_ok hV (DK_r h) ht
  split
  · rename_i hc
    obtain ⟨t, ht, e⟩ := y1 (Or.inr (Or.inl hc))
    rw [e, nI_clamp (by omega)]
    exact pMi_2 (fun _ => DK_put (DK_r h) (Or.inr rfl) (owA_lt hV ht)) (DK_r h)
  split
  · exact ga_ok hV h
  split
  · rename_i hc
    obtain ⟨t, ht, e⟩ := y1 (Or.inr (Or.inr hc))
    rw [e, nI_clamp (by omega)]
    have ho := owA_lt hV ht
    exact pMi_2 (fun _ => DK_row (DK_r h) (fun j hj => by unfold cbA; rw [upd_ne (by omega), upd_ne (by omega)])) (DK_r h)
  split
  · unfold wkP
    refine pMi_2 (fun _ => DK_70 (DK_row (DK_r h) (fun j hj => ?_))) (DK_r h)
    unfold wkA
    rw [zwA_ne _ _ _ (by rw [hV.1.1, nI_clamp (by omega)]; exact hns) (by omega), upd_ne (by omega)]
  split
  · rename_i hc
    obtain ⟨s, hs, e⟩ := y2 (Or.inr (Or.inl hc))
    obtain ⟨q, hq, e2⟩ := y3 (Or.inl hc)
    unfold wdP2
    rw [e, e2, nI_clamp (show s < 2 ^ 31 by omega), nI_clamp (show q < 2 ^ 31 by omega)]
    refine pMi_2 (fun _ => DK_70 (DK_row (DK_r h) (fun j hj => ?_))) (DK_r h)
    unfold wdA
    rw [upd_ne (by omega), upd_ne (by omega), upd_ne (by omega), upd_ne (by omega)]
  · exact DK_r h
/-- a STEP -/
def stI (m : MM) : MM := mI m 12 0 35 (m.1 12 0 35 + 1)
def stD (m : MM) (k : Nat) : MM := mRow (doP (stI m) k).2 70 0 (upd ((doP (stI m) k).2.1 70 0) 0 (m.1 70 0 0 + (if (doP (stI m) k).1 = true then 0 else 1)))
def stL (m : MM) (k : Nat) : MM := mite (m.1 54 0 (146 + 6 * k) = 24) (mRow (stD m k) 69 0 (upd ((stD m k).1 69 0) k (m.1 54 0 (147 + 6 * k) - 1))) (stD m k)
def stK (m : MM) (k : Nat) : Nat := if ¬ m.1 54 0 (146 + 6 * k) < 2300 ∧ ¬ hoP (m.1 54 0) k then (m.1 54 0 (150 + 6 * k)).toNatClampNeg + 1 else k + 1
def lvS (m : MM) (k : Nat) : Option Nat × MM := if m.1 12 0 35 = 300 then (none, mRow m 70 0 (upd (m.1 70 0) 4 1)) else if m.1 54 0 (146 + 6 * k) = 26 then (none, stI m) else (some (stK (stL m k) k), stL m k)
def lvT (m : MM) (k : Nat) : Option Nat × MM := if m.1 54 0 (146 + 6 * k) = 25 then (some (enK m k), enM m k) else lvS m k
def lvR : Nat → MM → Nat → Nat → MM
  | 0, m, _, _ => m
  | f + 1, m, L, k => if k < L then (match lvT m k with
    | (some k', m') => lvR f m' L k'
    | (none, m') => m') else m
def lvI2 (m : MM) (seed : Int32) : MM := mRow (mI (mI m 12 0 34 seed) 12 0 35 0) 70 0 (zrR (m.1 70 0) 0 5)
def liM (m : MM) (seed : Int32) : MM := lvR 100000 (lvI2 m seed) (m.1 54 0 10).toNatClampNeg 0
/-- while one lives -/
def LV (m : MM) (ns nm nt L : Nat) : Prop := VMx m ns nm nt ∧ YP (m.1 54 0) ns nm nt L ∧ LPo m ∧ DRo m ∧ ∃ st, st ≤ 300 ∧ m.1 12 0 35 = nI st
def PP (m : MM) (L k : Nat) : Nat := 160 * (300 - (m.1 12 0 35).toNatClampNeg) + pE m L k
theorem YP_keep {a b : Nat → Int32} {ns nm nt L : Nat} (h : YP a ns nm nt L) (e : ∀ j, j = 10 ∨ 146 ≤ j → b j = a j) : YP b ns nm nt L := by
  refine ⟨(e 10 (by omega)).trans h.1, h.2.1, fun k hk => ?_⟩
  have := h.2.2 k hk
  unfold YL at this ⊢
  rw [e (146 + 6 * k) (by omega), e (147 + 6 * k) (by omega), e (148 + 6 * k) (by omega), e (150 + 6 * k) (by omega)]
  refine ⟨this.1, this.2.1, this.2.2.1, this.2.2.2.1, fun h25 => ?_, this.2.2.2.2.2⟩
  obtain ⟨o, h1, h2, h3⟩ := this.2.2.2.2.1 h25
  exact ⟨o, h1, h2, fun z => h3 (by rw [← e _ (by omega)]; exact z)⟩
theorem LV_en {m : MM} {ns nm nt L k : Nat} (h : LV m ns nm nt L) (hc : clP m L k) : LV (enM m k) ns nm nt L := by
  obtain ⟨h1, h2, h3, h4, h5⟩ := h
  have g := en_ok h2 h3 hc
  have e12 : (enM m k).1 12 0 = m.1 12 0 := by unfold enM mite; split <;> rfl
  refine ⟨by unfold VMx; rw [enM_54]; exact h1, by rw [enM_54]; exact h2, g.2.1, ?_, ?_⟩
  · unfold DRo; rw [e12]; exact h4
  · rw [e12]; exact h5
theorem PP_en {m : MM} {ns nm nt L k : Nat} (h : LV m ns nm nt L) (hc : clP m L k) : PP (enM m k) L (enK m k) + 1 ≤ PP m L k := by
  have g := (en_ok h.2.1 h.2.2.1 hc).1
  have e12 : (enM m k).1 12 0 = m.1 12 0 := by unfold enM mite; split <;> rfl
  unfold PP
  rw [e12]
  omega
/-- what a STEP leaves -/
theorem st_ok {m : MM} {ns nm nt L k : Nat} (h : LV m ns nm nt L) (hk : k < L) (h300 : ¬ m.1 12 0 35 = 300) : LV (stL m k) ns nm nt L ∧ stK (stL m k) k ≤ L ∧ PP (stL m k) L (stK (stL m k) k) + 1 ≤ PP m L k ∧ ∀ j, 44 ≤ j → (stL m k).1 54 0 j = m.1 54 0 j := by
  obtain ⟨h1, h2, h3, h4, st, hst, est⟩ := h
  have hVI : VMx (stI m) ns nm nt := h1
  have hYI : YP ((stI m).1 54 0) ns nm nt L := h2
  have hDI : DRo (stI m) := h4
  obtain ⟨d1, d2, d3, d4⟩ := do_ok hVI hYI hDI hk
  have hst2 : st < 300 := by
    rcases Nat.eq_or_lt_of_le hst with e | e
    · exact absurd (by rw [est, e]; rfl) h300
    · exact e
  have hL60 := h2.2.1
  have a54 : ∀ j, j ≤ 5 ∨ j = 10 ∨ 44 ≤ j → (stL m k).1 54 0 j = m.1 54 0 j := by
    unfold stL mite
    split
    · exact d1
    · exact d1
  have a12 : ∀ j, j ≠ 34 → (stL m k).1 12 0 j = (stI m).1 12 0 j := by
    unfold stL mite
    split
    · exact d3
    · exact d3
  have aDR : DRo (stL m k) := by
    unfold stL mite
    split
    · exact d4
    · exact d4
  have es : (stL m k).1 12 0 35 = nI (st + 1) := by
    rw [a12 35 (by decide)]
    show m.1 12 0 35 + 1 = _
    rw [est, nI_1]
  have hYL : YP ((stL m k).1 54 0) ns nm nt L := YP_keep h2 (fun j hj => a54 j (by omega))
  have a69 : LPo (stL m k) ∧ smL ((stL m k).1 69 0) 60 ≤ smL (m.1 69 0) 60 + 98 := by
    by_cases hc : m.1 54 0 (146 + 6 * k) = 24
    · obtain ⟨-, -, -, y4, -, -⟩ := h2.2.2 k hk
      obtain ⟨q, hq1, hq99, eq⟩ := y4 hc
      have e69 : (stL m k).1 69 0 = upd (m.1 69 0) k (nI (q - 1)) := by
        unfold stL
        rw [mite_t hc]
        show upd ((doP (stI m) k).2.1 69 0) k (m.1 54 0 (147 + 6 * k) - 1) = _
        rw [d2, eq, show (1 : Int32) = nI 1 from rfl, nI_sb hq1]
        rfl
      refine ⟨fun o ho => ?_, ?_⟩
      · rw [e69]
        by_cases hok : o = k
        · exact ⟨q - 1, by omega, by rw [hok, upd_eq]⟩
        · rw [upd_ne hok]; exact h3 o ho
      · have := smL_upd (f := m.1 69 0) (x := nI (q - 1)) 60 (show k < 60 by omega)
        rw [nI_clamp (show q - 1 < 2 ^ 31 by omega)] at this
        rw [e69]
        omega
    · have e69 : (stL m k).1 69 0 = m.1 69 0 := by
        unfold stL
        rw [mite_f hc]
        exact d2
      refine ⟨fun o ho => ?_, ?_⟩
      · rw [e69]; exact h3 o ho
      · rw [e69]; omega
  refine ⟨⟨VA_keep h1 (fun j hj => a54 j (by omega)), hYL, a69.1, aDR, st + 1, by omega, es⟩, ?_, ?_, fun j hj => a54 j (by omega)⟩
  · unfold stK
    split
    · rename_i hc
      obtain ⟨-, -, -, -, -, y6⟩ := hYL.2.2 k hk
      obtain ⟨e, he, ee⟩ := y6 hc.1
      rw [ee, nI_clamp (by omega)]
      omega
    · omega
  · have hf := fw_le ((stL m k).1 54 0) L (stK (stL m k) k)
    unfold PP pE
    rw [es, est, nI_clamp (by omega), nI_clamp (by omega)]
    have := a69.2
    omega
theorem lv_be {ns nm nt L : Nat} : ∀ g f m k, LV m ns nm nt L → k ≤ L → pE m L k < g → PP m L k < f → ∃ f', f' ≤ f ∧ lvR f m L k = lvR f' (beK g m L k).2 L (beK g m L k).1 ∧ PP (beK g m L k).2 L (beK g m L k).1 < f' ∧ ¬ clP (beK g m L k).2 L (beK g m L k).1 ∧ LV (beK g m L k).2 ns nm nt L ∧ (beK g m L k).1 ≤ L
  | 0, _, _, _, _, _, h, _ => absurd h (by omega)
  | g + 1, f, m, k, h, hk, hg, hf => by
    by_cases hc : clP m L k
    · have eb : beK (g + 1) m L k = beK g (enM m k) L (enK m k) := if_pos hc
      obtain ⟨g1, g2, g3, g4⟩ := en_ok h.2.1 h.2.2.1 hc
      have gP := PP_en h hc
      obtain ⟨f0, rfl⟩ : ∃ f0, f = f0 + 1 := ⟨f - 1, by omega⟩
      obtain ⟨f', q1, q2, q3⟩ := lv_be g f0 (enM m k) (enK m k) (LV_en h hc) g3 (by omega) (by omega)
      rw [eb]
      refine ⟨f', by omega, ?_, q3⟩
      rw [← q2, lvR, if_pos hc.1]
      unfold lvT
      rw [if_pos hc.2]
    · have eb : beK (g + 1) m L k = (k, m) := if_neg hc
      rw [eb]
      exact ⟨f, Nat.le_refl _, rfl, hf, hc, h, hk⟩

--tpl rfl ||  || liM {m} {1}
def Pre_X12_lives : PreT := fun m as => ∃ ns nm nt L d, VMx m ns nm nt ∧ YP (m.1 54 0) ns nm nt L ∧ LPo m ∧ d < 65536 ∧ as = [vR 12 0, vI (nI d)]
def Fn_X12_lives : FnT := fun m as => match as with
  | [_, Sum.inl x] => (none, liM m x)
  | _ => (none, m)
abbrev y_X12_lives : MethodName := ⟨"GivenUpModel", "lives", "(I)V"⟩
def P_X12_lives : List StpT := [s_aload 0, s_iload 1, s_putI 12 34, s_aload 0, s_ic (0), s_putI 12 35, s_ic (0), s_istore 2, s_iload 2, s_ic (5), s_icge 18, s_aload 0, s_getR 12 37 70, s_iload 2, s_ic (0), s_iast, s_iinc 2 (1), s_goto 8, s_ic (0), s_istore 2, s_iload 2, s_aload 0, s_getR 12 0 54, s_ic (10), s_iald, s_icge 113, s_aload 0, s_getI 12 35, s_ic (300), s_icne 36, s_aload 0, s_getR 12 37 70, s_ic (4), s_ic (1), s_iast, s_vret, s_ic (146), s_ic (6), s_iload 2, s_imul, s_iadd, s_istore 3, s_aload 0, s_dup, s_getI 12 35, s_ic (1), s_iadd, s_putI 12 35, s_aload 0, s_getR 12 0 54, s_iload 3, s_iald, s_ic (26), s_icne 55, s_vret, s_aload 0, s_getR 12 37 70, s_ic (0), s_dup2, s_iald, s_aload 0, s_iload 3, s_callV 12 1 Pre_X12_does Fn_X12_does, s_ifeq 66, s_ic (0), s_goto 67, s_ic (1), s_iadd, s_iast, s_aload 0, s_getR 12 0 54, s_iload 3, s_iald, s_ic (24), s_icne 87, s_aload 0, s_getR 12 36 69, s_iload 2, s_aload 0, s_getR 12 0 54, s_iload 3, s_ic (1), s_iadd, s_iald, s_ic (1), s_isub, s_iast, s_aload 0, s_aload 0, s_getR 12 0 54, s_iload 3, s_iald, s_ic (2300), s_iclt 107, s_aload 0, s_iload 3, s_callV 12 1 Pre_X12_holds Fn_X12_holds, s_ifne 107, s_aload 0, s_getR 12 0 54, s_iload 3, s_ic (4), s_iadd, s_iald, s_ic (1), s_iadd, s_goto 110, s_iload 2, s_ic (1), s_iadd, s_callV 12 1 Pre_X12_behindEnds Fn_X12_behindEnds, s_istore 2, s_goto 20, s_vret]
def pc_X12_lives : Nat → Nat := fun i => [0, 1, 2, 5, 6, 7, 10, 11, 12, 13, 14, 17, 18, 21, 22, 23, 24, 27, 30, 31, 32, 33, 34, 37, 39, 40, 43, 44, 47, 50, 53, 54, 57, 58, 59, 60, 61, 64, 66, 67, 68, 69, 70, 71, 72, 75, 76, 77, 80, 81, 84, 85, 86, 88, 91, 92, 93, 96, 97, 98, 99, 100, 101, 104, 107, 108, 111, 112, 113, 114, 115, 118, 119, 120, 122, 125, 126, 129, 130, 131, 134, 135, 136, 137, 138, 139, 140, 141, 142, 143, 146, 147, 148, 151, 154, 155, 156, 159, 162, 163, 166, 167, 168, 169, 170, 171, 172, 175, 176, 177, 178, 181, 182, 185].getD i 0
def dl_X12_lives : List (Nat × Instr × Nat) := [(0, .aload_n 0, 1), (1, .iload_n 1, 1), (2, .putfield 454, 3), (5, .aload_n 0, 1), (6, .iconst 0, 1), (7, .putfield 467, 3), (10, .iconst 0, 1), (11, .istore_n 2, 1), (12, .iload_n 2, 1), (13, .iconst 5, 1), (14, .if_icmp .ge 16, 3), (17, .aload_n 0, 1), (18, .getfield 71, 3), (21, .iload_n 2, 1), (22, .iconst 0, 1), (23, .iastore, 1), (24, .iinc 2 1, 3), (27, .goto (-15), 3), (30, .iconst 0, 1), (31, .istore_n 2, 1), (32, .iload_n 2, 1), (33, .aload_n 0, 1), (34, .getfield 7, 3), (37, .bipush 10, 2), (39, .iaload, 1), (40, .if_icmp .ge 145, 3), (43, .aload_n 0, 1), (44, .getfield 467, 3), (47, .sipush 300, 3), (50, .if_icmp .ne 11, 3), (53, .aload_n 0, 1), (54, .getfield 71, 3), (57, .iconst 4, 1), (58, .iconst 1, 1), (59, .iastore, 1), (60, .return_, 1), (61, .sipush 146, 3), (64, .bipush 6, 2), (66, .iload_n 2, 1), (67, .imul, 1), (68, .iadd, 1), (69, .istore_n 3, 1), (70, .aload_n 0, 1), (71, .dup, 1), (72, .getfield 467, 3), (75, .iconst 1, 1), (76, .iadd, 1), (77, .putfield 467, 3), (80, .aload_n 0, 1), (81, .getfield 7, 3), (84, .iload_n 3, 1), (85, .iaload, 1), (86, .bipush 26, 2), (88, .if_icmp .ne 4, 3), (91, .return_, 1), (92, .aload_n 0, 1), (93, .getfield 71, 3), (96, .iconst 0, 1), (97, .dup2, 1), (98, .iaload, 1), (99, .aload_n 0, 1), (100, .iload_n 3, 1), (101, .invokevirtual 470, 3), (104, .ifCond .eq 7, 3), (107, .iconst 0, 1), (108, .goto 4, 3), (111, .iconst 1, 1), (112, .iadd, 1), (113, .iastore, 1), (114, .aload_n 0, 1), (115, .getfield 7, 3), (118, .iload_n 3, 1), (119, .iaload, 1), (120, .bipush 24, 2), (122, .if_icmp .ne 19, 3), (125, .aload_n 0, 1), (126, .getfield 68, 3), (129, .iload_n 2, 1), (130, .aload_n 0, 1), (131, .getfield 7, 3), (134, .iload_n 3, 1), (135, .iconst 1, 1), (136, .iadd, 1), (137, .iaload, 1), (138, .iconst 1, 1), (139, .isub, 1), (140, .iastore, 1), (141, .aload_n 0, 1), (142, .aload_n 0, 1), (143, .getfield 7, 3), (146, .iload_n 3, 1), (147, .iaload, 1), (148, .sipush 2300, 3), (151, .if_icmp .lt 24, 3), (154, .aload_n 0, 1), (155, .iload_n 3, 1), (156, .invokevirtual 473, 3), (159, .ifCond .ne 16, 3), (162, .aload_n 0, 1), (163, .getfield 7, 3), (166, .iload_n 3, 1), (167, .iconst 4, 1), (168, .iadd, 1), (169, .iaload, 1), (170, .iconst 1, 1), (171, .iadd, 1), (172, .goto 6, 3), (175, .iload_n 2, 1), (176, .iconst 1, 1), (177, .iadd, 1), (178, .invokevirtual 476, 3), (181, .istore_n 2, 1), (182, .goto (-150), 3), (185, .return_, 1)]
theorem dc_X12_lives : DEC prog_14_method_159_code pc_X12_lives dl_X12_lives := DEC_of (by decide +kernel)
abbrev rm_X12_lives : Room := { frames := 7, cells := 0, slots := 0, locals := 153 }
set_option maxRecDepth 20000 in
theorem sa_X12_lives (l : Launch) : SNDALL l prog_14_method_159_code "GivenUpModel" 4 none rm_X12_lives P_X12_lives pc_X12_lives := fun p e s m args below meth c cells slots Q D dA ad A RR hC hR => by
  have hM := RTX_room (R := rm_X12_lives) hR
  exact ⟨st_aload_n hC (n := 0) (k := 0) (dc_X12_lives 0 (0, .aload_n 0, 1) rfl rfl) rfl rfl,
    st_iload_n hC (n := 1) (k := 1) (dc_X12_lives 1 (1, .iload_n 1, 1) rfl rfl) rfl rfl,
    st_putI hC (n := 2) (k := 12) (j := 34) (dc_X12_lives 2 (2, .putfield 454, 3) rfl rfl) rfl clf_12 (by decide) rfl rfl rfl wd_1586,
    st_aload_n hC (n := 3) (k := 0) (dc_X12_lives 3 (5, .aload_n 0, 1) rfl rfl) rfl rfl,
    st_iconst hC (n := 4) (x := 0) (dc_X12_lives 4 (6, .iconst 0, 1) rfl rfl) rfl (by decide),
    st_putI hC (n := 5) (k := 12) (j := 35) (dc_X12_lives 5 (7, .putfield 467, 3) rfl rfl) rfl clf_12 (by decide) rfl rfl rfl wd_1587,
    st_iconst hC (n := 6) (x := 0) (dc_X12_lives 6 (10, .iconst 0, 1) rfl rfl) rfl (by decide),
    st_istore_n hC (n := 7) (k := 2) (dc_X12_lives 7 (11, .istore_n 2, 1) rfl rfl) rfl rfl (by decide),
    st_iload_n hC (n := 8) (k := 2) (dc_X12_lives 8 (12, .iload_n 2, 1) rfl rfl) rfl rfl,
    st_iconst hC (n := 9) (x := 5) (dc_X12_lives 9 (13, .iconst 5, 1) rfl rfl) rfl (by decide),
    st_icge hC (n := 10) (dc_X12_lives 10 (14, .if_icmp .ge 16, 3) rfl rfl) rfl (by decide),
    st_aload_n hC (n := 11) (k := 0) (dc_X12_lives 11 (17, .aload_n 0, 1) rfl rfl) rfl rfl,
    st_getR hC (n := 12) (k := 12) (j := 37) (dc_X12_lives 12 (18, .getfield 71, 3) rfl rfl) rfl clf_12 (by decide) rfl (by decide) wd_1589,
    st_iload_n hC (n := 13) (k := 2) (dc_X12_lives 13 (21, .iload_n 2, 1) rfl rfl) rfl rfl,
    st_iconst hC (n := 14) (x := 0) (dc_X12_lives 14 (22, .iconst 0, 1) rfl rfl) rfl (by decide),
    st_iast hC (n := 15) (dc_X12_lives 15 (23, .iastore, 1) rfl rfl) rfl,
    st_iinc hC (n := 16) (x := 1) (dc_X12_lives 16 (24, .iinc 2 1, 3) rfl rfl) rfl (by decide) (by decide),
    st_goto hC (n := 17) (dc_X12_lives 17 (27, .goto (-15), 3) rfl rfl) (by decide),
    st_iconst hC (n := 18) (x := 0) (dc_X12_lives 18 (30, .iconst 0, 1) rfl rfl) rfl (by decide),
    st_istore_n hC (n := 19) (k := 2) (dc_X12_lives 19 (31, .istore_n 2, 1) rfl rfl) rfl rfl (by decide),
    st_iload_n hC (n := 20) (k := 2) (dc_X12_lives 20 (32, .iload_n 2, 1) rfl rfl) rfl rfl,
    st_aload_n hC (n := 21) (k := 0) (dc_X12_lives 21 (33, .aload_n 0, 1) rfl rfl) rfl rfl,
    st_getR hC (n := 22) (k := 12) (j := 0) (dc_X12_lives 22 (34, .getfield 7, 3) rfl rfl) rfl clf_12 (by decide) rfl (by decide) wd_1552,
    st_bipush hC (n := 23) (x := 10) (dc_X12_lives 23 (37, .bipush 10, 2) rfl rfl) rfl (by decide),
    st_iald hC (n := 24) (dc_X12_lives 24 (39, .iaload, 1) rfl rfl) rfl,
    st_icge hC (n := 25) (dc_X12_lives 25 (40, .if_icmp .ge 145, 3) rfl rfl) rfl (by decide),
    st_aload_n hC (n := 26) (k := 0) (dc_X12_lives 26 (43, .aload_n 0, 1) rfl rfl) rfl rfl,
    st_getI hC (n := 27) (k := 12) (j := 35) (dc_X12_lives 27 (44, .getfield 467, 3) rfl rfl) rfl clf_12 (by decide) rfl wd_1587,
    st_sipush hC (n := 28) (x := 300) (dc_X12_lives 28 (47, .sipush 300, 3) rfl rfl) rfl (by decide),
    st_icne hC (n := 29) (dc_X12_lives 29 (50, .if_icmp .ne 11, 3) rfl rfl) rfl (by decide),
    st_aload_n hC (n := 30) (k := 0) (dc_X12_lives 30 (53, .aload_n 0, 1) rfl rfl) rfl rfl,
    st_getR hC (n := 31) (k := 12) (j := 37) (dc_X12_lives 31 (54, .getfield 71, 3) rfl rfl) rfl clf_12 (by decide) rfl (by decide) wd_1589,
    st_iconst hC (n := 32) (x := 4) (dc_X12_lives 32 (57, .iconst 4, 1) rfl rfl) rfl (by decide),
    st_iconst hC (n := 33) (x := 1) (dc_X12_lives 33 (58, .iconst 1, 1) rfl rfl) rfl (by decide),
    st_iast hC (n := 34) (dc_X12_lives 34 (59, .iastore, 1) rfl rfl) rfl,
    st_vret hC (n := 35) hR (dc_X12_lives 35 (60, .return_, 1) rfl rfl),
    st_sipush hC (n := 36) (x := 146) (dc_X12_lives 36 (61, .sipush 146, 3) rfl rfl) rfl (by decide),
    st_bipush hC (n := 37) (x := 6) (dc_X12_lives 37 (64, .bipush 6, 2) rfl rfl) rfl (by decide),
    st_iload_n hC (n := 38) (k := 2) (dc_X12_lives 38 (66, .iload_n 2, 1) rfl rfl) rfl rfl,
    st_imul hC (n := 39) (dc_X12_lives 39 (67, .imul, 1) rfl rfl) rfl,
    st_iadd hC (n := 40) (dc_X12_lives 40 (68, .iadd, 1) rfl rfl) rfl,
    st_istore_n hC (n := 41) (k := 3) (dc_X12_lives 41 (69, .istore_n 3, 1) rfl rfl) rfl rfl (by decide),
    st_aload_n hC (n := 42) (k := 0) (dc_X12_lives 42 (70, .aload_n 0, 1) rfl rfl) rfl rfl,
    st_dup hC (n := 43) (dc_X12_lives 43 (71, .dup, 1) rfl rfl) rfl,
    st_getI hC (n := 44) (k := 12) (j := 35) (dc_X12_lives 44 (72, .getfield 467, 3) rfl rfl) rfl clf_12 (by decide) rfl wd_1587,
    st_iconst hC (n := 45) (x := 1) (dc_X12_lives 45 (75, .iconst 1, 1) rfl rfl) rfl (by decide),
    st_iadd hC (n := 46) (dc_X12_lives 46 (76, .iadd, 1) rfl rfl) rfl,
    st_putI hC (n := 47) (k := 12) (j := 35) (dc_X12_lives 47 (77, .putfield 467, 3) rfl rfl) rfl clf_12 (by decide) rfl rfl rfl wd_1587,
    st_aload_n hC (n := 48) (k := 0) (dc_X12_lives 48 (80, .aload_n 0, 1) rfl rfl) rfl rfl,
    st_getR hC (n := 49) (k := 12) (j := 0) (dc_X12_lives 49 (81, .getfield 7, 3) rfl rfl) rfl clf_12 (by decide) rfl (by decide) wd_1552,
    st_iload_n hC (n := 50) (k := 3) (dc_X12_lives 50 (84, .iload_n 3, 1) rfl rfl) rfl rfl,
    st_iald hC (n := 51) (dc_X12_lives 51 (85, .iaload, 1) rfl rfl) rfl,
    st_bipush hC (n := 52) (x := 26) (dc_X12_lives 52 (86, .bipush 26, 2) rfl rfl) rfl (by decide),
    st_icne hC (n := 53) (dc_X12_lives 53 (88, .if_icmp .ne 4, 3) rfl rfl) rfl (by decide),
    st_vret hC (n := 54) hR (dc_X12_lives 54 (91, .return_, 1) rfl rfl),
    st_aload_n hC (n := 55) (k := 0) (dc_X12_lives 55 (92, .aload_n 0, 1) rfl rfl) rfl rfl,
    st_getR hC (n := 56) (k := 12) (j := 37) (dc_X12_lives 56 (93, .getfield 71, 3) rfl rfl) rfl clf_12 (by decide) rfl (by decide) wd_1589,
    st_iconst hC (n := 57) (x := 0) (dc_X12_lives 57 (96, .iconst 0, 1) rfl rfl) rfl (by decide),
    st_dup2 hC (n := 58) (dc_X12_lives 58 (97, .dup2, 1) rfl rfl) rfl,
    st_iald hC (n := 59) (dc_X12_lives 59 (98, .iaload, 1) rfl rfl) rfl,
    st_aload_n hC (n := 60) (k := 0) (dc_X12_lives 60 (99, .aload_n 0, 1) rfl rfl) rfl rfl,
    st_iload_n hC (n := 61) (k := 3) (dc_X12_lives 61 (100, .iload_n 3, 1) rfl rfl) rfl rfl,
    st_callV hC (n := 62) (k := 12) (na := 1) (con_X12_does l) (dc_X12_lives 62 (101, .invokevirtual 470, 3) rfl rfl) rfl wd_2288 wd_160 (by decide) ⟨rfl, rfl, by decide, by decide⟩ hM wd_2285 wd_2287 wd_135 clf_12,
    st_ifeq hC (n := 63) (dc_X12_lives 63 (104, .ifCond .eq 7, 3) rfl rfl) rfl (by decide),
    st_iconst hC (n := 64) (x := 0) (dc_X12_lives 64 (107, .iconst 0, 1) rfl rfl) rfl (by decide),
    st_goto hC (n := 65) (dc_X12_lives 65 (108, .goto 4, 3) rfl rfl) (by decide),
    st_iconst hC (n := 66) (x := 1) (dc_X12_lives 66 (111, .iconst 1, 1) rfl rfl) rfl (by decide),
    st_iadd hC (n := 67) (dc_X12_lives 67 (112, .iadd, 1) rfl rfl) rfl,
    st_iast hC (n := 68) (dc_X12_lives 68 (113, .iastore, 1) rfl rfl) rfl,
    st_aload_n hC (n := 69) (k := 0) (dc_X12_lives 69 (114, .aload_n 0, 1) rfl rfl) rfl rfl,
    st_getR hC (n := 70) (k := 12) (j := 0) (dc_X12_lives 70 (115, .getfield 7, 3) rfl rfl) rfl clf_12 (by decide) rfl (by decide) wd_1552,
    st_iload_n hC (n := 71) (k := 3) (dc_X12_lives 71 (118, .iload_n 3, 1) rfl rfl) rfl rfl,
    st_iald hC (n := 72) (dc_X12_lives 72 (119, .iaload, 1) rfl rfl) rfl,
    st_bipush hC (n := 73) (x := 24) (dc_X12_lives 73 (120, .bipush 24, 2) rfl rfl) rfl (by decide),
    st_icne hC (n := 74) (dc_X12_lives 74 (122, .if_icmp .ne 19, 3) rfl rfl) rfl (by decide),
    st_aload_n hC (n := 75) (k := 0) (dc_X12_lives 75 (125, .aload_n 0, 1) rfl rfl) rfl rfl,
    st_getR hC (n := 76) (k := 12) (j := 36) (dc_X12_lives 76 (126, .getfield 68, 3) rfl rfl) rfl clf_12 (by decide) rfl (by decide) wd_1588,
    st_iload_n hC (n := 77) (k := 2) (dc_X12_lives 77 (129, .iload_n 2, 1) rfl rfl) rfl rfl,
    st_aload_n hC (n := 78) (k := 0) (dc_X12_lives 78 (130, .aload_n 0, 1) rfl rfl) rfl rfl,
    st_getR hC (n := 79) (k := 12) (j := 0) (dc_X12_lives 79 (131, .getfield 7, 3) rfl rfl) rfl clf_12 (by decide) rfl (by decide) wd_1552,
    st_iload_n hC (n := 80) (k := 3) (dc_X12_lives 80 (134, .iload_n 3, 1) rfl rfl) rfl rfl,
    st_iconst hC (n := 81) (x := 1) (dc_X12_lives 81 (135, .iconst 1, 1) rfl rfl) rfl (by decide),
    st_iadd hC (n := 82) (dc_X12_lives 82 (136, .iadd, 1) rfl rfl) rfl,
    st_iald hC (n := 83) (dc_X12_lives 83 (137, .iaload, 1) rfl rfl) rfl,
    st_iconst hC (n := 84) (x := 1) (dc_X12_lives 84 (138, .iconst 1, 1) rfl rfl) rfl (by decide),
    st_isub hC (n := 85) (dc_X12_lives 85 (139, .isub, 1) rfl rfl) rfl,
    st_iast hC (n := 86) (dc_X12_lives 86 (140, .iastore, 1) rfl rfl) rfl,
    st_aload_n hC (n := 87) (k := 0) (dc_X12_lives 87 (141, .aload_n 0, 1) rfl rfl) rfl rfl,
    st_aload_n hC (n := 88) (k := 0) (dc_X12_lives 88 (142, .aload_n 0, 1) rfl rfl) rfl rfl,
    st_getR hC (n := 89) (k := 12) (j := 0) (dc_X12_lives 89 (143, .getfield 7, 3) rfl rfl) rfl clf_12 (by decide) rfl (by decide) wd_1552,
    st_iload_n hC (n := 90) (k := 3) (dc_X12_lives 90 (146, .iload_n 3, 1) rfl rfl) rfl rfl,
    st_iald hC (n := 91) (dc_X12_lives 91 (147, .iaload, 1) rfl rfl) rfl,
    st_sipush hC (n := 92) (x := 2300) (dc_X12_lives 92 (148, .sipush 2300, 3) rfl rfl) rfl (by decide),
    st_iclt hC (n := 93) (dc_X12_lives 93 (151, .if_icmp .lt 24, 3) rfl rfl) rfl (by decide),
    st_aload_n hC (n := 94) (k := 0) (dc_X12_lives 94 (154, .aload_n 0, 1) rfl rfl) rfl rfl,
    st_iload_n hC (n := 95) (k := 3) (dc_X12_lives 95 (155, .iload_n 3, 1) rfl rfl) rfl rfl,
    st_callV hC (n := 96) (k := 12) (na := 1) (con_X12_holds l) (dc_X12_lives 96 (156, .invokevirtual 473, 3) rfl rfl) rfl wd_2305 wd_160 (by decide) ⟨rfl, rfl, by decide, by decide⟩ hM wd_2302 wd_2304 wd_139 clf_12,
    st_ifne hC (n := 97) (dc_X12_lives 97 (159, .ifCond .ne 16, 3) rfl rfl) rfl (by decide),
    st_aload_n hC (n := 98) (k := 0) (dc_X12_lives 98 (162, .aload_n 0, 1) rfl rfl) rfl rfl,
    st_getR hC (n := 99) (k := 12) (j := 0) (dc_X12_lives 99 (163, .getfield 7, 3) rfl rfl) rfl clf_12 (by decide) rfl (by decide) wd_1552,
    st_iload_n hC (n := 100) (k := 3) (dc_X12_lives 100 (166, .iload_n 3, 1) rfl rfl) rfl rfl,
    st_iconst hC (n := 101) (x := 4) (dc_X12_lives 101 (167, .iconst 4, 1) rfl rfl) rfl (by decide),
    st_iadd hC (n := 102) (dc_X12_lives 102 (168, .iadd, 1) rfl rfl) rfl,
    st_iald hC (n := 103) (dc_X12_lives 103 (169, .iaload, 1) rfl rfl) rfl,
    st_iconst hC (n := 104) (x := 1) (dc_X12_lives 104 (170, .iconst 1, 1) rfl rfl) rfl (by decide),
    st_iadd hC (n := 105) (dc_X12_lives 105 (171, .iadd, 1) rfl rfl) rfl,
    st_goto hC (n := 106) (dc_X12_lives 106 (172, .goto 6, 3) rfl rfl) (by decide),
    st_iload_n hC (n := 107) (k := 2) (dc_X12_lives 107 (175, .iload_n 2, 1) rfl rfl) rfl rfl,
    st_iconst hC (n := 108) (x := 1) (dc_X12_lives 108 (176, .iconst 1, 1) rfl rfl) rfl (by decide),
    st_iadd hC (n := 109) (dc_X12_lives 109 (177, .iadd, 1) rfl rfl) rfl,
    st_callV hC (n := 110) (k := 12) (na := 1) (con_X12_behindEnds l) (dc_X12_lives 110 (178, .invokevirtual 476, 3) rfl rfl) rfl wd_2309 wd_160 (by decide) ⟨rfl, rfl, by decide, by decide⟩ hM wd_2306 wd_2308 wd_140 clf_12,
    st_istore_n hC (n := 111) (k := 2) (dc_X12_lives 111 (181, .istore_n 2, 1) rfl rfl) rfl rfl (by decide),
    st_goto hC (n := 112) (dc_X12_lives 112 (182, .goto (-150), 3) rfl rfl) (by decide),
    st_vret hC (n := 113) hR (dc_X12_lives 113 (185, .return_, 1) rfl rfl), trivial⟩
set_option maxRecDepth 8000 in
theorem vc_X12_lives : VC P_X12_lives 4 Pre_X12_lives Fn_X12_lives := by
  rintro mm as hom hoa ⟨ns, nm, nt, L, d, hV, hY, hl, hd, rfl⟩
  refine ⟨Nat.le_of_ble_eq_true rfl, fun X h => ?_⟩
  have hL60 := hY.2.1
  have hF : Fn_X12_lives mm [vR 12 0, vI (nI d)] = (none, lvR 100000 (lvI2 mm (nI d)) L 0) := by
    show (none, liM mm (nI d)) = _
    unfold liM
    rw [hY.1, nI_clamp (by omega)]
  rw [hF] at h
  have main : ∀ f m k L3, LV m ns nm nt L → k ≤ L → ¬ clP m L k → PP m L k < f → RUN P_X12_lives (fun r m' => (r, m') = (none, lvR f m L k)) X → X 20 [some (vR 12 0), some (vI (nI d)), some (vI (nI k)), L3] [] (m) := by
    intro f
    induction f using Nat.strongRecOn with
    | _ f ih =>
    intro M k L3 hM hk hc hf h
    obtain ⟨f0, rfl⟩ : ∃ f0, f = f0 + 1 := ⟨f - 1, by omega⟩
    have hL : M.1 54 0 10 = nI L := hM.2.1.1
    have e1 : lvR (f0 + 1) M L k = if k < L then (match lvT M k with
      | (some k', m') => lvR f0 m' L k'
      | (none, m') => m') else M := rfl
    by_cases hkL : k < L
    · have h25 : ¬ M.1 54 0 (146 + 6 * k) = 25 := fun z => hc ⟨hkL, z⟩
      rw [if_pos hkL] at e1
      unfold lvT at e1
      rw [if_neg h25] at e1
      unfold lvS at e1
      by_cases h300 : M.1 12 0 35 = 300
      · rw [if_pos h300] at e1
        rw [e1] at h
        show X 20 [some (vR 12 0), some (vI (nI d)), some (vI (nI k)), L3] [] M
        refine h (fun _ => false) 3000 20 _ _ _ ?_
        refine And.intro (show inb 10 (alen 54) = true from rfl) ?_
        refine br_f (show ¬ (M.1 54 0 10 ≤ nI k) from by rw [hL, nI_leI (by omega) (by omega)]; omega) ?_
        refine brn_f (show M.1 12 0 35 = 300 from h300) ?_
        refine And.intro (show inb 4 (alen 70) = true from rfl) ?_
        show ((none : Option MV), mRow M 70 0 (upd (M.1 70 0) 4 1)) = _
        exact rfl
      · rw [if_neg h300] at e1
        have x0 : (146 + 6 * nI k).toNatClampNeg = 146 + 6 * k := by simp (disch := omega) only [li, pk_mul, nI_add, nI_clamp]
        suffices z : X 48 [some (vR 12 0), some (vI (nI d)), some (vI (nI k)), some (vI (nI (146 + 6 * k)))] [] (stI M) by
          have xx : 146 + 6 * nI k = nI (146 + 6 * k) := by simp (disch := omega) only [li, pk_mul, nI_add, nI_clamp]
          show X 20 [some (vR 12 0), some (vI (nI d)), some (vI (nI k)), L3] [] M
          refine h (fun i => Nat.beq i 48) 3000 20 _ _ _ ?_
          refine And.intro (show inb 10 (alen 54) = true from rfl) ?_
          refine br_f (show ¬ (M.1 54 0 10 ≤ nI k) from by rw [hL, nI_leI (by omega) (by omega)]; omega) ?_
          refine brn_t (show ¬ (M.1 12 0 35 = 300) from h300) ?_
          show X 48 [some (vR 12 0), some (vI (nI d)), some (vI (nI k)), some (vI (146 + (6 * (nI k))))] [] (mI M 12 0 35 ((M.1 12 0 35) + 1))
          rw [xx]
          exact z
        have er : (nI (146 + 6 * k)).toNatClampNeg = 146 + 6 * k := nI_clamp (by omega)
        by_cases h26 : M.1 54 0 (146 + 6 * k) = 26
        · rw [if_pos h26] at e1
          rw [e1] at h
          show X 48 [some (vR 12 0), some (vI (nI d)), some (vI (nI k)), some (vI (nI (146 + 6 * k)))] [] (stI M)
          refine h (fun _ => false) 3000 48 _ _ _ ?_
          refine And.intro (show inb (nI (146 + 6 * k)) (alen 54) = true from (inb_o 3060 rfl rfl rfl (by omega))) ?_
          refine brn_f (show (stI M).1 54 0 ((nI (146 + 6 * k)).toNatClampNeg) = 26 from by show M.1 54 0 (nI (146 + 6 * k)).toNatClampNeg = 26; rw [er]; exact h26) ?_
          show ((none : Option MV), stI M) = _
          exact rfl
        · rw [if_neg h26] at e1
          obtain ⟨s1, s2, s3, s4⟩ := st_ok hM hkL h300
          have e2 : lvR (f0 + 1) M L k = lvR f0 (stL M k) L (stK (stL M k) k) := e1
          rw [e2] at h
          have hpE := pE_le (L := L) (k := stK (stL M k) k) s1.2.2.1
          obtain ⟨f', q1, q2, q3, q4, q5, q6⟩ := lv_be (ns := ns) (nm := nm) (nt := nt) 6000 f0 (stL M k) (stK (stL M k) k) s1 s2 (by omega) (by omega)
          have fin : ∀ L3, X 110 [some (vR 12 0), some (vI (nI d)), some (vI (nI k)), L3] [vI (nI (stK (stL M k) k)), vR 12 0] (stL M k) := by
            intro L3
            rw [q2] at h
            have eL : (stL M k).1 54 0 10 = nI L := s1.2.1.1
            have eLn : (nI L).toNatClampNeg = L := nI_clamp (by omega)
            have eKn : (nI (stK (stL M k) k)).toNatClampNeg = stK (stL M k) k := nI_clamp (by omega)
            have goal := ih f' (by omega) _ _ L3 q5 q6 q4 q3 h
            show X 110 [some (vR 12 0), some (vI (nI d)), some (vI (nI k)), L3] [vI (nI (stK (stL M k) k)), vR 12 0] (stL M k)
            refine h (fun i => Nat.beq i 20) 3000 110 _ _ _ ?_
            refine And.intro (show Pre_X12_behindEnds (stL M k) [vR 12 0, vI (nI (stK (stL M k) k))] from ⟨ns, nm, nt, L, stK (stL M k) k, s1.2.1, s1.2.2.1, s2, rfl⟩) ?_
            show X 20 [some (vR 12 0), some (vI (nI d)), some (vI (nI (beK 6000 (stL M k) ((stL M k).1 54 0 10).toNatClampNeg (nI (stK (stL M k) k)).toNatClampNeg).1)), L3] [] ((beK 6000 (stL M k) ((stL M k).1 54 0 10).toNatClampNeg (nI (stK (stL M k) k)).toNatClampNeg).2)
            rw [eL, eLn, eKn]
            exact goal
          have c0 : (stL M k).1 54 0 (146 + 6 * k) = M.1 54 0 (146 + 6 * k) := s4 _ (by omega)
          have x4 : (nI (146 + 6 * k) + 4).toNatClampNeg = 150 + 6 * k := by rw [show (4 : Int32) = nI 4 from rfl, nI_add, nI_clamp (by omega)]; omega
          have i4 : nI (146 + 6 * k) + 4 = nI (150 + 6 * k) := by rw [show (4 : Int32) = nI 4 from rfl, nI_add]; congr 1; omega
          have on : ¬ (¬ (stL M k).1 54 0 (146 + 6 * k) < 2300 ∧ ¬ hoP ((stL M k).1 54 0) k) → X 107 [some (vR 12 0), some (vI (nI d)), some (vI (nI k)), some (vI (nI (146 + 6 * k)))] [vR 12 0] (stL M k) := by
            intro hn
            have ek : stK (stL M k) k = k + 1 := if_neg hn
            rw [ek] at fin
            show X 107 [some (vR 12 0), some (vI (nI d)), some (vI (nI k)), some (vI (nI (146 + 6 * k)))] [vR 12 0] (stL M k)
            refine h (fun i => Nat.beq i 110) 3000 107 _ _ _ ?_
            show X 110 [some (vR 12 0), some (vI (nI d)), some (vI (nI k)), some (vI (nI (146 + 6 * k)))] [vI ((nI k) + 1), vR 12 0] (stL M k)
            rw [nI_1]
            exact fin _
          have s87 : X 87 [some (vR 12 0), some (vI (nI d)), some (vI (nI k)), some (vI (nI (146 + 6 * k)))] [] (stL M k) := by
            obtain ⟨-, -, -, -, -, y6⟩ := s1.2.1.2.2 k hkL
            show X 87 [some (vR 12 0), some (vI (nI d)), some (vI (nI k)), some (vI (nI (146 + 6 * k)))] [] (stL M k)
            refine h (fun i => Nat.beq i 107 || Nat.beq i 110) 3000 87 _ _ _ ?_
            refine And.intro (show inb (nI (146 + 6 * k)) (alen 54) = true from (inb_o 3060 rfl rfl rfl (by omega))) ?_
            refine br_c (fun b93 => ?_) (fun b93 => ?_)
            · -- 93: (stL M k).1 54 0 ((nI (146 + 6 * k)).toNatClampNeg) < 2300 taken
              replace b93 : (stL M k).1 54 0 ((nI (146 + 6 * k)).toNatClampNeg) < 2300 := b93
              (try simp only [er, x4] at b93)
              replace b93 : (stL M k).1 54 0 (146 + 6 * k) < 2300 := b93
              show X 107 [some (vR 12 0), some (vI (nI d)), some (vI (nI k)), some (vI (nI (146 + 6 * k)))] [vR 12 0] (stL M k)
              (try simp only [er, x4])
              exact on (fun z => z.1 b93)
            · -- 93: (stL M k).1 54 0 ((nI (146 + 6 * k)).toNatClampNeg) < 2300 on
              replace b93 : ¬ ((stL M k).1 54 0 ((nI (146 + 6 * k)).toNatClampNeg) < 2300) := b93
              (try simp only [er, x4] at b93)
              refine And.intro (show Pre_X12_holds (stL M k) [vR 12 0, vI (nI (146 + 6 * k))] from ⟨ns, nm, nt, L, k, s1.1, s1.2.1, hkL, b93, rfl⟩) ?_
              refine brn_c (fun b97 => ?_) (fun b97 => ?_)
              · -- 97: bI (hoP ((stL M k).1 54 0) (((nI (146 + 6 * k)).toNatClampNeg - 146) / 6)) = 0 taken
                replace b97 : hoP ((stL M k).1 54 0) (((nI (146 + 6 * k)).toNatClampNeg - 146) / 6) := bI_n0.mp b97
                (try simp only [er, x4] at b97)
                show X 107 [some (vR 12 0), some (vI (nI d)), some (vI (nI k)), some (vI (nI (146 + 6 * k)))] [vR 12 0] (stL M k)
                (try simp only [er, x4])
                refine on (fun z => ?_)
                rw [show ((146 + 6 * k) - 146) / 6 = k by omega] at b97 
                exact z.2 b97
              · -- 97: bI (hoP ((stL M k).1 54 0) (((nI (146 + 6 * k)).toNatClampNeg - 146) / 6)) = 0 on
                replace b97 : ¬ (hoP ((stL M k).1 54 0) (((nI (146 + 6 * k)).toNatClampNeg - 146) / 6)) := bI_0.mp b97
                (try simp only [er, x4] at b97)
                refine And.intro (show inb ((nI (146 + 6 * k)) + 4) (alen 54) = true from (inb_o 3060 rfl rfl i4 (by omega))) ?_
                show X 110 [some (vR 12 0), some (vI (nI d)), some (vI (nI k)), some (vI (nI (146 + 6 * k)))] [vI (((stL M k).1 54 0 (((nI (146 + 6 * k)) + 4).toNatClampNeg)) + 1), vR 12 0] (stL M k)
                (try simp only [er, x4])
                rw [show ((146 + 6 * k) - 146) / 6 = k by omega] at b97
                obtain ⟨e, he, ee⟩ := y6 b93 
                have ek : stK (stL M k) k = e + 1 := (if_pos ⟨b93, b97⟩).trans (by rw [ee, nI_clamp (by omega)]) 
                rw [ek] at fin 
                rw [ee, nI_1] 
                exact fin _
          have s69 : X 69 [some (vR 12 0), some (vI (nI d)), some (vI (nI k)), some (vI (nI (146 + 6 * k)))] [] (stD M k) := by
            have hD := do_ok (show VMx (stI M) ns nm nt from hM.1) (show YP ((stI M).1 54 0) ns nm nt L from hM.2.1) (show DRo (stI M) from hM.2.2.2.1) hkL
            have d0 : (stD M k).1 54 0 (146 + 6 * k) = M.1 54 0 (146 + 6 * k) := hD.1 _ (by omega)
            have d1 : (stD M k).1 54 0 (147 + 6 * k) = M.1 54 0 (147 + 6 * k) := hD.1 _ (by omega)
            have x1 : (nI (146 + 6 * k) + 1).toNatClampNeg = 147 + 6 * k := by rw [nI_1, nI_clamp (by omega)]; omega
            have ekn : (nI k).toNatClampNeg = k := nI_clamp (by omega)
            show X 69 [some (vR 12 0), some (vI (nI d)), some (vI (nI k)), some (vI (nI (146 + 6 * k)))] [] (stD M k)
            refine h (fun i => Nat.beq i 87) 3000 69 _ _ _ ?_
            refine And.intro (show inb (nI (146 + 6 * k)) (alen 54) = true from (inb_o 3060 rfl rfl rfl (by omega))) ?_
            refine brn_c (fun b74 => ?_) (fun b74 => ?_)
            · -- 74: (stD M k).1 54 0 ((nI (146 + 6 * k)).toNatClampNeg) = 24 taken
              replace b74 : ¬ ((stD M k).1 54 0 ((nI (146 + 6 * k)).toNatClampNeg) = 24) := b74
              (try simp only [er, x1, d0, d1, ekn] at b74)
              show X 87 [some (vR 12 0), some (vI (nI d)), some (vI (nI k)), some (vI (nI (146 + 6 * k)))] [] (stD M k)
              (try simp only [er, x1, d0, d1, ekn])
              rw [show stL M k = stD M k from mite_f b74] at s87
              exact s87
            · -- 74: (stD M k).1 54 0 ((nI (146 + 6 * k)).toNatClampNeg) = 24 on
              replace b74 : (stD M k).1 54 0 ((nI (146 + 6 * k)).toNatClampNeg) = 24 := b74
              (try simp only [er, x1, d0, d1, ekn] at b74)
              refine And.intro (show inb ((nI (146 + 6 * k)) + 1) (alen 54) = true from (inb_o 3060 rfl rfl (show nI (146 + 6 * k) + 1 = nI (147 + 6 * k) by rw [nI_1]; congr 1; omega) (by omega))) ?_
              refine And.intro (show inb (nI k) (alen 69) = true from (inb_o 80 rfl rfl rfl (by omega))) ?_
              show X 87 [some (vR 12 0), some (vI (nI d)), some (vI (nI k)), some (vI (nI (146 + 6 * k)))] [] (mRow (stD M k) 69 0 (upd ((stD M k).1 69 0) (nI k).toNatClampNeg (((stD M k).1 54 0 (((nI (146 + 6 * k)) + 1).toNatClampNeg)) - 1)))
              (try simp only [er, x1, d0, d1, ekn])
              rw [show stL M k = mRow (stD M k) 69 0 (upd ((stD M k).1 69 0) k (M.1 54 0 (147 + 6 * k) - 1)) from mite_t b74] at s87
              exact s87
          have h6 : (146 + 6 * k - 146) / 6 = k := by omega
          unfold stD at s69
          show X 48 [some (vR 12 0), some (vI (nI d)), some (vI (nI k)), some (vI (nI (146 + 6 * k)))] [] (stI M)
          refine h (fun i => Nat.beq i 69) 3000 48 _ _ _ ?_
          refine And.intro (show inb (nI (146 + 6 * k)) (alen 54) = true from (inb_o 3060 rfl rfl rfl (by omega))) ?_
          refine brn_t (show ¬ ((stI M).1 54 0 ((nI (146 + 6 * k)).toNatClampNeg) = 26) from by show ¬ M.1 54 0 (nI (146 + 6 * k)).toNatClampNeg = 26; rw [er]; exact h26) ?_
          refine And.intro (show inb 0 (alen 70) = true from rfl) ?_
          refine And.intro (show Pre_X12_does (stI M) [vR 12 0, vI (nI (146 + 6 * k))] from (by obtain ⟨dd, hd1, hd2⟩ := hM.2.2.2.1; exact ⟨ns, nm, nt, L, dd, k, hM.1, hM.2.1, hd1, hd2, hkL, rfl⟩)) ?_
          refine br_c (fun b63 => ?_) (fun b63 => ?_)
          · -- 63: bI ((doP (stI M) (((nI (146 + 6 * k)).toNatClampNeg - 146) / 6)).1 = true) = 0 taken
            replace b63 : ¬ ((doP (stI M) (((nI (146 + 6 * k)).toNatClampNeg - 146) / 6)).1 = true) := bI_0.mp b63
            (try simp only [er, h6] at b63)
            refine And.intro (show inb 0 (alen 70) = true from rfl) ?_
            show X 69 [some (vR 12 0), some (vI (nI d)), some (vI (nI k)), some (vI (nI (146 + 6 * k)))] [] (mRow ((doP (stI M) (((nI (146 + 6 * k)).toNatClampNeg - 146) / 6)).2) 70 0 (upd (((doP (stI M) (((nI (146 + 6 * k)).toNatClampNeg - 146) / 6)).2).1 70 0) 0 (((stI M).1 70 0 0) + 1)))
            (try simp only [er, h6])
            rw [if_neg b63] at s69
            exact s69
          · -- 63: bI ((doP (stI M) (((nI (146 + 6 * k)).toNatClampNeg - 146) / 6)).1 = true) = 0 on
            replace b63 : (doP (stI M) (((nI (146 + 6 * k)).toNatClampNeg - 146) / 6)).1 = true := bI_n0.mp b63
            (try simp only [er, h6] at b63)
            refine And.intro (show inb 0 (alen 70) = true from rfl) ?_
            show X 69 [some (vR 12 0), some (vI (nI d)), some (vI (nI k)), some (vI (nI (146 + 6 * k)))] [] (mRow ((doP (stI M) (((nI (146 + 6 * k)).toNatClampNeg - 146) / 6)).2) 70 0 (upd (((doP (stI M) (((nI (146 + 6 * k)).toNatClampNeg - 146) / 6)).2).1 70 0) 0 (((stI M).1 70 0 0) + 0)))
            (try simp only [er, h6])
            rw [if_pos b63] at s69
            exact s69
    · rw [if_neg hkL] at e1
      rw [e1] at h
      show X 20 [some (vR 12 0), some (vI (nI d)), some (vI (nI k)), L3] [] M
      refine h (fun _ => false) 3000 20 _ _ _ ?_
      refine And.intro (show inb 10 (alen 54) = true from rfl) ?_
      refine br_t (show M.1 54 0 10 ≤ nI k from by rw [hL]; exact nI_le (by omega) (by omega)) ?_
      show ((none : Option MV), M) = _
      exact rfl
  have e0 : (lvI2 mm (nI d)).1 12 0 35 = nI 0 := rfl
  have hLV : LV (lvI2 mm (nI d)) ns nm nt L := ⟨hV, hY, hl, ⟨d, rfl, hd⟩, 0, by omega, rfl⟩
  have h0c : ¬ clP (lvI2 mm (nI d)) L 0 := fun z => by
    obtain ⟨-, -, -, -, y5, -⟩ := hY.2.2 0 z.1
    obtain ⟨o, ho, -⟩ := y5 z.2
    omega
  have hp : PP (lvI2 mm (nI d)) L 0 < 100000 := by
    have := pE_le (L := L) (k := 0) hLV.2.2.1
    unfold PP
    rw [e0, nI_clamp (by omega)]
    omega
  have start := fun L3 => main 100000 (lvI2 mm (nI d)) 0 L3 hLV (by omega) h0c hp h
  obtain ⟨N, hN⟩ : ∃ N, N = mI (mI mm 12 0 34 (nI d)) 12 0 35 0 := ⟨_, rfl⟩
  have eI : lvI2 mm (nI d) = mRow N 70 0 (zrR (mm.1 70 0) 0 5) := by rw [hN]; rfl
  have e70 : N.1 70 0 = mm.1 70 0 := by rw [hN]; rfl
  rw [eI] at start
  have loop : ∀ i, i ≤ 5 → ∀ L3, X 8 [some (vR 12 0), some (vI (nI d)), some (vI (nI i)), L3] [] (mRow N 70 0 (zrR (mm.1 70 0) 0 i)) := by
    refine up_ind 5 ?_ (fun i hi ih => ?_)
    · intro L3
      show X 8 [some (vR 12 0), some (vI (nI d)), some (vI (nI 5)), L3] [] (mRow N 70 0 (zrR (mm.1 70 0) 0 5))
      refine h (fun i => Nat.beq i 20) 3000 8 _ _ _ ?_
      refine br_t (show 5 ≤ nI 5 from Int32.le_refl _) ?_
      show X 20 [some (vR 12 0), some (vI (nI d)), some (vI 0), L3] [] (mRow N 70 0 (zrR (mm.1 70 0) 0 5))
      exact start _
    · intro L3
      have ei : (nI i).toNatClampNeg = i := nI_clamp (by omega)
      have hz := zrR_s (mm.1 70 0) 0 i
      rw [Nat.zero_add] at hz
      show X 8 [some (vR 12 0), some (vI (nI d)), some (vI (nI i)), L3] [] (mRow N 70 0 (zrR (mm.1 70 0) 0 i))
      refine h (fun i => Nat.beq i 8) 3000 8 _ _ _ ?_
      refine br_f (show ¬ (5 ≤ nI i) from show ¬ nI 5 ≤ nI i from nI_ge hi (by omega)) ?_
      refine And.intro (show inb (nI i) (alen 70) = true from (inb_o 5 rfl rfl rfl (by omega))) ?_
      show X 8 [some (vR 12 0), some (vI (nI d)), some (vI ((nI i) + 1)), L3] [] (mRow (mRow N 70 0 (zrR (mm.1 70 0) 0 i)) 70 0 (upd (zrR (mm.1 70 0) 0 i) (nI i).toNatClampNeg 0))
      rw [ei, mRow2, hz, nI_1]
      exact ih _
  have l0 := loop 0 (by omega) none
  rw [zrR_0, ← e70, mRow_self] at l0
  show X 0 [some (vR 12 0), some (vI (nI d)), none, none] [] mm
  refine h (fun i => Nat.beq i 8) 3000 0 _ _ _ ?_
  show X 8 [some (vR 12 0), some (vI (nI d)), some (vI 0), none] [] (mI (mI mm 12 0 34 (nI d)) 12 0 35 0)
  rw [← hN]
  exact l0
theorem con_X12_lives (l : Launch) : CON l y_X12_lives prog_14_method_159_code 4 none rm_X12_lives Pre_X12_lives Fn_X12_lives := CON_of (by decide) rfl rfl (sa_X12_lives l) vc_X12_lives
