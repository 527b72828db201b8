/-! PART 9ZW: living, alike -/

noncomputable section
/-- what the model's living moves -/
def FKo (m m' : MM) : Prop := (∀ k j, k ≠ 12 → k ≠ 54 → k ≠ 69 → k ≠ 70 → m'.1 k j = m.1 k j) ∧ (∀ j, j ≠ 34 → j ≠ 35 → m'.1 12 0 j = m.1 12 0 j) ∧ m'.2 = m.2
theorem FK_r (m : MM) : FKo m m := ⟨fun _ _ _ _ _ _ => rfl, fun _ _ _ => rfl, rfl⟩
theorem FK_t {a b c : MM} (h : FKo a b) (h' : FKo b c) : FKo a c := ⟨fun k j x y z w => (h'.1 k j x y z w).trans (h.1 k j x y z w), fun j x y => (h'.2.1 j x y).trans (h.2.1 j x y), h'.2.2.trans h.2.2⟩
theorem FK_R {m : MM} {k g : Nat} {f : Nat → Int32} (h : k = 54 ∨ k = 69 ∨ k = 70) : FKo m (mRow m k g f) := ⟨fun k' j x y z w => if_neg (fun q => by omega), fun j _ _ => congrFun (show (mRow m k g f).1 12 0 = m.1 12 0 from if_neg (fun q => by omega)) j, rfl⟩
theorem FK_M {m : MM} {j : Nat} {x : Int32} (h : j = 34 ∨ j = 35) : FKo m (mI m 12 0 j x) := ⟨fun k' j x y z w => if_neg (fun q => x q.1), fun i _ _ => upd_ne (by omega), rfl⟩
theorem FK_pM {p : Prop} [Decidable p] {m a b : MM} (ha : FKo m a) (hb : FKo m b) : FKo m (pMi p a b).2 := by
  unfold pMi
  split
  · exact ha
  · exact hb
theorem FK_mi {p : Prop} [Decidable p] {m a b : MM} (ha : FKo m a) (hb : FKo m b) : FKo m (mite p a b) := by
  unfold mite
  split
  · exact ha
  · exact hb
theorem FK_pb (m : MM) (j : Nat) : FKo m (pbP m j).2 := by
  unfold pbP
  split
  · exact FK_t (FK_t (FK_R (by decide)) (FK_R (by decide))) (FK_R (by decide))
  · exact FK_r m
theorem FK_do (m : MM) (k : Nat) : FKo m (doP m k).2 := by
  unfold doP doQ
  split
  · exact FK_pb m _
  split
  · exact FK_pM (FK_t (FK_R (by decide)) (FK_R (by decide))) (FK_r m)
  split
  · unfold pGa
    split
    · exact FK_r m
    · exact FK_t (FK_M (by decide)) (FK_pb _ _)
  split
  · exact FK_pM (FK_R (by decide)) (FK_r m)
  split
  · exact FK_pM (FK_t (FK_R (by decide)) (FK_R (by decide))) (FK_r m)
  split
  · exact FK_pM (FK_t (FK_R (by decide)) (FK_R (by decide))) (FK_r m)
  · exact FK_r m
theorem FK_sI (m : MM) : FKo m (stI m) := FK_M (by decide)
theorem FK_sD (m : MM) (k : Nat) : FKo m (stD m k) := FK_t (FK_t (FK_sI m) (FK_do _ k)) (FK_R (by decide))
theorem FK_sL (m : MM) (k : Nat) : FKo m (stL m k) := FK_mi (FK_t (FK_sD m k) (FK_R (by decide))) (FK_sD m k)
theorem FK_lT (m : MM) (k : Nat) : FKo m (lvT m k).2 := by
  unfold lvT
  split
  · exact FK_mi (FK_R (by decide)) (FK_r m)
  · unfold lvS
    split
    · exact FK_R (by decide)
    split
    · exact FK_sI m
    · exact FK_sL m k
theorem FK_lR : ∀ f m L k, FKo m (lvR f m L k)
  | 0, m, _, _ => FK_r m
  | f + 1, m, L, k => by
    rw [lvR]
    split
    · have z := FK_lT m k
      revert z
      generalize lvT m k = p
      intro z
      obtain ⟨o, m'⟩ := p
      cases o with
      | none => exact z
      | some k' => exact FK_t z (FK_lR f m' L k')
    · exact FK_r m
theorem FK_li (m : MM) (x : Int32) : FKo m (liM m x) := FK_t (FK_t (FK_t (FK_M (by decide)) (FK_M (by decide))) (FK_R (by decide))) (FK_lR _ _ _ _)
/-- the valley of now and what was lived move -/
theorem RST_w {m Y : MM} {ns nm nt : Nat} {b : Nat → Int32} (h : RST m) (hG : VGo m (m.2.2 0) (m.1 54 0) (m.2.1 55 0) ns nm nt) (yc : ∀ k j, kC k → k ≠ 54 ∧ k ≠ 53 ∧ k ≠ 71 ∧ k ≠ 69 ∧ k ≠ 20 → ¬ (k = 1 ∨ (16 ≤ k ∧ k ≤ 19) ∨ k = 31 ∨ k = 32) ∨ j ≠ m.2.2 0 → Y.1 k j = m.1 k j) (y54 : Y.1 54 0 = b) (y11 : Y.1 11 0 14 = m.1 11 0 14 ∧ Y.1 11 0 18 = m.1 11 0 18 ∧ Y.1 11 0 19 = m.1 11 0 19 ∧ Y.1 4 0 5 = m.1 4 0 5) (y12 : Y.1 12 0 10 = m.1 12 0 10 ∧ Y.1 12 0 16 = m.1 12 0 16 ∧ Y.1 12 0 17 = m.1 12 0 17 ∧ Y.1 12 0 40 = m.1 12 0 40) (y2 : Y.2 = m.2) (hl : (Y.1 11 0 11 = 0 ∧ Y.1 12 0 39 = 0) ∨ (Y.1 11 0 11 = 1 ∧ Y.1 12 0 39 = 1)) (h53 : ∀ j, j < 5 → Y.1 53 0 j = Y.1 71 0 j) (hLP : LPo Y) (hLL : LLo Y Y) (hV : VC2 Y (m.2.2 0) ns nm nt) (hA : AG (abV Y (m.2.2 0)) b ns nm nt) (hS : VSo b ns nm nt) (hn : ∀ t, t < nt → b (46 + 3 * t) = m.1 54 0 (46 + 3 * t)) (hb : ∀ j, j = 10 ∨ 146 ≤ j → b j = m.1 54 0 j) : RST Y := by
  obtain ⟨r1, -, ⟨k, q1, q2, q3, q4⟩, r4, r5, ⟨F, B, t1, t2, t3, t4, t5⟩, r7, r8, r9, r10, r11, r12, r13⟩ := h
  have hnow : m.2.2 0 < 2 := by omega
  obtain ⟨a1, a2, a3, a4⟩ := y11
  obtain ⟨b1, b2, b3, b4⟩ := y12
  refine ⟨by rw [y2]; exact r1, ⟨ns, nm, nt, ?_⟩, ⟨k, q1, by rw [a1]; exact q2, by rw [b4]; exact q3, fun i hi => ?_⟩, fun g hg => ?_, fun i hi => ?_, ⟨F, B, t1, by rw [a4]; exact t2, by rw [b1]; exact t3, t4, fun j hj => ?_⟩, by rw [OWo, y2]; exact r7, by rw [y2]; exact r8, by rw [a2, a3, b2, b3]; exact r9, hl, h53, hLP, hLL⟩
  · rw [y2, y54]
    exact VG_d hG hV hA hS hn (yc 38 _ (by unfold kC; omega) (by omega) (by omega)) (yc 6 _ (by unfold kC; omega) (by omega) (by omega)) (yc 9 _ (by unfold kC; omega) (by omega) (by omega)) (fun x x1 x2 => yc x _ (by unfold kC; omega) (by omega) (by omega)) (by rw [y2]) (hb 10 (Or.inl rfl)) (fun j hj _ => hb j (Or.inr hj)) (fun _ _ => rfl)
  · obtain ⟨n1, n2, n3, z⟩ := q4 i hi
    refine ⟨n1, n2, n3, VG_c z ⟨abV_d (fun k hk => yc k _ (by unfold kC; omega) (by omega) (Or.inr (by omega))), fun t _ => by rw [yc 38 _ (by unfold kC; omega) (by omega) (by omega)], fun j _ _ => by rw [yc 6 _ (by unfold kC; omega) (by omega) (by omega)], fun j _ _ => by rw [yc 9 _ (by unfold kC; omega) (by omega) (by omega)], fun x x1 x2 k _ => by rw [yc x _ (by unfold kC; omega) (by omega) (by omega)], fun i _ => by rw [y2]⟩ (fun j hj => ?_) (fun j hj => by rw [y2])⟩
    unfold slA
    rw [y54]
    exact hb _ (Or.inr (by omega))
  · unfold ZZo
    rw [yc 9 _ (by unfold kC; omega) (by omega) (by omega)]
    exact r4 g hg
  · rw [yc 5 _ (by unfold kC; omega) (by omega) (by omega), yc 57 _ (by unfold kC; omega) (by omega) (by omega), yc 56 _ (by unfold kC; omega) (by omega) (by omega), y2]
    exact r5 i hi
  · rw [yc 26 _ (by unfold kC; omega) (by omega) (by omega), yc 59 _ (by unfold kC; omega) (by omega) (by omega)]
    exact t5 j hj
theorem OK_live {m : MM} (h : RST m) (x : Int32) : OKo m (cl_live m x) (fun m1 => Fn_X12_live m1 [vR 12 0, vI x]) := by
  obtain ⟨ns, nm, nt, hG, c13, c14, c15, a0, a1, a2, b1, b2, b3⟩ := NOW h
  have hA := hG.2.1
  have hV := hG.1.1
  have hS := hG.2.2.1
  have hi := i99_ok (z := x) (n := 9999) (b := 9999) (by decide) (by decide)
  unfold cl_live
  by_cases x1 : x < 0
  · rw [if_pos x1]
    exact OK_0 h (fun _ => if_neg (fun z => (hi.mp z).1 x1))
  · rw [if_neg x1]
    by_cases x2 : x ≤ 9999
    · rw [if_pos x2]
      have hf : ∀ M : MM, M.1 54 0 = m.1 54 0 → Fn_X12_live M [vR 12 0, vI x] = if m.1 54 0 10 = -1 then rfM M 6 else liR M x := fun M e => by
        show (if i99 x 9999 then (if M.1 54 0 10 = -1 then rfM M 6 else liR M x) else rfM M 1) = _
        rw [if_pos (hi.mpr ⟨x1, x2⟩), e]
      rcases hG.2.2.2.2.2.2.2 with ⟨y1, y2⟩ | ⟨y1, L, y8, yP, yC, yN⟩
      · rw [if_pos y1]
        exact OK_0 h (fun X => (hf (stC m X) rfl).trans (if_pos y2))
      · have n10 : ¬ m.1 54 0 10 = -1 := by rw [yP.1]; exact nI_n1 (by have := yP.2.1; omega)
        rw [if_neg (show ¬ m.1 9 (m.2.2 0) 6 = 0 by rw [y1]; decide)]
        obtain ⟨d, hd, rfl⟩ := arg_in (x := x) (n := 10000) x1 (fun z => Int32.not_lt.mpr x2 (Int32.lt_of_lt_of_le (by decide) z)) (by decide)
        have hr12 := h.2.2.2.2.2.2.2.2.2.2.2.1
        have hr13 := h.2.2.2.2.2.2.2.2.2.2.2.2
        obtain ⟨C1, eC1⟩ : ∃ C1, C1 = c2M m (m.2.2 0) (nI d) := ⟨_, rfl⟩
        have fl : FLo (m.2.2 0) m C1 := by rw [eC1]; exact FL_M _ _ _
        obtain ⟨C, eC⟩ : ∃ C, C = mI (mRow C1 53 0 (va_cpy (C1.1 21 0) (C1.1 53 0) 0 0 5)) 11 0 11 1 := ⟨_, rfl⟩
        have ec : cl_li1 C1 = gvC C (C.1 2 0 2) := by rw [eC]; rfl
        rw [← eC1, ec]
        obtain ⟨X, eX⟩ : ∃ X, X = stC C 0 := ⟨_, rfl⟩
        have xk : ∀ k j, k ≠ 11 → k ≠ 53 → X.1 k j = C1.1 k j := fun k j z1 z2 => by
          rw [eX, eC]
          exact (if_neg (fun z => z1 z.1)).trans ((if_neg (fun z => z1 z.1)).trans (if_neg (fun z => z2 z.1)))
        have x2' : X.2 = m.2 := by rw [eX, eC]; exact fl.2
        have xm : ∀ k j, k ≠ 1 ∧ ¬ (15 < k ∧ k < 20) ∧ k ≠ 2 ∧ k ≠ 20 ∧ k ≠ 21 ∧ k ≠ 11 ∧ k ≠ 53 → X.1 k j = m.1 k j := fun k j z => (xk k j z.2.2.2.2.2.1 z.2.2.2.2.2.2).trans (fl.1 k j (fun w => by omega) z.2.2.1 z.2.2.2.1 z.2.2.2.2.1)
        have e54 : X.1 54 0 = m.1 54 0 := xm 54 0 (by decide)
        have e69 : X.1 69 0 = m.1 69 0 := xm 69 0 (by decide)
        have life := life_ok (c := m) (M := X) (d := d) hG.1 y8 yP.2.1 yC (by rw [e54]; exact hA) (by rw [e54]; exact hS) (by rw [e54]; exact yP) (fun o ho => by rw [e69]; exact hr12 o ho) (fun o ho => by rw [e69]; exact hr13 o ho) (fun k hk => by rw [e54]; exact yN k hk) (by omega)
        have keep := (li_keep (m := X) (d := d) (by rw [VMx, e54]; exact hS.1) (by rw [e54]; exact yP) (fun o ho => by rw [e69]; exact hr12 o ho) (by omega)).2
        have fk := FK_li X (nI d)
        rw [← eC1] at life
        have go := (hf X e54).trans (if_neg n10)
        unfold liR at go
        revert life keep fk go
        generalize liM X (nI d) = Z
        intro life keep fk go
        obtain ⟨lvc, lvm, ⟨lA, lS, l34, l21⟩, l35, lL, -⟩ := life
        have hMX : MCo m X := ⟨fun k j hk => by
          by_cases k53 : k = 53
          · omega
          · exact xm k j (by omega), fun k j _ => by rw [x2']⟩
        have e22 : C.1 2 0 2 = Z.1 12 0 35 := by rw [eC]; exact l35
        have eR : gvC C (C.1 2 0 2) = (some (vI (Z.1 12 0 35)), X) := by rw [e22, eX]; rfl
        rw [eR]
        refine ⟨hMX, ?_, ?_⟩
        · show _ = (Fn_X12_live X [vR 12 0, vI (nI d)]).1
          rw [go]; rfl
        · show INV (Fn_X12_live X [vR 12 0, vI (nI d)]).2
          rw [go]
          show INV (stM (liE Z) 0)
          obtain ⟨Y, eY⟩ : ∃ Y, Y = stM (liE Z) 0 := ⟨_, rfl⟩
          have yz : ∀ k j, k ≠ 12 → k ≠ 71 → Y.1 k j = Z.1 k j := fun k j z1 z2 => by
            rw [eY]
            exact (if_neg (fun z => z1 z.1)).trans ((if_neg (fun z => z1 z.1)).trans (if_neg (fun z => z2 z.1)))
          have y12 : ∀ j, j ≠ 2 → j ≠ 39 → j ≠ 34 → j ≠ 35 → Y.1 12 0 j = m.1 12 0 j := fun j z1 z2 z3 z4 => by
            rw [eY]
            show upd (upd (Z.1 12 0) 39 1) 2 0 j = _
            rw [upd_ne z1, upd_ne z2, fk.2.1 j z3 z4, xm 12 0 (by decide)]
          have y2' : Y.2 = m.2 := by rw [eY]; exact fk.2.2.trans x2'
          have yx : ∀ k j, k ≠ 12 → k ≠ 54 → k ≠ 69 → k ≠ 70 → k ≠ 71 → Y.1 k j = X.1 k j := fun k j z1 z2 z3 z4 z5 => (yz k j z1 z5).trans (fk.1 k j z1 z2 z3 z4)
          have y39 : Y.1 12 0 39 = 1 := by
            rw [eY]
            show upd (upd (Z.1 12 0) 39 1) 2 0 39 = 1
            rw [upd_ne (by decide), upd_eq]
          have y15 : Y.1 11 0 15 = Y.1 12 0 2 := by
            rw [yx 11 0 (by decide) (by decide) (by decide) (by decide) (by decide), eX, eY]
            show upd (C.1 11 0) 15 0 15 = upd (upd (Z.1 12 0) 39 1) 2 0 2
            rw [upd_eq, upd_eq]
          have x11 : ∀ j, j ≠ 15 → j ≠ 11 → X.1 11 0 j = m.1 11 0 j := fun j z1 z2 => by
            rw [eX, eC]
            show upd (upd (C1.1 11 0) 11 1) 15 0 j = _
            rw [upd_ne z1, upd_ne z2, fl.1 11 0 (by omega) (by decide) (by decide) (by decide)]
          have x1111 : X.1 11 0 11 = 1 := by
            rw [eX, eC]
            show upd (upd (C1.1 11 0) 11 1) 15 0 11 = 1
            rw [upd_ne (by decide), upd_eq]
          have y11 : Y.1 11 0 = X.1 11 0 := yx 11 0 (by decide) (by decide) (by decide) (by decide) (by decide)
          have yab : abV Y (m.2.2 0) = abV C1 (m.2.2 0) := abV_d (fun k hk => (yx k _ (by omega) (by omega) (by omega) (by omega) (by omega)).trans (xk k _ (by omega) (by omega)))
          have y69 : Y.1 69 0 = Z.1 69 0 := yz 69 0 (by decide) (by decide)
          have y20 : Y.1 20 0 = C1.1 20 0 := (yx 20 0 (by decide) (by decide) (by decide) (by decide) (by decide)).trans (xk 20 0 (by decide) (by decide))
          rw [← eY]
          refine ⟨RST_w (b := Z.1 54 0) h hG (fun k j hk z w => ?_) (yz 54 0 (by decide) (by decide)) ⟨by rw [y11]; exact x11 14 (by decide) (by decide), by rw [y11]; exact x11 18 (by decide) (by decide), by rw [y11]; exact x11 19 (by decide) (by decide), by rw [yx 4 0 (by decide) (by decide) (by decide) (by decide) (by decide), xm 4 0 (by decide)]⟩ ⟨y12 10 (by decide) (by decide) (by decide) (by decide), y12 16 (by decide) (by decide) (by decide) (by decide), y12 17 (by decide) (by decide) (by decide) (by decide), y12 40 (by decide) (by decide) (by decide) (by decide)⟩ y2' (Or.inr ⟨by rw [y11]; exact x1111, y39⟩) (fun j hj => ?_) (fun o ho => by rw [y69]; exact lvm.2.2.1 o ho) (fun o ho => by rw [y69, y20]; exact lL o ho) (by unfold VC2; rw [yab]; exact lvc.1) (by rw [yab]; exact lA) lS (fun t ht => by rw [keep _ (by omega), e54]) (fun j hj => ?_), y15⟩
          · unfold kC at hk
            refine (yx k j (by omega) (by omega) (by omega) (by omega) (by omega)).trans ((xk k j (by omega) (by omega)).trans (fl.1 k j (fun q => ?_) (by omega) (by omega) (by omega)))
            omega
          · have e1 : Y.1 53 0 = X.1 53 0 := yx 53 0 (by decide) (by decide) (by decide) (by decide) (by decide)
            have e2 : X.1 53 0 = va_cpy (C1.1 21 0) (C1.1 53 0) 0 0 5 := by rw [eX, eC]; rfl
            have e3 : Y.1 71 0 = cp5 (Z.1 71 0) (Z.1 70 0) 5 := by rw [eY]; rfl
            rw [e1, e2, cp_at hj, e3, l21 j hj]
            have : j = 0 ∨ j = 1 ∨ j = 2 ∨ j = 3 ∨ j = 4 := by omega
            rcases this with rfl | rfl | rfl | rfl | rfl <;> rfl
          · rcases hj with rfl | hj
            · rw [lvm.2.1.1, yP.1]
            · rw [keep _ (by omega), e54]
    · rw [if_neg x2]
      exact OK_0 h (fun _ => if_neg (fun z => x2 (hi.mp z).2))

end
