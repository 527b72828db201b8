/-! PART 9ZZE: the mean, alike, on -/

noncomputable section
theorem mz_ok {a : Nat → Int32} {x y z : Int32} : mnP a x y z ↔ suP a x ∧ ¬ y < 0 ∧ ¬ z < 1 ∧ ¬ 20 < z ∧ y ≤ 10000 - z := by
  have i9 := i99_ok (z := y) (n := 9999) (b := 9999) (by decide) (by decide)
  have ez : (¬ lg_cmp z.toInt64 1 < 0 ∧ ¬ 0 < lg_cmp z.toInt64 20) ↔ ¬ z < 1 ∧ ¬ 20 < z := by
    rw [lg_cmp_lt, lg_cmp_gt, Int64.lt_iff_toInt_lt, Int64.lt_iff_toInt_lt, Int32.toInt_toInt64, Int32.lt_iff_toInt_lt, Int32.lt_iff_toInt_lt]
    exact Iff.rfl
  unfold mnP
  rw [i9, ez]
  have zd : ¬ z < 1 → ¬ 20 < z → ∃ d, 1 ≤ d ∧ d ≤ 20 ∧ z = nI d := fun h1 h2 => by
    rw [Int32.lt_iff_toInt_lt, show (1 : Int32).toInt = 1 from by decide] at h1
    rw [Int32.lt_iff_toInt_lt, show (20 : Int32).toInt = 20 from by decide] at h2
    obtain ⟨d, hd, rfl⟩ := nI_ofl (n := 20) (x := z) (by rw [Int32.lt_iff_toInt_lt, show (0 : Int32).toInt = 0 from by decide]; omega) (by omega) (by decide)
    rw [nI_tI (by omega)] at h1
    exact ⟨d, by omega, hd, rfl⟩
  have key : ∀ p d, p ≤ 9999 → 1 ≤ d → d ≤ 20 → (nI p + nI d - 1 ≤ 9999 ↔ nI p ≤ 10000 - nI d) := fun p d hp h1 h2 => by
    rw [show (10000 : Int32) = nI 10000 from rfl, nI_sb (by omega), nI_add, show (1 : Int32) = nI 1 from rfl, nI_sb (by omega), show (9999 : Int32) = nI 9999 from rfl, nI_leI (by omega) (by omega), nI_leI (by omega) (by omega)]
    omega
  constructor
  · rintro ⟨h1, ⟨h2, h3⟩, ⟨h4, h5⟩, h6⟩
    obtain ⟨d, d1, d2, rfl⟩ := zd h4 h5
    have h3' := Int32.le_iff_toInt_le.mp h3
    rw [nI_tI (by omega)] at h3'
    obtain ⟨p, hp, rfl⟩ := nI_ofl (n := 9999) h2 h3' (by decide)
    exact ⟨h1, h2, h4, h5, (key p d hp d1 d2).mp h6⟩
  · rintro ⟨h1, h2, h4, h5, h6⟩
    obtain ⟨d, d1, d2, rfl⟩ := zd h4 h5
    have h6' := h6
    rw [show (10000 : Int32) = nI 10000 from rfl, nI_sb (by omega), Int32.le_iff_toInt_le, nI_tI (by omega)] at h6'
    obtain ⟨p, hp, rfl⟩ := nI_ofl (n := 9999) (x := y) h2 (by omega) (by decide)
    exact ⟨h1, ⟨h2, (nI_leI (by omega) (by omega)).mpr hp⟩, ⟨h4, h5⟩, (key p d hp d1 d2).mpr h6⟩
theorem ce_9 {m : MM} {sp g q : Nat} (hz : ∀ i, ZZo m i → True) (h1 : ZZo m sp) (h2 : ZZo m g) (hne : g ≠ sp) : ∀ i, MEo sp m (ceM m sp g q i) ∧ ZZo (ceM m sp g q i) sp
  | 0 => ⟨ME_r sp m, h1⟩
  | i + 1 => by
    obtain ⟨a, -⟩ := ce_9 hz h1 h2 hne (q := q) i
    rw [ceM]
    revert a
    generalize ceM m sp g q i = M
    intro a
    have fl := FL_M (vcM M sp g) sp (nI (q + i))
    refine ⟨ME_t (ME_t a (ME_vc sp g M)) (ME_fl fl), ?_⟩
    unfold ZZo
    rw [fl.1 9 sp (fun z => by omega) (by decide) (by decide) (by decide), vc_9 M sp g 6 (by decide), a.1 9 g (fun z => hne z.2) (by decide) (by decide) (by decide)]
    exact h2
theorem OK_mean {m : MM} (h : RST m) (x q n : Int32) : OKo m (cl_mean m x q n) (fun m1 => Fn_X12_mean m1 [vR 12 0, vI x, vI q, vI n]) := by
  obtain ⟨ns, nm, nt, hG, c13, c14, c15, a0, a1, a2, b1, b2, b3⟩ := NOW h
  have hd := h.1
  have hne : m.2.2 0 ≠ m.2.2 1 := by omega
  have hsp : m.2.2 1 < 2 := by omega
  have hf : ∀ M : MM, M.1 54 0 = m.1 54 0 → Fn_X12_mean M [vR 12 0, vI x, vI q, vI n] = if mnP (m.1 54 0) x q n then (if m.1 54 0 10 = -1 then isM M 6 else mnR M x q.toNatClampNeg n.toNatClampNeg) else isM M 1 := fun M e => by
    show (if mnP (M.1 54 0) x q n then (if M.1 54 0 10 = -1 then isM M 6 else mnR M x q.toNatClampNeg n.toNatClampNeg) else isM M 1) = _
    rw [e]
  have no : ¬ mnP (m.1 54 0) x q n → OKo m (dnC m 1) (fun m1 => Fn_X12_mean m1 [vR 12 0, vI x, vI q, vI n]) := fun z => OK_dn h (fun X => (hf (stC m X) rfl).trans ((if_neg z).trans (by unfold isM; rw [bI_0.mpr (by decide)])))
  unfold cl_mean
  by_cases x1 : x < 0 ∨ m.1 6 (m.2.2 0) 13 ≤ x
  · rw [if_pos x1]
    rw [c13, ← a0] at x1
    exact no (fun z => x1.elim (mz_ok.mp z).1.1 (mz_ok.mp z).1.2)
  · have y : suP (m.1 54 0) x := ⟨fun z => x1 (Or.inl z), fun z => x1 (Or.inr (by rw [c13, ← a0]; exact z))⟩
    rw [if_neg x1]
    by_cases x2 : q < 0
    · rw [if_pos x2]; exact no (fun z => (mz_ok.mp z).2.1 x2)
    · rw [if_neg x2]
      by_cases x3 : n < 1
      · rw [if_pos x3]; exact no (fun z => (mz_ok.mp z).2.2.1 x3)
      · rw [if_neg x3]
        by_cases x4 : 20 < n
        · rw [if_pos x4]; exact no (fun z => (mz_ok.mp z).2.2.2.1 x4)
        · rw [if_neg x4]
          by_cases x5 : q ≤ 10000 - n
          · rw [if_pos x5]
            have hp : mnP (m.1 54 0) x q n := mz_ok.mpr ⟨y, x2, x3, x4, x5⟩
            rcases hG.2.2.2.2.2.2.2 with ⟨y1, y2⟩ | ⟨y1, L, y8, yP, yC, yN⟩
            · rw [if_pos y1]
              exact OK_dn h (fun X => (hf (stC m X) rfl).trans ((if_pos hp).trans ((if_pos y2).trans (by unfold isM; rw [bI_0.mpr (by decide)]))))
            · have n10 : ¬ m.1 54 0 10 = -1 := by rw [yP.1]; exact nI_n1 (by have := yP.2.1; omega)
              rw [if_neg (show ¬ m.1 9 (m.2.2 0) 6 = 0 by rw [y1]; decide)]
              have hpd : q.toNatClampNeg + n.toNatClampNeg ≤ 10000 := by
                rw [Int32.lt_iff_toInt_lt, show (1 : Int32).toInt = 1 from by decide] at x3
                rw [Int32.lt_iff_toInt_lt, show (20 : Int32).toInt = 20 from by decide] at x4
                obtain ⟨d, hd, rfl⟩ := nI_ofl (n := 20) (x := n) (by rw [Int32.lt_iff_toInt_lt, show (0 : Int32).toInt = 0 from by decide]; omega) (by omega) (by decide)
                rw [show (10000 : Int32) = nI 10000 from rfl, nI_sb (by omega), Int32.le_iff_toInt_le, nI_tI (by omega)] at x5
                rw [nI_tI (by omega)] at x3
                obtain ⟨p, hp, rfl⟩ := nI_ofl (n := 10000 - d) (x := q) x2 x5 (by omega)
                rw [nI_clamp (by omega), nI_clamp (by omega)]
                omega
              have hf := fun M e => (hf M e).trans ((if_pos hp).trans (if_neg n10))
              unfold cl_me1
              generalize q.toNatClampNeg = p at *
              generalize n.toNatClampNeg = d at *
              have hr12 := h.2.2.2.2.2.2.2.2.2.2.2.1
              have hr13 := h.2.2.2.2.2.2.2.2.2.2.2.2
              obtain ⟨me, zz⟩ := ce_9 (m := m) (sp := m.2.2 1) (g := m.2.2 0) (q := p) (fun _ _ => trivial) (h.2.2.2.1 _ (by omega)) (h.2.2.2.1 _ (by omega)) hne d
              have mk : ∀ X : MM, X.1 54 0 = m.1 54 0 ∧ X.1 69 0 = m.1 69 0 → _ := fun X hX => me_ok (X := X) (q := p) hG hne hX y8 yP yC yN hr12 hr13 x d hpd
              have mn : ∀ X : MM, X.1 54 0 = m.1 54 0 ∧ X.1 69 0 = m.1 69 0 → _ := fun X hX => mn_ok (m := X) (ns := ns) (nm := nm) (nt := nt) (L := L) (q := p) (by unfold VMx; rw [hX.1]; exact hG.2.2.1.1) (by rw [hX.1]; exact yP) (fun o ho => by rw [hX.2]; exact hr12 o ho) d hpd
              revert me zz mk
              generalize ceM m (m.2.2 1) (m.2.2 0) p d = C
              generalize ceS m (m.2.2 1) (m.2.2 0) x p d = r
              intro me zz mk
              obtain ⟨X, eX⟩ : ∃ X, X = stC (tfM C r d) 0 := ⟨_, rfl⟩
              have xk : ∀ k j, k ≠ 11 → X.1 k j = C.1 k j := fun k j a => by rw [eX]; exact mRow_kk a
              have xL : ∀ k j, k ≠ 11 → X.2.1 k j = C.2.1 k j := fun k j a => by
                rw [eX]
                exact (if_neg (fun z => a z.1)).trans (if_neg (fun z => a z.1))
              have x2e : X.2.2 = m.2.2 := by rw [eX]; exact me.2.2
              have hX : MCo m X := ⟨fun k j hk => (xk k j (by omega)).trans (me.1 k j (fun z => by have := z.1; unfold vlK at this; omega) (by omega) (by omega) (by omega)), fun k j hk => (xL k j (by omega)).trans (me.2.1 k j (by omega))⟩
              have e54 : X.1 54 0 = m.1 54 0 := hX.1 54 0 (by omega)
              have e69 : X.1 69 0 = m.1 69 0 := hX.1 69 0 (by omega)
              obtain ⟨-, fk, lL, eS⟩ := mk X ⟨e54, e69⟩
              obtain ⟨z1, z2, -, -⟩ := mn X ⟨e54, e69⟩
              have go := hf X e54
              unfold mnR at go
              rw [← eS] at go
              revert fk lL z1 z2 go
              generalize mnM X p d = Z
              intro fk lL z1 z2 go
              have ec : alC (tfM C r d) = (some (vI 1), X) := by rw [eX]; rfl
              rw [ec]
              refine ⟨hX, ?_, ?_⟩
              · show _ = (Fn_X12_mean X [vR 12 0, vI x, vI q, vI n]).1
                rw [go]
              · show INV (Fn_X12_mean X [vR 12 0, vI x, vI q, vI n]).2
                rw [go]
                show INV (tbM Z r d)
                obtain ⟨Y, eY⟩ : ∃ Y, Y = tbM Z r d := ⟨_, rfl⟩
                rw [← eY]
                have yz : ∀ k j, k ≠ 12 → Y.1 k j = Z.1 k j := fun k j a => by rw [eY]; exact mRow_kk a
                have yx : ∀ k j, k ≠ 12 → k ≠ 54 → k ≠ 69 → k ≠ 70 → Y.1 k j = X.1 k j := fun k j a b c e => (yz k j a).trans (fk.1 k j a b c e)
                have ym : ∀ k j, k ≠ 11 → k ≠ 12 → k ≠ 54 → k ≠ 69 → k ≠ 70 → k ≠ 2 → k ≠ 20 → k ≠ 21 → ¬ (vlK k ∧ j = m.2.2 1) → Y.1 k j = m.1 k j := fun k j a b c e f g2 g3 g4 hv => (yx k j b c e f).trans ((xk k j a).trans (me.1 k j hv g2 g3 g4))
                have y12 : ∀ j, j ≠ 2 → j ≠ 34 → j ≠ 35 → Y.1 12 0 j = m.1 12 0 j := fun j a b c => by
                  rw [eY]
                  show upd (Z.1 12 0) 2 0 j = _
                  rw [upd_ne a, fk.2.1 j b c, hX.1 12 0 (by omega)]
                have y11 : ∀ j, j ≠ 15 → Y.1 11 0 j = m.1 11 0 j := fun j a => by
                  rw [yx 11 0 (by decide) (by decide) (by decide) (by decide), eX]
                  show upd (C.1 11 0) 15 0 j = _
                  rw [upd_ne a, me.1 11 0 (fun z => absurd z.1 (by decide)) (by decide) (by decide) (by decide)]
                have y69 : Y.1 69 0 = Z.1 69 0 := yz 69 0 (by decide)
                have y20 : Y.1 20 0 = C.1 20 0 := (yx 20 0 (by decide) (by decide) (by decide) (by decide)).trans (xk 20 0 (by decide))
                have yL : ∀ k j, k ≠ 12 → Y.2.1 k j = X.2.1 k j := fun k j a => by
                  rw [eY]
                  exact ((if_neg (fun z => a z.1)).trans (if_neg (fun z => a z.1))).trans (by rw [fk.2.2])
                refine ⟨RST_me (sp := m.2.2 1) h (fun z => hne z.symm) hsp (fun k j hk h54 h69 h20 hv => ?_) (fun j hj => ?_) ?_ (fun o ho => by rw [y69]; exact z2 o ho) (fun o ho => by rw [y69, y20]; exact lL o ho) ⟨y11 11 (by decide), y11 14 (by decide), y11 18 (by decide), y11 19 (by decide), ?_⟩ ⟨y12 10 (by decide) (by decide) (by decide), y12 16 (by decide) (by decide) (by decide), y12 17 (by decide) (by decide) (by decide), y12 39 (by decide) (by decide) (by decide), y12 40 (by decide) (by decide) (by decide)⟩ (fun k j a b c => (yL k j b).trans ((xL k j a).trans (me.2.1 k j c))) ?_ (by rw [eY]; exact (congrArg (fun z => z.2) fk.2.2).trans x2e), ?_⟩
                · unfold kC at hk
                  exact ym k j (by omega) (by omega) h54 h69 (by omega) (by omega) h20 (by omega) hv
                · rw [yz 54 0 (by decide), z1, wkC_lo _ (by omega), e54]
                · unfold ZZo
                  rw [yx 9 _ (by decide) (by decide) (by decide) (by decide), xk 9 _ (by decide)]
                  exact zz
                · rw [ym 4 0 (by decide) (by decide) (by decide) (by decide) (by decide) (by decide) (by decide) (by decide) (fun z => absurd z.1 (by decide))]
                · rw [yL 11 0 (by decide), eX, eY]
                  exact ⟨rfl, rfl⟩
                · rw [yx 11 0 (by decide) (by decide) (by decide) (by decide), eX, eY]
                  show upd (C.1 11 0) 15 0 15 = upd (Z.1 12 0) 2 0 2
                  rw [upd_eq, upd_eq]
          · rw [if_neg x5]; exact no (fun z => x5 (mz_ok.mp z).2.2.2.2)

end
