/-! PART 9ZZA: a valley is read alike, on -/

noncomputable section
theorem VA_ok {m c X Z : MM} {y : Int32} {sp : Nat} (h : RST m) (hsp : sp < 2) (cr : C5o sp m c) (xk : ∀ k j, k ≠ 11 → 2 ≤ j ∨ ¬ (k = 1 ∨ k = 6 ∨ k = 9 ∨ (16 ≤ k ∧ k ≤ 19) ∨ (30 ≤ k ∧ k ≤ 39) ∨ (43 ≤ k ∧ k ≤ 48)) → X.1 k j = c.1 k j) (x11 : ∀ j, j ≠ 15 → X.1 11 0 j = (kfM c).1 11 0 j) (xL : X.2.1 = c.2.1) (x2 : (X.2.2 0 = 0 ∧ X.2.2 1 = 1) ∨ (X.2.2 0 = 1 ∧ X.2.2 1 = 0)) (zr : ZRo X Z) (hF : (c.1 4 0 9 = 0 ∧ Z.1 12 0 18 = 0 ∧ Z.1 12 0 17 = -1) ∨ FAo c Z) (hz : ∀ g, g < 2 → ZZo X g) (hv : ∃ ns nm nt, VGo (stM (tnM Z) y) ((stM (tnM Z) y).2.2 0) ((stM (tnM Z) y).1 54 0) ((stM (tnM Z) y).2.1 55 0) ns nm nt) : RST (stM (tnM Z) y) := by
  obtain ⟨c1, c5, cL, -⟩ := cr
  obtain ⟨z1, z10, z12, z54, zL, z55, z2⟩ := zr
  have cm : ∀ k j, ¬ (k = 4 ∨ k = 7 ∨ k = 10 ∨ k = 49) → 2 ≤ j ∨ ¬ (k = 1 ∨ k = 6 ∨ k = 9 ∨ (16 ≤ k ∧ k ≤ 19) ∨ (30 ≤ k ∧ k ≤ 39) ∨ (43 ≤ k ∧ k ≤ 48)) → c.1 k j = m.1 k j := fun k j a b => (c1 k j a (by omega)).trans (mRow_kk (by omega))
  have yk : ∀ k j, k ≠ 12 → (stM (tnM Z) y).1 k j = Z.1 k j := fun k j a => (mRow_kk a).trans (mRow_kk a)
  have y12 : ∀ j, j ≠ 2 → j ≠ 16 → (stM (tnM Z) y).1 12 0 j = Z.1 12 0 j := fun j a b => by
    show upd (upd (Z.1 12 0) 16 (Z.1 12 0 18)) 2 y j = _
    rw [upd_ne a, upd_ne b]
  have y16 : (stM (tnM Z) y).1 12 0 16 = Z.1 12 0 18 := by
    show upd (upd (Z.1 12 0) 16 (Z.1 12 0 18)) 2 y 16 = _
    rw [upd_ne (by decide), upd_eq]
  have kf := kf_ok hF
  have k11 : ∀ j, j ≠ 18 → j ≠ 19 → (kfM c).1 11 0 j = m.1 11 0 j := fun j a b => by
    show upd (upd (c.1 11 0) 18 _) 19 _ j = _
    rw [upd_ne b, upd_ne a, cm 11 0 (by omega) (Or.inr (by omega))]
  have yx : ∀ k j, k ≠ 12 → k ≠ 54 → k ≠ 60 → k ≠ 61 → (stM (tnM Z) y).1 k j = X.1 k j := fun k j a b c d => (yk k j a).trans (z1 k j a b c d)
  have y11 : (stM (tnM Z) y).1 11 0 = X.1 11 0 := yx 11 0 (by decide) (by decide) (by decide) (by decide)
  have m12 : ∀ j, X.1 12 0 j = m.1 12 0 j := fun j => by rw [xk 12 0 (by decide) (Or.inr (by omega)), cm 12 0 (by omega) (Or.inr (by omega))]
  refine RST_x (F := 0) (B := fun _ => 0) h (by rw [show (stM (tnM Z) y).2.2 = X.2.2 from z2]; exact x2) (fun k j hk h54 hj => ?_) hv ⟨?_, ?_⟩ ⟨?_, ?_⟩ (fun j a b => ?_) (fun j a b => ?_) (fun g hg => ?_) (TP_0 ?_ ?_) (fun k j hk => ?_) (fun j hj => ?_) ⟨?_, ?_⟩
  · unfold kC at hk
    exact (yx k j (by omega) h54 (by omega) (by omega)).trans ((xk k j (by omega) hj).trans (cm k j (by omega) hj))
  · rw [y11, x11 14 (by decide), k11 14 (by decide) (by decide)]
  · rw [y11, x11 11 (by decide), k11 11 (by decide) (by decide)]
  · rw [y12 40 (by decide) (by decide), z12 40 (by decide), m12]
  · rw [y12 39 (by decide) (by decide), z12 39 (by decide), m12]
  · rw [yk 54 0 (by decide), z54 j a b, xk 54 0 (by decide) (Or.inr (by omega)), cm 54 0 (by omega) (Or.inr (by omega))]
  · show Z.2.1 55 0 j = _
    rw [z55 j a b, xL, cL 55 0 (by decide) (by omega)]
    rfl
  · unfold ZZo
    rw [yx 9 g (by decide) (by decide) (by decide) (by decide)]
    exact hz g hg
  · rw [yx 4 0 (by decide) (by decide) (by decide) (by decide), xk 4 0 (by decide) (Or.inr (by omega)), c5]
    exact mI_eq2
  · rw [y12 10 (by decide) (by decide)]; exact z10
  · show Z.2.1 k j = _
    rw [zL k j (by omega), xL, cL k j (by omega) (by omega)]
    rfl
  · show Z.2.1 29 j = _
    rw [zL 29 j (by decide), xL, cL 29 j (by decide) (by omega)]
    rfl
  · rw [y11, x11 18 (by decide), kf.1, y16]
  · rw [y11, x11 19 (by decide), kf.2, y12 17 (by decide) (by decide)]
theorem CR_MC {m c : MM} {sp : Nat} (cr : C5o sp m c) : MCo m c := by
  obtain ⟨c1, c5, cL, -⟩ := cr
  exact ⟨fun k j hk => (c1 k j (by omega) (by omega)).trans (mRow_kk (by omega)), fun k j hk => (cL k j (by omega) (by omega)).trans rfl⟩
theorem kf_MC {m c : MM} (h : MCo m c) : MCo m (kfM c) := MC_t h (MC_t (MC_R (by decide)) (MC_R (by decide)))
theorem ZZ_o {m : MM} {g : Nat} {a : Nat → Int32} {N : Nat → Int64} {ns nm nt : Nat} (h : VGo m g a N ns nm nt) : ZZo m g := h.2.2.2.2.2.2.2.imp (fun z => z.1) (fun z => z.1)
theorem bg_x {M : MM} {F : Nat} {x : Int32} {q : Nat} (e : M.1 12 0 10 = nI F) (hF : F ≤ 900) (hq : q ≤ 900) : bgP M x (nI q) ↔ ∃ n, n ≤ F ∧ n ≤ q ∧ x = nI n := by
  unfold bgP
  rw [e]
  constructor
  · rintro ⟨h1, h2, h3⟩
    rw [Int32.lt_iff_toInt_lt, nI_tI (by omega)] at h2
    obtain ⟨n, hn, rfl⟩ := nI_ofl (n := 900) h1 (by omega) (by decide)
    rw [Int32.lt_iff_toInt_lt, nI_tI (by omega), nI_tI (by omega)] at h3
    rw [nI_tI (by omega)] at h2
    exact ⟨n, by omega, by omega, rfl⟩
  · rintro ⟨n, h1, h2, rfl⟩
    exact ⟨n_m1 (by omega), fun z => by have := (nI_ltI (by omega) (by omega)).mp z; omega, fun z => by have := (nI_ltI (by omega) (by omega)).mp z; omega⟩
theorem OK_valley {m : MM} (h : RST m) (x : Int32) : OKo m (cl_valley m x) (fun m1 => Fn_X12_valley m1 [vR 12 0, vI x]) := by
  obtain ⟨ns, nm, nt, hG, c13, c14, c15, a0, a1, a2, b1, b2, b3⟩ := NOW h
  obtain ⟨F, B, hT⟩ := h.2.2.2.2.2.1
  have hF := hT.1
  have hc : m.1 4 0 5 = nI F := hT.2.1
  have hm : m.1 12 0 10 = nI F := hT.2.2.1
  have hd := h.1
  have hd2 : (m.2.2 1 = 0 ∧ m.2.2 0 = 1) ∨ (m.2.2 1 = 1 ∧ m.2.2 0 = 0) := by omega
  have hne : ¬ m.2.2 0 = m.2.2 1 := by omega
  have hO := h.2.2.2.2.2.2.1
  have hZ := h.2.2.2.1
  have hf : ∀ M : MM, M.1 12 0 10 = nI F → Fn_X12_valley M [vR 12 0, vI x] = if bgP M x (nI 900) then vlR M x.toNatClampNeg else rfM M 1 := fun M _ => rfl
  have no : ¬ (∃ n, n ≤ F ∧ n ≤ 900 ∧ x = nI n) → OKo m (rfC m 1) (fun m1 => Fn_X12_valley m1 [vR 12 0, vI x]) := fun z => OK_0 h (fun X => (hf (stC m X) hm).trans (if_neg (fun w => z ((bg_x (M := stC m X) hm hF (by decide)).mp w))))
  unfold cl_valley
  by_cases x1 : x < 0
  · rw [if_pos x1]
    exact no (fun ⟨n, _, _, e⟩ => by rw [e] at x1; exact n_m1 (by omega) x1)
  · rw [if_neg x1, hc]
    by_cases x2 : x ≤ nI F
    · rw [if_pos x2]
      have x2' := Int32.le_iff_toInt_le.mp x2
      rw [nI_tI (by omega)] at x2'
      obtain ⟨n, hn, rfl⟩ := nI_ofl (n := F) x1 x2' (by omega)
      have en : (nI n).toNatClampNeg = n := nI_clamp (by omega)
      have hsp : m.2.2 1 < 2 := by omega
      have cr : C5o (m.2.2 1) m (c7vC (m.2.2 1) m (nI n)).2 := CR_7
      have z9 : (c7vC (m.2.2 1) m (nI n)).2.1 9 (m.2.2 1) 6 = 0 := c7_9
      have vt : ∀ X : MM, MCo m X → _ := fun X hX => vt_ok (c := m) (M := X) (g := m.2.2 1) (F := F) (n := n) (B := B) ⟨hF, hc, by rw [hX.1 12 0 (by omega)]; exact hm, hT.2.2.2.1, fun j hj => by rw [hX.1 59 0 (by omega)]; exact hT.2.2.2.2 j hj⟩ hn hO
      have go : ∀ X : MM, MCo m X → Fn_X12_valley X [vR 12 0, vI (nI n)] = vlR X n := fun X hX => by
        have e : X.1 12 0 10 = nI F := by rw [hX.1 12 0 (by omega)]; exact hm
        rw [hf X e, if_pos ((bg_x e hF (by decide)).mpr ⟨n, hn, by omega, rfl⟩), en]
      unfold cl_va1
      revert cr z9 vt
      generalize c7vC (m.2.2 1) m (nI n) = P
      intro cr z9 vt
      obtain ⟨t, c⟩ := P
      have cr : C5o (m.2.2 1) m c := cr
      have z9 : c.1 9 (m.2.2 1) 6 = 0 := z9
      have cd : c.2.2 = m.2.2 := cr.2.2.2
      have mc : MCo m c := CR_MC cr
      show OKo m (if t = true then cl_va2 (kfM c) else rfC (kfM c) 9) _
      have zz : ∀ g, g < 2 → ∀ X : MM, (∀ g, X.1 9 g = c.1 9 g) → ZZo X g := fun g hg X e => by
        unfold ZZo
        rw [e g]
        by_cases q : g = m.2.2 1
        · rw [q]; exact Or.inl z9
        · rw [cr.1 9 g (by omega) (by omega)]
          exact hZ g (by omega)
      by_cases ct : t = true
      · rw [if_pos ct]
        subst ct
        obtain ⟨X, eX⟩ : ∃ X, X = stC (mDyn (mDyn (kfM c) 0 (m.2.2 1)) 1 (m.2.2 0)) 0 := ⟨_, rfl⟩
        have hX : MCo m X := by rw [eX]; exact MC_t (kf_MC mc) (MC_t MC_D (MC_t MC_D MC_C))
        have x2e : X.2.2 0 = m.2.2 1 ∧ X.2.2 1 = m.2.2 0 := by rw [eX]; exact ⟨rfl, rfl⟩
        have xk : ∀ k j, k ≠ 11 → X.1 k j = c.1 k j := fun k j a => by rw [eX]; exact (mRow_kk a).trans ((mRow_kk a).trans (mRow_kk a))
        have x11 : ∀ j, j ≠ 15 → X.1 11 0 j = (kfM c).1 11 0 j := fun j a => by rw [eX]; exact upd_ne a
        have xL : X.2.1 = c.2.1 := by rw [eX]; rfl
        rcases vt X hX with ⟨-, v2, v3, v4, n1, n2, n3, vg⟩ | ⟨v1, -⟩
        · have ec : cl_va2 (kfM c) = (some (vI (nI n3)), X) := by
            unfold cl_va2 cl_va3
            have e1 : (kfM c).2.2 = m.2.2 := cd
            rw [e1]
            show (some (vI ((kfM c).1 6 (m.2.2 1) 15)), stC (mDyn (mDyn (kfM c) 0 (m.2.2 1)) 1 (m.2.2 0)) 0) = _
            rw [← eX, show (kfM c).1 6 (m.2.2 1) = c.1 6 (m.2.2 1) from (mRow_kk (by decide)).trans (mRow_kk (by decide)), show c.1 6 (m.2.2 1) 15 = nI n3 from vg.1.1.2.2.1.1]
          have gX := go X hX
          unfold vlR at gX
          have zr := (VZ_ok X n).1
          revert v2 v3 vg gX zr
          generalize vlE (vlL 901 (vlB X n)) = Z
          intro v2 v3 vg gX zr
          have eR : Fn_X12_valley X [vR 12 0, vI (nI n)] = gvM (tnM Z) (nI n3) := by
            rw [gX]
            unfold tnR
            rw [if_neg (show ¬ 0 < Z.1 12 0 18 by rw [v2]; decide), vg.2.2.1.1.2.2.1.1]
          rw [ec]
          refine ⟨hX, ?_, ?_⟩
          · show _ = (Fn_X12_valley X [vR 12 0, vI (nI n)]).1
            rw [eR]; rfl
          · show INV (Fn_X12_valley X [vR 12 0, vI (nI n)]).2
            rw [eR]
            show INV (stM (tnM Z) 0)
            have yx : ∀ k j, k ≠ 11 → k ≠ 12 → k ≠ 54 → k ≠ 60 → k ≠ 61 → (stM (tnM Z) 0).1 k j = c.1 k j := fun k j a b d e f => ((mRow_kk b).trans (mRow_kk b)).trans ((zr.1 k j b d e f).trans (xk k j a))
            have y2 : (stM (tnM Z) 0).2.2 0 = m.2.2 1 := (congrFun zr.2.2.2.2.2.2 0).trans x2e.1
            have y54 : (stM (tnM Z) 0).1 54 0 = Z.1 54 0 := (mRow_kk (by decide)).trans (mRow_kk (by decide))
            refine ⟨VA_ok (y := 0) h hsp cr (fun k j a _ => xk k j a) x11 xL (by rw [x2e.1, x2e.2]; exact hd2) zr (Or.inl ⟨v4, v2, v3⟩) (fun g hg => zz g hg X (fun g => xk 9 g (by decide))) ⟨n1, n2, n3, ?_⟩, ?_⟩
            · rw [y2, y54]
              refine VG_c (c := c) (c' := stM (tnM Z) 0) vg ⟨abV_d (fun k hk => yx k _ (by omega) (by omega) (by omega) (by omega) (by omega)), fun t _ => by rw [yx 38 _ (by decide) (by decide) (by decide) (by decide) (by decide)], fun j _ _ => by rw [yx 6 _ (by decide) (by decide) (by decide) (by decide) (by decide)], fun j _ _ => by rw [yx 9 _ (by decide) (by decide) (by decide) (by decide) (by decide)], fun x x1 x2 k _ => by rw [yx x _ (by omega) (by omega) (by omega) (by omega) (by omega)], fun i _ => ?_⟩ (fun _ _ => rfl) (fun _ _ => rfl)
              show Z.2.1 29 (m.2.2 1) i = _
              rw [zr.2.2.2.2.1 29 _ (by decide), xL]
            · have e1 : (stM (tnM Z) 0).1 11 0 = X.1 11 0 := ((mRow_kk (by decide)).trans (mRow_kk (by decide))).trans (zr.1 11 0 (by decide) (by decide) (by decide) (by decide))
              rw [e1, eX]
              show upd ((kfM c).1 11 0) 15 0 15 = upd ((tnM Z).1 12 0) 2 0 2
              rw [upd_eq, upd_eq]
        · exact absurd (show true = false from v1) (by decide)
      · rw [if_neg ct]
        have ct : t = false := by cases t with
          | true => exact absurd rfl ct
          | false => rfl
        subst ct
        obtain ⟨X, eX⟩ : ∃ X, X = stC (kfM c) 9 := ⟨_, rfl⟩
        have hX : MCo m X := by rw [eX]; exact MC_t (kf_MC mc) MC_C
        have x2e : X.2.2 = m.2.2 := by rw [eX]; exact cd
        have xk : ∀ k j, k ≠ 11 → X.1 k j = c.1 k j := fun k j a => by rw [eX]; exact (mRow_kk a).trans ((mRow_kk a).trans (mRow_kk a))
        have x11 : ∀ j, j ≠ 15 → X.1 11 0 j = (kfM c).1 11 0 j := fun j a => by rw [eX]; exact upd_ne a
        have xL : X.2.1 = c.2.1 := by rw [eX]; rfl
        rcases vt X hX with ⟨v1, -⟩ | ⟨-, fa⟩
        · exact absurd (show false = true from v1) (by decide)
        · have gX := go X hX
          unfold vlR at gX
          obtain ⟨zr, zf⟩ := VZ_ok X n
          revert fa gX zr zf
          generalize vlE (vlL 901 (vlB X n)) = Z
          intro fa gX zr zf
          obtain ⟨⟨k, k1, k9, e9, e18⟩, e17⟩ := fa
          have n18 : ¬ Z.1 12 0 18 = 0 := by rw [e18]; intro z; have := nI_inj (q := 0) (by omega) (by decide) z; omega
          obtain ⟨zf1, zf2⟩ := zf n18
          have p18 : 0 < Z.1 12 0 18 := by rw [e18]; exact (nI_ltI (a := 0) (by decide) (by omega)).mpr (by omega)
          have eR : Fn_X12_valley X [vR 12 0, vI (nI n)] = rfM (tnM Z) 9 := by
            rw [gX]
            unfold tnR
            rw [if_pos p18]
          have ec : rfC (kfM c) 9 = (some (vI (-1)), X) := by rw [eX]; rfl
          rw [ec]
          refine ⟨hX, ?_, ?_⟩
          · show _ = (Fn_X12_valley X [vR 12 0, vI (nI n)]).1
            rw [eR]; rfl
          · show INV (Fn_X12_valley X [vR 12 0, vI (nI n)]).2
            rw [eR]
            show INV (stM (tnM Z) 9)
            have yx : ∀ k j, k ≠ 11 → k ≠ 12 → k ≠ 54 → k ≠ 60 → k ≠ 61 → (stM (tnM Z) 9).1 k j = c.1 k j := fun k j a b d e f => ((mRow_kk b).trans (mRow_kk b)).trans ((zr.1 k j b d e f).trans (xk k j a))
            have y2 : (stM (tnM Z) 9).2.2 0 = m.2.2 0 := (congrFun zr.2.2.2.2.2.2 0).trans (congrFun x2e 0)
            have y54 : (stM (tnM Z) 9).1 54 0 = Z.1 54 0 := (mRow_kk (by decide)).trans (mRow_kk (by decide))
            have ym : ∀ k, k = 1 ∨ k = 6 ∨ k = 9 ∨ (16 ≤ k ∧ k ≤ 19) ∨ (30 ≤ k ∧ k ≤ 39) ∨ (43 ≤ k ∧ k ≤ 48) → (stM (tnM Z) 9).1 k (m.2.2 0) = m.1 k (m.2.2 0) := fun k hk => (yx k _ (by omega) (by omega) (by omega) (by omega) (by omega)).trans ((cr.1 k _ (by omega) (fun z => hne z.1)).trans (mRow_kk (by omega)))
            refine ⟨VA_ok (y := 9) h hsp cr (fun k j a _ => xk k j a) x11 xL (by rw [x2e]; exact hd) zr (Or.inr ⟨⟨k, k1, k9, e9, e18⟩, e17⟩) (fun g hg => zz g hg X (fun g => xk 9 g (by decide))) ⟨ns, nm, nt, ?_⟩, ?_⟩
            · rw [y2, y54]
              refine VG_c (c := m) (c' := stM (tnM Z) 9) hG ⟨abV_d (fun k hk => ym k (by omega)), fun t _ => by rw [ym 38 (by omega)], fun j _ _ => by rw [ym 6 (by omega)], fun j _ _ => by rw [ym 9 (by omega)], fun x x1 x2 k _ => by rw [ym x (by omega)], fun i _ => ?_⟩ (fun j hj => ?_) (fun j hj => ?_)
              · show Z.2.1 29 (m.2.2 0) i = _
                rw [zr.2.2.2.2.1 29 _ (by decide), xL, cr.2.2.1 29 _ (by decide) (fun z => hne z.2)]
                rfl
              · rw [zf1 j (by omega), hX.1 54 0 (by omega)]
              · show Z.2.1 55 0 j = _
                rw [zf2 j (by omega), hX.2 55 0 (by omega)]
            · have e1 : (stM (tnM Z) 9).1 11 0 = X.1 11 0 := ((mRow_kk (by decide)).trans (mRow_kk (by decide))).trans (zr.1 11 0 (by decide) (by decide) (by decide) (by decide))
              rw [e1, eX]
              show upd ((kfM c).1 11 0) 15 9 15 = upd ((tnM Z).1 12 0) 2 9 2
              rw [upd_eq, upd_eq]
    · rw [if_neg x2]
      refine no (fun ⟨n, h1, _, e⟩ => x2 ?_)
      rw [e]
      exact (nI_leI (by omega) (by omega)).mpr h1

end
