/-! PART 9ZZB: years are read alike -/

noncomputable section
theorem yc_o {m : MM} {g h k j : Nat} (hk : ¬ (k = 9 ∨ (43 ≤ k ∧ k ≤ 48)) ∨ j ≠ g) : (ycM m g h).1 k j = m.1 k j := by
  have r : ∀ (M : MM) (x : Nat) (f : Nat → Int32), (x = 9 ∨ (43 ≤ x ∧ x ≤ 48)) → (mRow M x g f).1 k j = M.1 k j := fun M x f hx => if_neg (fun z => by omega)
  exact (r _ 9 _ (by omega)).trans ((r _ 9 _ (by omega)).trans ((r _ 9 _ (by omega)).trans ((r _ 48 _ (by omega)).trans ((r _ 47 _ (by omega)).trans ((r _ 46 _ (by omega)).trans ((r _ 45 _ (by omega)).trans ((r _ 44 _ (by omega)).trans (r _ 43 _ (by omega)))))))))
theorem yc_L (m : MM) (g h : Nat) : (ycM m g h).2 = m.2 := rfl
theorem yc_r (m : MM) (g h : Nat) : ∀ x, 43 ≤ x → x ≤ 48 → (ycM m g h).1 x g = va_cpy (m.1 x h) (m.1 x g) 0 0 60 := by
  intro x h1 h2
  have : x = 43 ∨ x = 44 ∨ x = 45 ∨ x = 46 ∨ x = 47 ∨ x = 48 := by omega
  rcases this with rfl | rfl | rfl | rfl | rfl | rfl
  · exact if_pos ⟨rfl, rfl⟩
  · exact if_pos ⟨rfl, rfl⟩
  · exact if_pos ⟨rfl, rfl⟩
  · exact if_pos ⟨rfl, rfl⟩
  · exact if_pos ⟨rfl, rfl⟩
  · exact if_pos ⟨rfl, rfl⟩
theorem yc_9 {m : MM} {g h : Nat} (hn : h ≠ g) : (ycM m g h).1 9 g 6 = m.1 9 h 6 ∧ (ycM m g h).1 9 g 7 = m.1 9 h 7 ∧ (ycM m g h).1 9 g 8 = m.1 9 h 8 := by
  obtain ⟨M, eM⟩ : ∃ M, M = cpF2 (cpF2 (cpF2 (cpF2 (cpF2 (cpF2 m 43 g h 60) 44 g h 60) 45 g h 60) 46 g h 60) 47 g h 60) 48 g h 60 := ⟨_, rfl⟩
  have e : ycM m g h = mI (mI (mI M 9 g 6 (M.1 9 h 6)) 9 g 7 ((mI M 9 g 6 (M.1 9 h 6)).1 9 h 7)) 9 g 8 ((mI (mI M 9 g 6 (M.1 9 h 6)) 9 g 7 ((mI M 9 g 6 (M.1 9 h 6)).1 9 h 7)).1 9 h 8) := by rw [eM]; rfl
  have e9 : M.1 9 h = m.1 9 h := by rw [eM]; rfl
  rw [e]
  refine ⟨?_, ?_, ?_⟩
  · rw [mI_ne (by decide), mI_ne (by decide), mI_eq2, e9]
  · rw [mI_ne (by decide), mI_eq2, mRow_ne hn, e9]
  · rw [mI_eq2, mRow_ne hn, mRow_ne hn, e9]
theorem yrB_R {X : MM} {n : Nat} : MRo (mI X 12 0 10 0) (yrB X n) := MR_I (by decide) (MR_I (by decide) (MR_J (by decide) (MR_bg (MR_r _))))
theorem ZR_cy {X W : MM} (h : ZRo X W) : ZRo X (yrC W) := by
  obtain ⟨h1, h2, h3, h4, h5, h6, h7⟩ := h
  refine ⟨fun k j a b c d => (mRow_kk b).trans (h1 k j a b c d), h2, h3, fun j a b => ?_, h5, h6, h7⟩
  refine (show (if 146 ≤ j ∧ j < 146 + 361 then _ else upd (W.1 54 0) 10 (W.1 54 0 2050) j) = W.1 54 0 j from ?_).trans (h4 j a b)
  rw [if_neg (by omega), upd_ne (by omega)]
theorem YZ_ok (X : MM) (n : Nat) : ZRo X (yrE (yrD (yrL 901 (yrB X n)))) ∧ (∀ j, j < 80 → (yrE (yrD (yrL 901 (yrB X n)))).2.1 55 0 j = X.2.1 55 0 j) ∧ (¬ (yrE (yrD (yrL 901 (yrB X n)))).1 12 0 18 = 0 → ∀ j, j < 2040 → (yrE (yrD (yrL 901 (yrB X n)))).1 54 0 j = X.1 54 0 j) := by
  have hL := MR_yL 901 _ (yrB_R (X := X) (n := n))
  revert hL
  generalize yrL 901 (yrB X n) = V
  intro hL
  have hW := MR_Z (show MRo (mI X 12 0 10 0) (yrD V) from MR_mi (MR_fa hL) hL)
  revert hW
  generalize yrD V = W
  intro hW
  unfold yrE
  by_cases c : W.1 12 0 18 = 0
  · rw [mite_t c]
    exact ⟨ZR_cy hW.1, hW.2.2, fun z => absurd (show (yrC W).1 12 0 18 = 0 from c) z⟩
  · rw [mite_f c]
    exact ⟨hW.1, hW.2.2, fun _ => hW.2.1⟩
/-- the valley of now, with years told anew -/
theorem VG_y {m Y : MM} {g : Nat} {a b : Nat → Int32} {N N' : Nat → Int64} {ns nm nt : Nat} (h : VGo m g a N ns nm nt) (eA : abV Y g = abV m g) (e38 : Y.1 38 g = m.1 38 g) (e6 : Y.1 6 g = m.1 6 g) (e29 : Y.2.1 29 g = m.2.1 29 g) (hb : ∀ j, j < 146 → j ≠ 10 → b j = a j) (hN : ∀ i, i < 20 → N' i = N i) (hY : YRR Y g b ns nm nt) : VGo Y g b N' ns nm nt := by
  obtain ⟨h1, h2, h3, ⟨h4, h4'⟩, h5, ⟨n1, n2, n3, n4⟩, ⟨na, m1, m2⟩, -⟩ := h
  have b1 := h3.1.1.2
  have b2 := h3.1.2.1.2
  have b3 := h3.1.2.2.1.2
  have hAB : AG a b ns nm nt := AG_tr (AG_updr (p := 10) (x := b 10) (AG_pt9 (a := a) (b := a) (fun _ _ => rfl) b1 b2 b3) (by decide) b1 b2 b3) (AG_pt9 (fun j hj => by
    by_cases c : j = 10
    · rw [c, upd_eq]
    · rw [upd_ne c]; exact hb j (by omega) c) b1 b2 b3)
  refine ⟨by unfold VC2; rw [eA]; exact h1, by rw [eA]; exact AG_tr h2 hAB, VS_AG h3 hAB (hb 7 (by decide) (by decide)), ⟨fun t ht => by rw [e38, eA]; exact h4 t ht, by rw [e6, eA]; exact h4'⟩, fun t ht => by rw [e38]; exact h5 t ht, ⟨fun i hi => ?_, fun i hi => ?_, fun i hi => ?_, fun i hi z => by rw [e29]; exact n4 i hi z⟩, ⟨na, by rw [e6]; exact m1, m2⟩, hY⟩
  · rw [e29, hN _ (by omega)]; exact n1 i hi
  · rw [e29, hN _ (by omega)]; exact n2 i hi
  · rw [e29, hN _ (by omega)]; exact n3 i hi
theorem OK_years {m : MM} (h : RST m) (x : Int32) : OKo m (cl_years m x) (fun m1 => Fn_X12_years m1 [vR 12 0, vI x]) := by
  obtain ⟨ns, nm, nt, hG, c13, c14, c15, a0, a1, a2, b1, b2, b3⟩ := NOW h
  obtain ⟨F, B, hT⟩ := h.2.2.2.2.2.1
  have hF := hT.1
  have hc : m.1 4 0 5 = nI F := hT.2.1
  have hm : m.1 12 0 10 = nI F := hT.2.2.1
  have hd := h.1
  have hne : ¬ m.2.2 0 = m.2.2 1 := by omega
  have hcv : ∀ k j, 2 ≤ j ∨ ¬ (k = 1 ∨ k = 6 ∨ k = 9 ∨ (16 ≤ k ∧ k ≤ 19) ∨ (30 ≤ k ∧ k ≤ 39) ∨ (43 ≤ k ∧ k ≤ 48)) → ¬ (k = 9 ∨ (43 ≤ k ∧ k ≤ 48)) ∨ j ≠ m.2.2 0 := fun k j z => by omega
  have hg2 : ∀ g, g < 2 → ¬ g = m.2.2 0 → g = m.2.2 1 := fun g h1 h2 => by omega
  have hO := h.2.2.2.2.2.2.1
  have hZ := h.2.2.2.1
  have hf : ∀ M : MM, M.1 12 0 10 = nI F → Fn_X12_years M [vR 12 0, vI x] = if bgP M x (nI 300) then yrR M x.toNatClampNeg else rfM M 1 := fun M _ => rfl
  have no : ¬ (∃ n, n ≤ F ∧ n ≤ 300 ∧ x = nI n) → OKo m (rfC m 1) (fun m1 => Fn_X12_years m1 [vR 12 0, vI x]) := fun z => OK_0 h (fun X => (hf (stC m X) hm).trans (if_neg (fun w => z ((bg_x (M := stC m X) hm hF (by decide)).mp w))))
  unfold cl_years
  by_cases x1 : x < 0
  · rw [if_pos x1]
    exact no (fun ⟨n, _, _, e⟩ => by rw [e] at x1; exact n_m1 (by omega) x1)
  · rw [if_neg x1, hc]
    by_cases x2 : nI F < x
    · rw [if_pos x2]
      refine no (fun ⟨n, h1, _, e⟩ => ?_)
      rw [e] at x2
      have := (nI_ltI (by omega) (by omega)).mp x2
      omega
    · rw [if_neg x2]
      by_cases x3 : x ≤ 300
      · rw [if_pos x3]
        have x2' := Int32.le_iff_toInt_le.mp (Int32.not_lt.mp x2)
        rw [nI_tI (by omega)] at x2'
        obtain ⟨n, hn, rfl⟩ := nI_ofl (n := F) x1 x2' (by omega)
        have hn3 : n ≤ 300 := (nI_leI (b := 300) (by omega) (by omega)).mp x3
        have en : (nI n).toNatClampNeg = n := nI_clamp (by omega)
        have hsp : m.2.2 1 < 2 := by omega
        have cr : C5o (m.2.2 1) m (c10vC (m.2.2 1) (m.2.2 0) m (nI n)).2 := CR_10
        have z9 : ZZo (c10vC (m.2.2 1) (m.2.2 0) m (nI n)).2 (m.2.2 1) := vC_6 _ _ _ _
        have vt : ∀ X : MM, MCo m X → _ := fun X hX => yt_ok (c := m) (M := X) (g := m.2.2 1) (v := m.2.2 0) (F := F) (n := n) (B := B) (ns := ns) (nm := nm) (nt := nt) ⟨hF, hc, by rw [hX.1 12 0 (by omega)]; exact hm, hT.2.2.2.1, fun j hj => by rw [hX.1 59 0 (by omega)]; exact hT.2.2.2.2 j hj⟩ hn hO (by rw [hX.1 54 0 (by omega), hX.2 55 0 (by omega)]; exact ⟨⟨c13, a0, b1⟩, ⟨c14, a1, b2⟩, ⟨c15, a2, b3⟩, hG.2.2.2.2.2.1⟩)
        have go : ∀ X : MM, MCo m X → Fn_X12_years X [vR 12 0, vI (nI n)] = yrR X n := fun X hX => by
          have e : X.1 12 0 10 = nI F := by rw [hX.1 12 0 (by omega)]; exact hm
          rw [hf X e, if_pos ((bg_x e hF (by decide)).mpr ⟨n, hn, hn3, rfl⟩), en]
        unfold cl_ye1
        revert cr z9 vt
        generalize c10vC (m.2.2 1) (m.2.2 0) m (nI n) = P
        intro cr z9 vt
        obtain ⟨t, c⟩ := P
        have cr : C5o (m.2.2 1) m c := cr
        have z9 : ZZo c (m.2.2 1) := z9
        have cd : c.2.2 = m.2.2 := cr.2.2.2
        have mc : MCo m c := CR_MC cr
        show OKo m (if t = true then cl_ye2 (kfM c) else rfC (kfM c) 9) _
        have cnow : ∀ k, ¬ (k = 4 ∨ k = 7 ∨ k = 10 ∨ k = 49) → c.1 k (m.2.2 0) = m.1 k (m.2.2 0) := fun k hk => (cr.1 k _ hk (fun z => hne z.1)).trans (mRow_kk (by omega))
        by_cases ct : t = true
        · rw [if_pos ct]
          subst ct
          obtain ⟨X, eX⟩ : ∃ X, X = stC (ycM (kfM c) (m.2.2 0) (m.2.2 1)) 0 := ⟨_, rfl⟩
          have xo : ∀ k j, k ≠ 11 → ¬ (k = 9 ∨ (43 ≤ k ∧ k ≤ 48)) ∨ j ≠ m.2.2 0 → X.1 k j = c.1 k j := fun k j a b => by
            rw [eX]
            exact (mRow_kk a).trans ((yc_o b).trans ((mRow_kk a).trans (mRow_kk a)))
          have hX : MCo m X := ⟨fun k j hk => (xo k j (by omega) (Or.inl (by omega))).trans (mc.1 k j hk), fun k j hk => by
            rw [eX]; exact mc.2 k j hk⟩
          have x2e : X.2.2 = m.2.2 := by rw [eX]; exact cd
          have x11 : ∀ j, j ≠ 15 → X.1 11 0 j = (kfM c).1 11 0 j := fun j a => by
            rw [eX]
            exact (upd_ne a).trans (congrFun (yc_o (Or.inl (by decide))) j)
          have xL : X.2.1 = c.2.1 := by rw [eX]; rfl
          have kr : ∀ k j, k ≠ 11 → (kfM c).1 k j = c.1 k j := fun k j a => (mRow_kk a).trans (mRow_kk a)
          have x43 : ∀ x, 43 ≤ x → x ≤ 48 → ∀ k, k < 60 → X.1 x (m.2.2 0) k = c.1 x (m.2.2 1) k := fun x h1 h2 k hk => by
            rw [eX, show (stC (ycM (kfM c) (m.2.2 0) (m.2.2 1)) 0).1 x (m.2.2 0) = (ycM (kfM c) (m.2.2 0) (m.2.2 1)).1 x (m.2.2 0) from mRow_kk (by omega), yc_r _ _ _ x h1 h2, cp_at hk, kr x _ (by omega)]
          have x9 : X.1 9 (m.2.2 0) 6 = c.1 9 (m.2.2 1) 6 ∧ X.1 9 (m.2.2 0) 7 = c.1 9 (m.2.2 1) 7 ∧ X.1 9 (m.2.2 0) 8 = c.1 9 (m.2.2 1) 8 := by
            have z := yc_9 (m := kfM c) (g := m.2.2 0) (h := m.2.2 1) (fun w => hne w.symm)
            rw [kr 9 _ (by decide)] at z
            rw [eX, show (stC (ycM (kfM c) (m.2.2 0) (m.2.2 1)) 0).1 9 (m.2.2 0) = (ycM (kfM c) (m.2.2 0) (m.2.2 1)).1 9 (m.2.2 0) from mRow_kk (by decide)]
            exact z
          rcases vt X hX with ⟨-, v2, v3, v4, v7, v6, vb, L, v8, vP, vY, vN⟩ | ⟨v1, -⟩
          · have gX := go X hX
            unfold yrR at gX
            obtain ⟨zr, z55, -⟩ := YZ_ok X n
            revert v2 v3 v7 vb vP vN gX zr z55
            generalize yrE (yrD (yrL 901 (yrB X n))) = Z
            intro v2 v3 v7 vb vP vN gX zr z55
            have hL := vP.2.1
            have ec : cl_ye2 (kfM c) = (some (vI (Z.1 12 0 23)), X) := by
              unfold cl_ye2 cl_ye3
              have e1 : (kfM c).2.2 = m.2.2 := cd
              rw [e1]
              show (some (vI ((ycM (kfM c) (m.2.2 0) (m.2.2 1)).1 9 ((kfM c).2.2 0) 7)), stC (ycM (kfM c) (m.2.2 0) (m.2.2 1)) 0) = _
              rw [e1, ← eX, ← v7, ← x9.2.1, eX]
              rfl
            have eR : Fn_X12_years X [vR 12 0, vI (nI n)] = gvM (tnM Z) (Z.1 12 0 23) := by
              rw [gX]
              unfold tnR
              rw [if_neg (show ¬ 0 < Z.1 12 0 18 by rw [v2]; decide)]
            rw [ec]
            refine ⟨hX, ?_, ?_⟩
            · show _ = (Fn_X12_years X [vR 12 0, vI (nI n)]).1
              rw [eR]; rfl
            · show INV (Fn_X12_years X [vR 12 0, vI (nI n)]).2
              rw [eR]
              show INV (stM (tnM Z) 0)
              have yx : ∀ k j, k ≠ 12 → k ≠ 54 → k ≠ 60 → k ≠ 61 → (stM (tnM Z) 0).1 k j = X.1 k j := fun k j b d e f => ((mRow_kk b).trans (mRow_kk b)).trans (zr.1 k j b d e f)
              have y2 : (stM (tnM Z) 0).2.2 0 = m.2.2 0 := (congrFun zr.2.2.2.2.2.2 0).trans (congrFun x2e 0)
              have y54 : (stM (tnM Z) 0).1 54 0 = Z.1 54 0 := (mRow_kk (by decide)).trans (mRow_kk (by decide))
              have ym : ∀ k, k = 1 ∨ k = 6 ∨ (16 ≤ k ∧ k ≤ 19) ∨ (30 ≤ k ∧ k ≤ 39) → (stM (tnM Z) 0).1 k (m.2.2 0) = m.1 k (m.2.2 0) := fun k hk => (yx k _ (by omega) (by omega) (by omega) (by omega)).trans ((xo k _ (by omega) (Or.inl (by omega))).trans (cnow k (by omega)))
              have e54 : X.1 54 0 = m.1 54 0 := hX.1 54 0 (by omega)
              refine ⟨VA_ok (y := 0) h hsp cr (fun k j a b => xo k j a (hcv k j b)) x11 xL (by rw [x2e]; exact hd) zr (Or.inl ⟨v4, v2, v3⟩) (fun g hg => ?_) ⟨ns, nm, nt, ?_⟩, ?_⟩
              · unfold ZZo
                by_cases q : g = m.2.2 0
                · rw [q, x9.1]; exact z9
                · have q2 : g = m.2.2 1 := hg2 g hg q
                  rw [q2, xo 9 _ (by decide) (Or.inr (fun w => hne w.symm))]
                  exact z9
              · rw [y2, y54]
                refine VG_y hG (abV_d (fun k hk => ym k (by omega))) (ym 38 (by omega)) (ym 6 (by omega)) ?_ (fun j h1 h2 => ?_) (fun i hi => ?_) (Or.inr ⟨?_, L, ?_, vP, fun k hk => ?_, fun k hk => ?_⟩)
                · show Z.2.1 29 (m.2.2 0) = _
                  rw [zr.2.2.2.2.1 29 _ (by decide), xL, cr.2.2.1 29 _ (by decide) (fun z => hne z.2)]
                  rfl
                · rw [vb j h1 h2, e54]
                · show Z.2.1 55 0 i = _
                  rw [z55 i (by omega), hX.2 55 0 (by omega)]
                · rw [yx 9 _ (by decide) (by decide) (by decide) (by decide), x9.1]; exact v6
                · rw [yx 9 _ (by decide) (by decide) (by decide) (by decide), x9.2.2]; exact v8
                · have z := vY k hk
                  have r : ∀ x, 43 ≤ x → x ≤ 48 → (stM (tnM Z) 0).1 x (m.2.2 0) k = c.1 x (m.2.2 1) k := fun x h1 h2 => by
                    rw [yx x _ (by omega) (by omega) (by omega) (by omega)]; exact x43 x h1 h2 k (by omega)
                  unfold YLc at *
                  rw [r 43 (by decide) (by decide), r 44 (by decide) (by decide), r 45 (by decide) (by decide), r 48 (by decide) (by decide)]
                  exact z
                · refine LNo_a (vN k hk) (by omega) (fun x h1 h2 => ?_) (fun _ _ _ => rfl)
                  rw [yx x _ (by omega) (by omega) (by omega) (by omega)]; exact x43 x h1 h2 k (by omega)
              · have e1 : (stM (tnM Z) 0).1 11 0 = X.1 11 0 := yx 11 0 (by decide) (by decide) (by decide) (by decide)
                rw [e1, eX]
                show upd ((ycM (kfM c) (m.2.2 0) (m.2.2 1)).1 11 0) 15 0 15 = upd ((tnM Z).1 12 0) 2 0 2
                rw [upd_eq, upd_eq]
          · exact absurd (show true = false from v1) (by decide)
        · rw [if_neg ct]
          have ct : t = false := by cases t with
            | true => exact absurd rfl ct
            | false => rfl
          subst ct
          obtain ⟨X, eX⟩ : ∃ X, X = stC (kfM c) 9 := ⟨_, rfl⟩
          have hX : MCo m X := by rw [eX]; exact MC_t (kf_MC mc) MC_C
          have x2e : X.2.2 = m.2.2 := by rw [eX]; exact cd
          have xk : ∀ k j, k ≠ 11 → X.1 k j = c.1 k j := fun k j a => by rw [eX]; exact (mRow_kk a).trans ((mRow_kk a).trans (mRow_kk a))
          have x11 : ∀ j, j ≠ 15 → X.1 11 0 j = (kfM c).1 11 0 j := fun j a => by rw [eX]; exact upd_ne a
          have xL : X.2.1 = c.2.1 := by rw [eX]; rfl
          rcases vt X hX with ⟨v1, -⟩ | ⟨-, fa, v6⟩
          · exact absurd (show false = true from v1) (by decide)
          · have gX := go X hX
            unfold yrR at gX
            obtain ⟨zr, z55, zf⟩ := YZ_ok X n
            revert fa gX zr zf z55
            generalize yrE (yrD (yrL 901 (yrB X n))) = Z
            intro fa gX zr z55 zf
            obtain ⟨⟨k, k1, k9, e9, e18⟩, e17⟩ := fa
            have n18 : ¬ Z.1 12 0 18 = 0 := by rw [e18]; intro z; have := nI_inj (q := 0) (by omega) (by decide) z; omega
            have zf1 := zf n18
            have p18 : 0 < Z.1 12 0 18 := by rw [e18]; exact (nI_ltI (a := 0) (by decide) (by omega)).mpr (by omega)
            have eR : Fn_X12_years X [vR 12 0, vI (nI n)] = rfM (tnM Z) 9 := by
              rw [gX]
              unfold tnR
              rw [if_pos p18]
            have ec : rfC (kfM c) 9 = (some (vI (-1)), X) := by rw [eX]; rfl
            rw [ec]
            refine ⟨hX, ?_, ?_⟩
            · show _ = (Fn_X12_years X [vR 12 0, vI (nI n)]).1
              rw [eR]; rfl
            · show INV (Fn_X12_years X [vR 12 0, vI (nI n)]).2
              rw [eR]
              show INV (stM (tnM Z) 9)
              have yx : ∀ k j, k ≠ 11 → k ≠ 12 → k ≠ 54 → k ≠ 60 → k ≠ 61 → (stM (tnM Z) 9).1 k j = c.1 k j := fun k j a b d e f => ((mRow_kk b).trans (mRow_kk b)).trans ((zr.1 k j b d e f).trans (xk k j a))
              have y2 : (stM (tnM Z) 9).2.2 0 = m.2.2 0 := (congrFun zr.2.2.2.2.2.2 0).trans (congrFun x2e 0)
              have y54 : (stM (tnM Z) 9).1 54 0 = Z.1 54 0 := (mRow_kk (by decide)).trans (mRow_kk (by decide))
              have ym : ∀ k, k = 1 ∨ k = 6 ∨ k = 9 ∨ (16 ≤ k ∧ k ≤ 19) ∨ (30 ≤ k ∧ k ≤ 39) ∨ (43 ≤ k ∧ k ≤ 48) → (stM (tnM Z) 9).1 k (m.2.2 0) = m.1 k (m.2.2 0) := fun k hk => (yx k _ (by omega) (by omega) (by omega) (by omega) (by omega)).trans (cnow k (by omega))
              refine ⟨VA_ok (y := 9) h hsp cr (fun k j a _ => xk k j a) x11 xL (by rw [x2e]; exact hd) zr (Or.inr ⟨⟨k, k1, k9, e9, e18⟩, e17⟩) (fun g hg => ?_) ⟨ns, nm, nt, ?_⟩, ?_⟩
              · unfold ZZo
                rw [xk 9 g (by decide)]
                by_cases q : g = m.2.2 1
                · rw [q]; exact z9
                · rw [cr.1 9 g (by omega) (fun z => q z.1)]
                  exact hZ g (by omega)
              · rw [y2, y54]
                refine VG_c (c := m) (c' := stM (tnM Z) 9) hG ⟨abV_d (fun k hk => ym k (by omega)), fun t _ => by rw [ym 38 (by omega)], fun j _ _ => by rw [ym 6 (by omega)], fun j _ _ => by rw [ym 9 (by omega)], fun x x1 x2 k _ => by rw [ym x (by omega)], fun i _ => ?_⟩ (fun j hj => ?_) (fun j hj => ?_)
                · show Z.2.1 29 (m.2.2 0) i = _
                  rw [zr.2.2.2.2.1 29 _ (by decide), xL, cr.2.2.1 29 _ (by decide) (fun z => hne z.2)]
                  rfl
                · rw [zf1 j (by omega), hX.1 54 0 (by omega)]
                · show Z.2.1 55 0 j = _
                  rw [z55 j (by omega), hX.2 55 0 (by omega)]
              · have e1 : (stM (tnM Z) 9).1 11 0 = X.1 11 0 := ((mRow_kk (by decide)).trans (mRow_kk (by decide))).trans (zr.1 11 0 (by decide) (by decide) (by decide) (by decide))
                rw [e1, eX]
                show upd ((kfM c).1 11 0) 15 9 15 = upd ((tnM Z).1 12 0) 2 9 2
                rw [upd_eq, upd_eq]
      · rw [if_neg x3]
        refine no (fun ⟨n, _, h1, e⟩ => x3 ?_)
        rw [e]
        exact (nI_leI (b := 300) (by omega) (by omega)).mpr h1

end
