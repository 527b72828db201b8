/-! PART 9Z: says, likes, after, weekly, fair -/

noncomputable section
theorem VR_sc {c : MM} {g ns nm nt na : Nat} {A A' : Nat → Int32} {N : Nat → Int64} (h : VRo c g A N ns nm nt na) (hA : ∀ j, j ≠ 2547 → j ≠ 2548 → A' j = A j) : VRo c g A' N ns nm nt na := by
  obtain ⟨⟨⟨c1, c2, c3⟩, ⟨d1, d2, d3⟩, ⟨t1, t2, t3⟩, ⟨f1, f2, f3⟩⟩, ⟨⟨w0, w1, w2, w3, w4⟩, ⟨f, g1, g2, g3, g4⟩⟩, hS, hM, hT, hY, hL, ⟨z1, z2, z3, z4, z5⟩, hD, hN⟩ := h
  have lo : ∀ j, j < 2547 → A' j = A j := fun j h1 => hA j (by omega) (by omega)
  unfold VRo
  rw [lo 2040 (by omega), lo 2041 (by omega), lo 2042 (by omega), lo 2043 (by omega), lo 2044 (by omega), lo 2045 (by omega), lo 2046 (by omega), lo 2047 (by omega), lo 2048 (by omega), lo 2049 (by omega), lo 2050 (by omega)]
  refine ⟨⟨⟨c1, c2, c3⟩, ⟨d1, d2, d3⟩, ⟨t1, t2, t3⟩, ⟨f1, f2, f3⟩⟩, ⟨⟨w0, w1, w2, w3, w4⟩, ⟨f, g1, g2, g3, g4⟩⟩, fun s hs => ?_, fun d hd => ?_, fun t ht => ?_, fun t d ht hd => ?_, fun s d hs hd => ?_, ⟨z1, z2, z3, z4, z5⟩, hD, hN⟩
  · rw [lo (2052 + 4 * s) (by omega), lo (2053 + 4 * s) (by omega), lo (2054 + 4 * s) (by omega), lo (2055 + 4 * s) (by omega)]
    exact hS s hs
  · rw [lo (2068 + 4 * d) (by omega), lo (2069 + 4 * d) (by omega), lo (2070 + 4 * d) (by omega), lo (2071 + 4 * d) (by omega)]
    exact hM d hd
  · rw [lo (2084 + 3 * t) (by omega), lo (2085 + 3 * t) (by omega), lo (2086 + 3 * t) (by omega)]
    exact hT t ht
  · rw [lo (2120 + 4 * t + d) (by omega), lo (2085 + 3 * t) (by omega)]
    exact hY t d ht hd
  · rw [lo (2168 + 4 * s + d) (by omega)]
    exact hL s d hs hd
theorem VR_sy {c : MM} {g ns nm nt na t d w : Nat} {A : Nat → Int32} {N : Nat → Int64} (h : VRo c g A N ns nm nt na) (ht : t < nt) (hd : d < nm) (hw : w ≤ 99) : VRo (mRow c 39 g (upd (c.1 39 g) (nI t * 4 + nI d).toNatClampNeg (nI w))) g (upd A (2120 + 4 * t + d) (nI w)) N ns nm nt na := by
  obtain ⟨⟨⟨c1, c2, c3⟩, ⟨d1, d2, d3⟩, ⟨t1, t2, t3⟩, ⟨f1, f2, f3⟩⟩, hW, hS, hM, hT, hY, hL, hZ, hD, hN⟩ := h
  have eq : (nI t * 4 + nI d).toNatClampNeg = 4 * t + d := by
    rw [show (4 : Int32) = nI 4 from rfl, pk_mul, nI_add, nI_clamp (by omega)]
    omega
  rw [eq]
  have q39 : (mRow c 39 g (upd (c.1 39 g) (4 * t + d) (nI w))).1 39 g = upd (c.1 39 g) (4 * t + d) (nI w) := mRow_row _ 39 g _
  have qo : ∀ k, k ≠ 39 → (mRow c 39 g (upd (c.1 39 g) (4 * t + d) (nI w))).1 k g = c.1 k g := fun k n1 => if_neg (fun z => n1 z.1)
  have lo : ∀ j, j ≠ 2120 + 4 * t + d → upd A (2120 + 4 * t + d) (nI w) j = A j := fun j h1 => upd_ne h1
  unfold VRo
  rw [q39, qo 6 (by decide), qo 30 (by decide), qo 16 (by decide), qo 32 (by decide), qo 33 (by decide), qo 34 (by decide), qo 35 (by decide), qo 36 (by decide), qo 37 (by decide), qo 31 (by decide), qo 17 (by decide), qo 18 (by decide), qo 19 (by decide), qo 1 (by decide), qo 9 (by decide), lo 2040 (by omega), lo 2041 (by omega), lo 2042 (by omega), lo 2043 (by omega), lo 2044 (by omega), lo 2045 (by omega), lo 2046 (by omega), lo 2047 (by omega), lo 2048 (by omega), lo 2049 (by omega), lo 2050 (by omega)]
  refine ⟨⟨⟨c1, c2, c3⟩, ⟨d1, d2, d3⟩, ⟨t1, t2, t3⟩, ⟨f1, f2, f3⟩⟩, hW, fun s hs => ?_, fun d hd => ?_, fun t ht => ?_, fun t' d' ht' hd' => ?_, fun s d hs hd => ?_, hZ, hD, hN⟩
  · rw [lo (2052 + 4 * s) (by omega), lo (2053 + 4 * s) (by omega), lo (2054 + 4 * s) (by omega), lo (2055 + 4 * s) (by omega)]
    exact hS s hs
  · rw [lo (2068 + 4 * d) (by omega), lo (2069 + 4 * d) (by omega), lo (2070 + 4 * d) (by omega), lo (2071 + 4 * d) (by omega)]
    exact hM d hd
  · rw [lo (2084 + 3 * t) (by omega), lo (2085 + 3 * t) (by omega), lo (2086 + 3 * t) (by omega)]
    exact hT t ht
  · rw [lo (2085 + 3 * t') (by omega)]
    by_cases e : t' = t ∧ d' = d
    · obtain ⟨rfl, rfl⟩ := e
      rw [upd_eq, upd_eq]
      exact ⟨fun _ => Or.inr ⟨hd, w, hw, rfl, rfl⟩, fun z => absurd z (by omega)⟩
    · rw [upd_ne (show 4 * t' + d' ≠ 4 * t + d by omega), lo (2120 + 4 * t' + d') (by omega)]
      exact hY t' d' ht' hd'
  · rw [lo (2168 + 4 * s + d) (by omega)]
    exact hL s d hs hd
theorem VR_lk {c : MM} {g ns nm nt na s d w : Nat} {A : Nat → Int32} {N : Nat → Int64} (h : VRo c g A N ns nm nt na) (hs : s < 4) (hd : d < 4) (hw : w ≤ 99) : VRo (mRow c 31 g (upd (c.1 31 g) (nI s * 4 + nI d).toNatClampNeg (nI w))) g (upd A (2168 + 4 * s + d) (nI w)) N ns nm nt na := by
  obtain ⟨⟨⟨c1, c2, c3⟩, ⟨d1, d2, d3⟩, ⟨t1, t2, t3⟩, ⟨f1, f2, f3⟩⟩, hW, hS, hM, hT, hY, hL, hZ, hD, hN⟩ := h
  have eq : (nI s * 4 + nI d).toNatClampNeg = 4 * s + d := by
    rw [show (4 : Int32) = nI 4 from rfl, pk_mul, nI_add, nI_clamp (by omega)]
    omega
  rw [eq]
  have q31 : (mRow c 31 g (upd (c.1 31 g) (4 * s + d) (nI w))).1 31 g = upd (c.1 31 g) (4 * s + d) (nI w) := mRow_row _ 31 g _
  have qo : ∀ k, k ≠ 31 → (mRow c 31 g (upd (c.1 31 g) (4 * s + d) (nI w))).1 k g = c.1 k g := fun k n1 => if_neg (fun z => n1 z.1)
  have lo : ∀ j, j < 2168 → upd A (2168 + 4 * s + d) (nI w) j = A j := fun j h1 => upd_ne (by omega)
  unfold VRo
  rw [q31, qo 6 (by decide), qo 30 (by decide), qo 16 (by decide), qo 32 (by decide), qo 33 (by decide), qo 34 (by decide), qo 35 (by decide), qo 36 (by decide), qo 37 (by decide), qo 39 (by decide), qo 17 (by decide), qo 18 (by decide), qo 19 (by decide), qo 1 (by decide), qo 9 (by decide), lo 2040 (by omega), lo 2041 (by omega), lo 2042 (by omega), lo 2043 (by omega), lo 2044 (by omega), lo 2045 (by omega), lo 2046 (by omega), lo 2047 (by omega), lo 2048 (by omega), lo 2049 (by omega), lo 2050 (by omega)]
  refine ⟨⟨⟨c1, c2, c3⟩, ⟨d1, d2, d3⟩, ⟨t1, t2, t3⟩, ⟨f1, f2, f3⟩⟩, hW, fun s hs => ?_, fun d hd => ?_, fun t ht => ?_, fun t d ht hd => ?_, fun s' d' hs' hd' => ?_, hZ, hD, hN⟩
  · rw [lo (2052 + 4 * s) (by omega), lo (2053 + 4 * s) (by omega), lo (2054 + 4 * s) (by omega), lo (2055 + 4 * s) (by omega)]
    exact hS s hs
  · rw [lo (2068 + 4 * d) (by omega), lo (2069 + 4 * d) (by omega), lo (2070 + 4 * d) (by omega), lo (2071 + 4 * d) (by omega)]
    exact hM d hd
  · rw [lo (2084 + 3 * t) (by omega), lo (2085 + 3 * t) (by omega), lo (2086 + 3 * t) (by omega)]
    exact hT t ht
  · rw [lo (2120 + 4 * t + d) (by omega), lo (2085 + 3 * t) (by omega)]
    exact hY t d ht hd
  · by_cases e : s' = s ∧ d' = d
    · obtain ⟨rfl, rfl⟩ := e
      rw [upd_eq, upd_eq]
      exact ⟨w, hw, rfl, rfl⟩
    · rw [upd_ne (show 4 * s' + d' ≠ 4 * s + d by omega), upd_ne (show 2168 + 4 * s' + d' ≠ 2168 + 4 * s + d by omega)]
      exact hL s' d' hs' hd'
theorem VR_af {c : MM} {g ns nm nt na l s : Nat} {A : Nat → Int32} {N : Nat → Int64} (h : VRo c g A N ns nm nt na) (hl : l < nt) (hs : s < nt) (hna : na < 12) (ho : c.1 35 g l = c.1 35 g s) : VRo (c7aM c g (nI l) (nI s)) g (upd (upd A (2086 + 3 * l) (A (2086 + 3 * l) ||| 1 <<< (nI s &&& 31))) 2043 (nI (na + 1))) N ns nm nt (na + 1) := by
  obtain ⟨⟨⟨c1, c2, c3⟩, ⟨d1, d2, d3⟩, ⟨t1, t2, t3⟩, ⟨f1, f2, f3⟩⟩, ⟨⟨w0, w1, w2, w3, w4⟩, ⟨f, g1, g2, g3, g4⟩⟩, hS, hM, hT, hY, hL, hZ, ⟨u1, u2, u3, u4, u5, u6⟩, hN⟩ := h
  have el : (nI l).toNatClampNeg = l := nI_clamp (by omega)
  have q6 : (c7aM c g (nI l) (nI s)).1 6 g = upd (c.1 6 g) 16 (c.1 6 g 16 + 1) := mRow_row _ 6 g _
  have q37 : (c7aM c g (nI l) (nI s)).1 37 g = upd (c.1 37 g) l (c.1 37 g l ||| 1 <<< (nI s &&& 31)) := by
    have : (c7aM c g (nI l) (nI s)).1 37 g = upd (c.1 37 g) (nI l).toNatClampNeg (c.1 37 g (nI l).toNatClampNeg ||| 1 <<< (nI s &&& 31)) := mRow_row c 37 g _
    rw [this, el]
  have qo : ∀ k, k ≠ 6 → k ≠ 37 → (c7aM c g (nI l) (nI s)).1 k g = c.1 k g := fun k n1 n2 => (if_neg (fun z => n1 z.1)).trans (if_neg (fun z => n2 z.1))
  have lo : ∀ j, j ≠ 2043 → j ≠ 2086 + 3 * l → upd (upd A (2086 + 3 * l) (A (2086 + 3 * l) ||| 1 <<< (nI s &&& 31))) 2043 (nI (na + 1)) j = A j := fun j h1 h2 => by rw [upd_ne h1, upd_ne h2]
  have lm : upd (upd A (2086 + 3 * l) (A (2086 + 3 * l) ||| 1 <<< (nI s &&& 31))) 2043 (nI (na + 1)) (2086 + 3 * l) = A (2086 + 3 * l) ||| 1 <<< (nI s &&& 31) := by rw [upd_ne (by omega), upd_eq]
  unfold VRo
  rw [q6, q37, qo 30 (by decide) (by decide), qo 16 (by decide) (by decide), qo 32 (by decide) (by decide), qo 33 (by decide) (by decide), qo 34 (by decide) (by decide), qo 35 (by decide) (by decide), qo 36 (by decide) (by decide), qo 39 (by decide) (by decide), qo 31 (by decide) (by decide), qo 17 (by decide) (by decide), qo 18 (by decide) (by decide), qo 19 (by decide) (by decide), qo 1 (by decide) (by decide), qo 9 (by decide) (by decide), lo 2040 (by omega) (by omega), lo 2041 (by omega) (by omega), lo 2042 (by omega) (by omega), lo 2044 (by omega) (by omega), lo 2045 (by omega) (by omega), lo 2046 (by omega) (by omega), lo 2047 (by omega) (by omega), lo 2048 (by omega) (by omega), lo 2049 (by omega) (by omega), lo 2050 (by omega) (by omega)]
  refine ⟨⟨⟨by rw [upd_ne (by decide)]; exact c1, c2, c3⟩, ⟨by rw [upd_ne (by decide)]; exact d1, d2, d3⟩, ⟨by rw [upd_ne (by decide)]; exact t1, t2, t3⟩, ⟨by rw [upd_eq, f1, nI_1], upd_eq, by omega⟩⟩, ⟨⟨w0, w1, w2, by rw [upd_ne (by decide)]; exact w3, w4⟩, ⟨f, g1, g2, by rw [upd_ne (by decide)]; exact g3, g4⟩⟩, fun s' hs' => ?_, fun d hd => ?_, fun t ht => ?_, fun t d ht hd => ?_, fun s' d hs' hd => ?_, hZ, ⟨u1, u2, u3, u4, by rw [upd_ne (by decide)]; exact u5, u6⟩, hN⟩
  · rw [lo (2052 + 4 * s') (by omega) (by omega), lo (2053 + 4 * s') (by omega) (by omega), lo (2054 + 4 * s') (by omega) (by omega), lo (2055 + 4 * s') (by omega) (by omega)]
    exact hS s' hs'
  · rw [lo (2068 + 4 * d) (by omega) (by omega), lo (2069 + 4 * d) (by omega) (by omega), lo (2070 + 4 * d) (by omega) (by omega), lo (2071 + 4 * d) (by omega) (by omega)]
    exact hM d hd
  · rw [lo (2084 + 3 * t) (by omega) (by omega), lo (2085 + 3 * t) (by omega) (by omega)]
    obtain ⟨h1, F, hF, eF, eA, hb⟩ := hT t ht
    refine ⟨h1, ?_⟩
    by_cases e : t = l
    · rw [e] at eF eA hb ⊢
      rw [upd_eq, lm, eF, eA, or_bit (by omega)]
      refine ⟨F ||| 2 ^ s, or_lt (n := 12) hF (Nat.pow_lt_pow_right (by omega) (by omega)), rfl, rfl, fun o h2 => ?_⟩
      rcases (or_bt F s o).mp h2 with z | z
      · exact hb o z
      · rw [z]; exact ⟨hl, hs, ho.symm⟩
    · rw [upd_ne e, lo (2086 + 3 * t) (by omega) (by omega)]
      exact ⟨F, hF, eF, eA, hb⟩
  · rw [lo (2120 + 4 * t + d) (by omega) (by omega), lo (2085 + 3 * t) (by omega) (by omega)]
    exact hY t d ht hd
  · rw [lo (2168 + 4 * s' + d) (by omega) (by omega)]
    exact hL s' d hs' hd
theorem sy_ok {g : Nat} {c M : MM} (h : VLo g c M) : RB2 (VLo g) (c7yC g c) (pBd (pSy M) sgE) := by
  have h0 := h
  have hRU := RU_st (VL_RU h)
  obtain ⟨-, -, -, ⟨ns, nm, nt, na, hV⟩, -⟩ := h
  have hV0 := hV
  obtain ⟨⟨⟨c1, c2, c3⟩, ⟨d1, d2, d3⟩, ⟨t1, t2, t3⟩, -⟩, -, -, -, -, -, -, -, -, hN⟩ := hV
  unfold c7yC pSy
  rw [pBd_as, hRU.2.1.1 6 g (by decide), t1, t2, nI_clamp (show nt < 2 ^ 31 by omega)]
  refine RB_bi (me_ol (f := 8) (b := 88) (n := nt) (t := 2547) hRU (by omega) (fun i hi => hN.2.2.1 i hi)) (fun v1 ca Ma ⟨t, ht, e1, h1⟩ => ?_)
  unfold c7yA syA1
  rw [pBd_as]
  refine RB_bd (sk_ww (i := 11) h1 (by decide)) (fun cb Mb h2 => ?_)
  unfold c7yB syB
  rw [pBd_as, h2.2.1.1 6 g (by decide), d1, h2.2.2.2.2.1, upd_ne (show 2041 ≠ 2547 by decide), d2, nI_clamp (show nm < 2 ^ 31 by omega)]
  refine RB_bi (me_ol (f := 4) (b := 84) (n := nm) (t := 2548) h2 (by omega) (fun i hi => hN.2.1 i hi)) (fun v3 cc Mc ⟨d, hd, e3, h3⟩ => ?_)
  unfold c7yD syC
  rw [h3.2.2.2.2.1, upd_ne (show 2547 ≠ 2548 by decide), upd_eq, upd_eq, e1, e3, nI_clamp (show t < 2 ^ 31 by omega), nI_clamp (show d < 2 ^ 31 by omega)]
  rw [e1, e3] at h3
  refine RB_bi (am_nu (lo := 0) (hi := 99) (t := 2120 + 4 * t + d) h3 (by decide) (by decide)) (fun v4 cd Md ⟨w, _, hw, e4, h4⟩ => ?_)
  unfold c7yE
  rw [e4] at h4 ⊢
  refine RB_e (sk_sg h4) (fun ce Me h5 => ⟨rfl, ?_⟩)
  refine VL_mk h0 h5 (fun k j hk => if_neg (fun z => by omega)) (fun k j hk => rfl) (VR_sy (VR_sc (VR_s hV0 h5.2.1) (fun j j1 j2 => ?_)) ht hd hw)
  rw [upd_ne j2, upd_ne j1]
theorem lk_ok {g : Nat} {c M : MM} (h : VLo g c M) : RB2 (VLo g) (c7lC g c) (pBd (pLk M) sgE) := by
  have h0 := h
  have hRU := RU_st (VL_RU h)
  obtain ⟨-, -, -, ⟨ns, nm, nt, na, hV⟩, -⟩ := h
  have hV0 := hV
  obtain ⟨⟨⟨c1, c2, c3⟩, ⟨d1, d2, d3⟩, ⟨t1, t2, t3⟩, -⟩, -, -, -, -, -, -, -, -, hN⟩ := hV
  unfold c7lC pLk
  rw [pBd_as, hRU.2.1.1 6 g (by decide), c1, c2, nI_clamp (show ns < 2 ^ 31 by omega)]
  refine RB_bi (me_ol (f := 0) (b := 80) (n := ns) (t := 2547) hRU (by omega) (fun i hi => by rw [Nat.zero_add]; exact hN.1 i hi)) (fun v1 ca Ma ⟨t, ht, e1, h1⟩ => ?_)
  unfold c7lB lkB
  rw [pBd_as, h1.2.1.1 6 g (by decide), d1, h1.2.2.2.2.1, upd_ne (show 2041 ≠ 2547 by decide), d2, nI_clamp (show nm < 2 ^ 31 by omega)]
  refine RB_bi (me_ol (f := 4) (b := 84) (n := nm) (t := 2548) h1 (by omega) (fun i hi => hN.2.1 i hi)) (fun v3 cc Mc ⟨d, hd, e3, h3⟩ => ?_)
  unfold c7lD lkC
  rw [h3.2.2.2.2.1, upd_ne (show 2547 ≠ 2548 by decide), upd_eq, upd_eq, e1, e3, nI_clamp (show t < 2 ^ 31 by omega), nI_clamp (show d < 2 ^ 31 by omega)]
  rw [e1, e3] at h3
  refine RB_bi (am_nu (lo := 0) (hi := 99) (t := 2168 + 4 * t + d) h3 (by decide) (by decide)) (fun v4 cd Md ⟨w, _, hw, e4, h4⟩ => ?_)
  unfold c7lE
  rw [e4] at h4 ⊢
  refine RB_e (sk_sg h4) (fun ce Me h5 => ⟨rfl, ?_⟩)
  refine VL_mk h0 h5 (fun k j hk => if_neg (fun z => by omega)) (fun k j hk => rfl) (VR_lk (VR_sc (VR_s hV0 h5.2.1) (fun j j1 j2 => ?_)) (by omega) (by omega) hw)
  rw [upd_ne j2, upd_ne j1]
theorem af_ok {g : Nat} {c M : MM} (h : VLo g c M) (hn1 : ¬ M.1 12 0 12 = 1) : RB2 (VLo g) (c7aC g c) (pBd (pAf M) sgE) := by
  have h0 := h
  have hRU := RU_st (VL_RU h)
  obtain ⟨-, -, -, ⟨ns, nm, nt, na, hV⟩, -⟩ := h
  have hV0 := hV
  obtain ⟨⟨⟨c1, c2, c3⟩, ⟨d1, d2, d3⟩, ⟨t1, t2, t3⟩, ⟨f1, f2, f3⟩⟩, -, -, -, hT, -, -, -, -, hN⟩ := hV
  unfold c7aC pAf
  rw [f1, f2]
  by_cases x : na = 12
  · rw [if_neg (by rw [x]; decide), if_pos (by rw [x]; rfl)]
    exact Or.inr ⟨rfl, rfl, fa_k (k := 6) h0.1 h0.2.2.1 (by decide) (by decide) hn1⟩
  · rw [if_pos (show nI na < 12 from (nI_ltI (by omega) (by decide)).mpr (show na < 12 by omega)), if_neg (show ¬ nI na = 12 from fun z => x (nI_inj (q := 12) (by omega) (by decide) z)), pBd_as, hRU.2.1.1 6 g (by decide), t1, t2, nI_clamp (show nt < 2 ^ 31 by omega)]
    refine RB_bi (me_ol (f := 8) (b := 88) (n := nt) (t := 2547) hRU (by omega) (fun i hi => hN.2.2.1 i hi)) (fun v1 ca Ma ⟨l, hl, e1, h1⟩ => ?_)
    unfold c7aA afB
    have e54 := h1.2.2.2.2.1
    have e47 : Ma.1 54 0 2547 = nI l := by rw [e54, upd_eq, e1]
    have eo : ∀ j, j ≠ 2547 → Ma.1 54 0 j = M.1 54 0 j := fun j hj => by rw [e54, upd_ne hj]
    have e42 : (Ma.1 54 0 2042).toNatClampNeg = nt := by rw [eo _ (by decide), t2, nI_clamp (by omega)]
    rw [h1.2.1.1 6 g (by decide), t1, e42, nI_clamp (show nt < 2 ^ 31 by omega)]
    have own : ∀ t, t < nt → c.1 35 g t = M.1 54 0 (2084 + 3 * t) := fun t ht => by
      obtain ⟨o, -, q1, q2⟩ := ((hT t (by omega)).1 ht).1
      rw [q1, q2]
    rcases fd_ol (g := g) (f := 8) (b := 88) (n := nt) h1 (by omega) (fun i hi => hN.2.2.1 i hi) with ⟨s, hs, hn, q1, q2⟩ | ⟨q1, hn, q2, q3⟩ | ⟨q1, hn, q3⟩
    · have p0 : ¬ ((nI s, ca) : Int32 × MM).1 < 0 := n_m1 (v := s) (by omega)
      rw [q1, pBi_t p0]
      have cnd : afP Ma nt ↔ (nI l = nI s ∨ ¬ ca.1 35 g l = ca.1 35 g s) := by
        unfold afP
        rw [q2, e47, nI_clamp (by omega), nI_clamp (by omega), eo _ (by omega), eo _ (by omega), h1.2.1.1 35 g (by decide), own l hl, own s hs]
        exact ⟨fun z => z.2.2, fun z => ⟨hn, nI_n1 (by omega), z⟩⟩
      show RB2 (VLo g) (c7aB g v1 (nI s) ca) _
      unfold c7aB
      rw [e1, nI_clamp (show l < 2 ^ 31 by omega), nI_clamp (show s < 2 ^ 31 by omega)]
      by_cases z : afP Ma nt
      · rw [if_pos (cnd.mp z), if_pos z]
        exact Or.inr ⟨rfl, rfl, fa_k (k := 5) h1.1 h1.2.2.2.1 (by decide) (by decide) (by rw [hn.1]; decide)⟩
      · rw [if_neg (fun y => z (cnd.mpr y)), if_neg z]
        have eP : pOl Ma 88 nt 2548 = (true, ahM (mI Ma 54 0 2548 (nI s))) := by
          unfold pOl
          rw [if_pos hn, q2, if_neg (nI_n1 (by omega))]
        rw [pBd_as, eP, pBd_tt]
        unfold afC
        rw [pBd_tt, e47, nI_clamp (show l < 2 ^ 31 by omega)]
        have h2 := RU_st (RU_54 h1 2548 (nI s))
        have hso : ca.1 35 g l = ca.1 35 g s := Decidable.byContradiction (fun y => z (cnd.mpr (Or.inr y)))
        rw [h1.2.1.1 35 g (by decide)] at hso
        have e54' := h2.2.2.2.2.1
        unfold afE
        have eb : (ahM (mI Ma 54 0 2548 (nI s))).1 54 0 (2086 + 3 * l) = M.1 54 0 (2086 + 3 * l) := by rw [e54', upd_ne (by omega), upd_ne (by omega)]
        have ec : (ahM (mI Ma 54 0 2548 (nI s))).1 54 0 2548 = nI s := by rw [e54', upd_eq]
        have ed : (mI (ahM (mI Ma 54 0 2548 (nI s))) 54 0 (2086 + 3 * l) (M.1 54 0 (2086 + 3 * l) ||| 1 <<< (nI s &&& 31))).1 54 0 2043 + 1 = nI (na + 1) := by
          show upd ((ahM (mI Ma 54 0 2548 (nI s))).1 54 0) (2086 + 3 * l) _ 2043 + 1 = _
          rw [upd_ne (by omega), e54', upd_ne (by omega), upd_ne (by omega), f2, nI_1]
        rw [eb, ec]
        have ed' : (ahM (mI Ma 54 0 2548 (nI s))).1 54 0 2043 + 1 = nI (na + 1) := by
          rw [e54', upd_ne (by omega), upd_ne (by omega), f2, nI_1]
        first | rw [ed] | rw [ed']
        refine RB_e (sk_sg (RU_54 (RU_54 h2 (2086 + 3 * l) (M.1 54 0 (2086 + 3 * l) ||| 1 <<< (nI s &&& 31))) 2043 (nI (na + 1)))) (fun ce Me h5 => ⟨rfl, ?_⟩)
        refine VL_mk (ns := ns) (nm := nm) (nt := nt) (na := na + 1) h0 h5 (fun k j hk => ?_) (fun k j hk => rfl) ?_
        · exact (if_neg (fun z => by omega)).trans (if_neg (fun z => by omega))
        · have hA : upd (upd (M.1 54 0) 2547 v1) 2548 (nI s) (2086 + 3 * l) = M.1 54 0 (2086 + 3 * l) := by rw [upd_ne (by omega), upd_ne (by omega)]
          rw [← hA]
          exact VR_af (VR_sc (VR_s hV0 h5.2.1) (fun j j1 j2 => by rw [upd_ne j2, upd_ne j1])) hl hs (by omega) (by rw [h5.2.1.1 35 g (by decide)]; exact hso)
    · have na' : ¬ afP Ma nt := fun z => z.2.1 q2
      have eP : pOl Ma 88 nt 2548 = (false, faM (mI Ma 54 0 2548 (-1)) 3) := by
        unfold pOl
        rw [if_pos hn, q2, if_pos rfl]
      rw [pBi_f (by rw [q1]; decide), if_neg na', pBd_as, eP]
      exact Or.inr ⟨rfl, rfl, fa_54 q3⟩
    · have na' : ¬ afP Ma nt := fun z => hn z.1
      have eP : pOl Ma 88 nt 2548 = (false, faM Ma 2) := by
        unfold pOl
        rw [if_neg hn]
      rw [pBi_f (by rw [q1]; decide), if_neg na', pBd_as, eP]
      exact Or.inr ⟨rfl, rfl, q3⟩

end
