/-! PART 9Y: a valley's further parts are read alike -/

noncomputable section
/-! a maid -/
theorem mtR_at (f : Nat → Int32) {n : Nat} (hn : n < 4) : ∀ k, k ≤ 12 → (∀ t, t < k → mtR f n k (2120 + 4 * t + n) = f (2085 + 3 * t)) ∧ ∀ j, (∀ t, t < k → j ≠ 2120 + 4 * t + n) → mtR f n k j = f j
  | 0, _ => ⟨fun t ht => absurd ht (by omega), fun _ _ => rfl⟩
  | k + 1, hk => by
    obtain ⟨h1, h2⟩ := mtR_at f hn k (by omega)
    refine ⟨fun t ht => ?_, fun j hj => ?_⟩
    · show upd (mtR f n k) (2120 + 4 * k + n) (mtR f n k (2085 + 3 * k)) (2120 + 4 * t + n) = _
      by_cases c : t = k
      · rw [c, upd_eq, mtR_lo f n k (2085 + 3 * k) (by omega)]
      · rw [upd_ne (by omega), h1 t (by omega)]
    · show upd (mtR f n k) (2120 + 4 * k + n) (mtR f n k (2085 + 3 * k)) j = _
      rw [upd_ne (hj k (by omega)), h2 j (fun t ht => hj t (by omega))]
theorem VR_ma {c : MM} {g ns nm nt na : Nat} {A A' : Nat → Int32} {N : Nat → Int64} {x y : Int64} {b r o : Int32} (h : VRo c g A N ns nm nt na) (hn : nm < 4) (hxy : RNo x y) (A0 : A' 2041 = nI (nm + 1)) (A1 : A' (2068 + 4 * nm) = b) (A2 : A' (2069 + 4 * nm) = r) (A3 : A' (2070 + 4 * nm) = o) (A4 : A' (2071 + 4 * nm) = -1) (A5 : ∀ t, t < nt → A' (2120 + 4 * t + nm) = A (2085 + 3 * t)) (AA : ∀ j, j ≠ 2041 → (j < 2068 + 4 * nm ∨ 2071 + 4 * nm < j) → (∀ t, t < nt → j ≠ 2120 + 4 * t + nm) → A' j = A j) : VRo (c7mM c g x b r o) g A' (vp_updL N (80 + 4 + nm) y) ns (nm + 1) nt na := by
  obtain ⟨⟨⟨c1, c2, c3⟩, ⟨d1, d2, d3⟩, ⟨t1, t2, t3⟩, ⟨f1, f2, f3⟩⟩, ⟨⟨w, w1, w2, w3, w4⟩, ⟨f, g1, g2, g3, g4⟩⟩, hS, hM, hT, hY, hL, ⟨z1, z2, z3, z4, z5⟩, ⟨u1, u2, u3, u4, u5, u6⟩, hN⟩ := h
  have ec : (c.1 6 g 14).toNatClampNeg = nm := by rw [d1, nI_clamp (by omega)]
  have ec4 : (4 + c.1 6 g 14).toNatClampNeg = 4 + nm := by rw [d1, show (4 : Int32) = nI 4 from rfl, nI_add, nI_clamp (by omega)]
  have q6 : (c7mM c g x b r o).1 6 g = upd (c.1 6 g) 14 (c.1 6 g 14 + 1) := mRow_row _ 6 g _
  have q32 : (c7mM c g x b r o).1 32 g = upd (c.1 32 g) nm b := by
    rw [← ec]
    exact mRow_row (mRowL c 29 g (vp_updL (c.2.1 29 g) (4 + c.1 6 g 14).toNatClampNeg x)) 32 g _
  have q33 : (c7mM c g x b r o).1 33 g = upd (c.1 33 g) nm r := by
    rw [← ec]
    exact mRow_row (mRow (mRowL c 29 g (vp_updL (c.2.1 29 g) (4 + c.1 6 g 14).toNatClampNeg x)) 32 g (upd (c.1 32 g) (c.1 6 g 14).toNatClampNeg b)) 33 g _
  have q34 : (c7mM c g x b r o).1 34 g = upd (c.1 34 g) nm o := by
    rw [← ec]
    exact mRow_row (mRow (mRow (mRowL c 29 g (vp_updL (c.2.1 29 g) (4 + c.1 6 g 14).toNatClampNeg x)) 32 g (upd (c.1 32 g) (c.1 6 g 14).toNatClampNeg b)) 33 g (upd (c.1 33 g) (c.1 6 g 14).toNatClampNeg r)) 34 g _
  have q29 : (c7mM c g x b r o).2.1 29 g = vp_updL (c.2.1 29 g) (4 + nm) x := by
    rw [← ec4]
    exact if_pos ⟨rfl, rfl⟩
  have qo : ∀ k, k ≠ 6 → k ≠ 32 → k ≠ 33 → k ≠ 34 → (c7mM c g x b r o).1 k g = c.1 k g := fun k n1 n2 n3 n4 => (if_neg (fun z => n1 z.1)).trans ((if_neg (fun z => n4 z.1)).trans ((if_neg (fun z => n3 z.1)).trans (if_neg (fun z => n2 z.1))))
  unfold VRo NWo
  rw [q6, q32, q33, q34, q29, qo 30 (by decide) (by decide) (by decide) (by decide), qo 16 (by decide) (by decide) (by decide) (by decide), qo 35 (by decide) (by decide) (by decide) (by decide), qo 36 (by decide) (by decide) (by decide) (by decide), qo 37 (by decide) (by decide) (by decide) (by decide), qo 39 (by decide) (by decide) (by decide) (by decide), qo 31 (by decide) (by decide) (by decide) (by decide), qo 17 (by decide) (by decide) (by decide) (by decide), qo 18 (by decide) (by decide) (by decide) (by decide), qo 19 (by decide) (by decide) (by decide) (by decide), qo 1 (by decide) (by decide) (by decide) (by decide), qo 9 (by decide) (by decide) (by decide) (by decide)]
  have lo : ∀ j, j ≠ 2041 → j < 2068 → A' j = A j := fun j h1 h2 => AA j h1 (by omega) (fun t _ => by omega)
  have mi : ∀ j, 2084 ≤ j → j < 2120 → A' j = A j := fun j h1 h2 => AA j (by omega) (by omega) (fun t _ => by omega)
  have hi : ∀ j, 2168 ≤ j → A' j = A j := fun j h1 => AA j (by omega) (by omega) (fun t _ => by omega)
  refine ⟨⟨⟨by rw [upd_ne (by decide)]; exact c1, by rw [lo _ (by omega) (by omega)]; exact c2, c3⟩, ⟨by rw [upd_eq, d1, nI_1], A0, by omega⟩, ⟨by rw [upd_ne (by decide)]; exact t1, by rw [lo _ (by omega) (by omega)]; exact t2, t3⟩, ⟨by rw [upd_ne (by decide)]; exact f1, by rw [lo _ (by omega) (by omega)]; exact f2, f3⟩⟩, ⟨⟨w, w1, w2, by rw [upd_ne (by decide)]; exact w3, by rw [lo _ (by omega) (by omega)]; exact w4⟩, ⟨f, g1, g2, by rw [upd_ne (by decide)]; exact g3, by rw [lo _ (by omega) (by omega)]; exact g4⟩⟩, fun s hs => ?_, fun d hd => ?_, fun t ht => ?_, fun t d ht hd => ?_, fun s d hs hd => ?_, ⟨by rw [lo _ (by omega) (by omega)]; exact z1, by rw [lo _ (by omega) (by omega)]; exact z2, by rw [lo _ (by omega) (by omega)]; exact z3, by rw [lo _ (by omega) (by omega)]; exact z4, by rw [lo _ (by omega) (by omega)]; exact z5⟩, ⟨u1, u2, u3, u4, by rw [upd_ne (by decide)]; exact u5, u6⟩, ?_⟩
  · rw [lo (2052 + 4 * s) (by omega) (by omega), lo (2053 + 4 * s) (by omega) (by omega), lo (2054 + 4 * s) (by omega) (by omega), lo (2055 + 4 * s) (by omega) (by omega)]
    exact hS s hs
  · by_cases e : d = nm
    · rw [e, upd_eq, upd_eq, upd_eq, A1, A2, A3, A4]
      exact ⟨fun _ => ⟨rfl, rfl, rfl, rfl⟩, fun z => absurd z (by omega)⟩
    · have a1 : ∀ q, q < 4 → A' (2068 + 4 * d + q) = A (2068 + 4 * d + q) := fun q hq => AA _ (by omega) (by omega) (fun t _ => by omega)
      rw [upd_ne e, upd_ne e, upd_ne e, show 2068 + 4 * d = 2068 + 4 * d + 0 from rfl, a1 0 (by omega), show 2069 + 4 * d = 2068 + 4 * d + 1 by omega, a1 1 (by omega), show 2070 + 4 * d = 2068 + 4 * d + 2 by omega, a1 2 (by omega), show 2071 + 4 * d = 2068 + 4 * d + 3 by omega, a1 3 (by omega), show 2068 + 4 * d + 1 = 2069 + 4 * d by omega, show 2068 + 4 * d + 2 = 2070 + 4 * d by omega, show 2068 + 4 * d + 3 = 2071 + 4 * d by omega]
      exact ⟨fun z => (hM d hd).1 (by omega), fun z => (hM d hd).2 (by omega)⟩
  · rw [mi (2084 + 3 * t) (by omega) (by omega), mi (2085 + 3 * t) (by omega) (by omega), mi (2086 + 3 * t) (by omega) (by omega)]
    exact hT t ht
  · rw [mi (2085 + 3 * t) (by omega) (by omega)]
    obtain ⟨y1, y2⟩ := hY t d ht hd
    refine ⟨fun z => ?_, y2⟩
    by_cases e : d = nm
    · rw [e, A5 t z]
      rcases y1 z with q | ⟨q, -⟩
      · exact Or.inl ⟨by rw [← e]; exact q.1, rfl⟩
      · omega
    · rw [AA (2120 + 4 * t + d) (by omega) (by omega) (fun t' _ => by omega)]
      exact (y1 z).imp id (fun q => ⟨by omega, q.2⟩)
  · rw [hi (2168 + 4 * s + d) (by omega)]
    exact hL s d hs hd
  · obtain ⟨n1, n2, n3, n4⟩ := hN
    refine ⟨fun i hi => ?_, fun i hi => ?_, fun i hi => ?_, fun i hi z => ?_⟩
    · rw [updL_ne (by omega), updL_ne (by omega)]; exact n1 i hi
    · by_cases e : i = nm
      · rw [updL_is (by omega), updL_is (by omega)]; exact hxy
      · rw [updL_ne (by omega), updL_ne (by omega)]; exact n2 i (by omega)
    · rw [updL_ne (by omega), updL_ne (by omega)]; exact n3 i hi
    · rw [updL_ne (by omega)]; exact n4 i hi (by omega)
theorem ma_ok {g : Nat} {c M : MM} (h : VLo g c M) (hn1 : ¬ M.1 12 0 12 = 1) : RB2 (VLo g) (c7mC g c) (pBd (pMa M) sgE) := by
  have h0 := h
  have hRU := VL_RU h
  obtain ⟨-, -, -, ⟨ns, nm, nt, na, hV⟩, -⟩ := h
  have hV0 := hV
  obtain ⟨⟨⟨c1, c2, c3⟩, ⟨d1, d2, d3⟩, ⟨t1, t2, t3⟩, -⟩, -, -, hM, -, -, -, -, -, hN⟩ := hV
  unfold c7mC pMa
  rw [pBd_as, d1, d2, nI_clamp (show nm < 2 ^ 31 by omega)]
  by_cases x : nm = 4
  · have e : pNw M 1 4 4 = (false, faM M 6) := by unfold pNw; rw [show (2040 + 1 : Nat) = 2041 from rfl, d2, x]; exact if_pos rfl
    rw [if_neg (by rw [x]; decide), e]
    exact Or.inr ⟨rfl, rfl, fa_k (k := 6) h0.1 h0.2.2.1 (by decide) (by decide) hn1⟩
  · rw [if_pos (show nI nm < 4 from (nI_ltI (by omega) (by decide)).mpr (show nm < 4 by omega))]
    refine RB_bl (nw_nw (k := 4) (q := 1) (most := 4) hRU c3 d3 t3 c2 d2 t2 hN d2 (by omega) (by decide)) (fun v ca Ma ⟨y, hy, h1⟩ => ?_)
    unfold c7mA maA
    rw [pBd_as]
    refine RB_bd (sk_ww (i := 4) h1 (by decide)) (fun cb Mb h2 => ?_)
    unfold c7mB maA2
    rw [pBd_as]
    refine RB_bi (am_nu (lo := 0) (hi := 999) (t := 2068 + 4 * nm) h2 (by decide) (by decide)) (fun v3 cc Mc ⟨b, _, hb, e3, h3⟩ => ?_)
    unfold c7mD maB
    rw [pBd_as]
    have hz := (hM nm (by omega)).2 (Nat.le_refl _)
    refine RB_bi (op_op (i := 5) (w := 0) (hi := 20) (RU_54 h3 (2068 + 4 * nm + 3) (-1)) (by decide) (by decide) (by decide) (by rw [upd_ne (by omega), upd_ne (by omega), show 2068 + 4 * nm + 1 = 2069 + 4 * nm by omega, hz.1]; rfl)) (fun v4 cd Md ⟨r, hr, e4, h4⟩ => ?_)
    unfold c7mE maC
    rw [pBd_as]
    refine RB_bi (op_op (i := 6) (w := 0) (hi := 9) h4 (by decide) (by decide) (by decide) (by rw [upd_ne (by omega), upd_ne (by omega), upd_ne (by omega), show 2068 + 4 * nm + 2 = 2070 + 4 * nm by omega, hz.2]; rfl)) (fun v5 ce Me ⟨o, ho, e5, h5⟩ => ?_)
    unfold c7mF maD
    rw [pBd_tt]
    unfold maE
    have e54 := h5.2.2.2.2.1
    have eB : ∀ j, (j < 2068 + 4 * nm ∨ 2071 + 4 * nm < j) → Me.1 54 0 j = M.1 54 0 j := fun j hj => by
      rw [e54, upd_ne (by omega), upd_ne (by omega), upd_ne (by omega), upd_ne (by omega)]
    have B0 : Me.1 54 0 (2068 + 4 * nm) = v3 := by rw [e54, upd_ne (by omega), upd_ne (by omega), upd_ne (by omega), upd_eq]
    have B1 : Me.1 54 0 (2069 + 4 * nm) = v4 := by rw [e54, upd_ne (by omega), upd_is (by omega)]
    have B2 : Me.1 54 0 (2070 + 4 * nm) = v5 := by rw [e54, upd_is (by omega)]
    have B3 : Me.1 54 0 (2071 + 4 * nm) = -1 := by rw [e54, upd_ne (by omega), upd_ne (by omega), upd_is (by omega)]
    have hle : 2068 + 4 * nm > 2042 := by omega
    rw [show Me.1 54 0 2042 = nI nt from (eB 2042 (by omega)).trans t2, nI_clamp (show nt < 2 ^ 31 by omega)]
    obtain ⟨m1, m2⟩ := mtR_at (Me.1 54 0) (show nm < 4 by omega) nt t3
    have e41 : mtR (Me.1 54 0) nm nt 2041 + 1 = nI (nm + 1) := by
      rw [m2 2041 (fun t _ => by omega), eB 2041 (by omega), d2, nI_1]
    rw [e41]
    have h6 : RUo c M (upd (mtR (Me.1 54 0) nm nt) 2041 (nI (nm + 1))) (vp_updL (M.2.1 55 0) (80 + 4 + nm) y) ce (mI (mRow Me 54 0 (mtR (Me.1 54 0) nm nt)) 54 0 2041 (nI (nm + 1))) := by
      obtain ⟨a1, a2, a3, a4, -, a6, a7, a8⟩ := h5
      exact ⟨a1, a2, a3, a4, rfl, a6, a7, a8⟩
    refine RB_e (sk_sg h6) (fun cf Mf h7 => ⟨rfl, ?_⟩)
    refine VL_mk h0 h7 (fun k j hk => ?_) (fun k j hk => ?_) (VR_ma (VR_s hV0 h7.2.1) (by omega) hy upd_eq ?_ ?_ ?_ ?_ (fun t ht => ?_) (fun j j1 j2 j3 => ?_))
    · exact (if_neg (fun z => by omega)).trans ((if_neg (fun z => by omega)).trans ((if_neg (fun z => by omega)).trans (if_neg (fun z => by omega))))
    · exact if_neg (fun z => by omega)
    · rw [upd_ne (by omega), m2 _ (fun t _ => by omega), B0]
    · rw [upd_ne (by omega), m2 _ (fun t _ => by omega), B1]
    · rw [upd_ne (by omega), m2 _ (fun t _ => by omega), B2]
    · rw [upd_ne (by omega), m2 _ (fun t _ => by omega), B3]
    · rw [upd_ne (by omega), m1 t ht, eB _ (by omega)]
    · rw [upd_ne j1, m2 j j3, eB j j2]
/-! a thing -/
theorem thR_at (f : Nat → Int32) {n : Nat} (hn : n < 12) : ∀ k, k ≤ 4 → (∀ q, q < k → thR f n k (2120 + 4 * n + q) = f (2085 + 3 * n)) ∧ ∀ j, (j < 2120 + 4 * n ∨ 2120 + 4 * n + k ≤ j) → thR f n k j = f j
  | 0, _ => ⟨fun t ht => absurd ht (by omega), fun _ _ => rfl⟩
  | k + 1, hk => by
    obtain ⟨h1, h2⟩ := thR_at f hn k (by omega)
    refine ⟨fun t ht => ?_, fun j hj => ?_⟩
    · show upd (thR f n k) (2120 + 4 * n + k) (thR f n k (2085 + 3 * n)) (2120 + 4 * n + t) = _
      by_cases c : t = k
      · rw [c, upd_eq, thR_lo f n k (2085 + 3 * n) (by omega)]
      · rw [upd_ne (by omega), h1 t (by omega)]
    · show upd (thR f n k) (2120 + 4 * n + k) (thR f n k (2085 + 3 * n)) j = _
      rw [upd_ne (by omega), h2 j (by omega)]
theorem VR_tg {c : MM} {g ns nm nt na o w : Nat} {A A' : Nat → Int32} {N : Nat → Int64} {x y : Int64} (h : VRo c g A N ns nm nt na) (hn : nt < 12) (hxy : RNo x y) (ho : o < ns) (hw : w ≤ 99) (A0 : A' 2042 = nI (nt + 1)) (A1 : A' (2084 + 3 * nt) = nI o) (A2 : A' (2085 + 3 * nt) = nI w) (A5 : ∀ d, d < 4 → A' (2120 + 4 * nt + d) = nI w) (AA : ∀ j, j ≠ 2042 → j ≠ 2084 + 3 * nt → j ≠ 2085 + 3 * nt → (j < 2120 + 4 * nt ∨ 2120 + 4 * nt + 4 ≤ j) → A' j = A j) : VRo (adM c g x (nI o) (nI w)) g A' (vp_updL N (80 + 8 + nt) y) ns nm (nt + 1) na := by
  obtain ⟨⟨⟨c1, c2, c3⟩, ⟨d1, d2, d3⟩, ⟨t1, t2, t3⟩, ⟨f1, f2, f3⟩⟩, ⟨⟨w0, w1, w2, w3, w4⟩, ⟨f, g1, g2, g3, g4⟩⟩, hS, hM, hT, hY, hL, ⟨z1, z2, z3, z4, z5⟩, ⟨u1, u2, u3, u4, u5, u6⟩, hN⟩ := h
  have ec : (c.1 6 g 15).toNatClampNeg = nt := by rw [t1, nI_clamp (by omega)]
  have q6 : (adM c g x (nI o) (nI w)).1 6 g = upd (c.1 6 g) 15 (c.1 6 g 15 + 1) := mRow_row _ 6 g _
  have q35 : (adM c g x (nI o) (nI w)).1 35 g = upd (c.1 35 g) nt (nI o) := by
    rw [← ec]
    exact mRow_row (mRowL c 29 g (vp_updL (c.2.1 29 g) (8 + (c.1 6 g 15).toNatClampNeg) x)) 35 g _
  have q36 : (adM c g x (nI o) (nI w)).1 36 g = upd (c.1 36 g) nt (nI w) := by
    rw [← ec]
    exact mRow_row (mRow (mRowL c 29 g (vp_updL (c.2.1 29 g) (8 + (c.1 6 g 15).toNatClampNeg) x)) 35 g (upd (c.1 35 g) (c.1 6 g 15).toNatClampNeg (nI o))) 36 g _
  have q29 : (adM c g x (nI o) (nI w)).2.1 29 g = vp_updL (c.2.1 29 g) (8 + nt) x := by
    rw [← ec]
    exact if_pos ⟨rfl, rfl⟩
  have qo : ∀ k, k ≠ 6 → k ≠ 35 → k ≠ 36 → (adM c g x (nI o) (nI w)).1 k g = c.1 k g := fun k n1 n2 n3 => (if_neg (fun z => n1 z.1)).trans ((if_neg (fun z => n3 z.1)).trans (if_neg (fun z => n2 z.1)))
  unfold VRo NWo
  rw [q6, q35, q36, q29, qo 30 (by decide) (by decide) (by decide), qo 16 (by decide) (by decide) (by decide), qo 32 (by decide) (by decide) (by decide), qo 33 (by decide) (by decide) (by decide), qo 34 (by decide) (by decide) (by decide), qo 37 (by decide) (by decide) (by decide), qo 39 (by decide) (by decide) (by decide), qo 31 (by decide) (by decide) (by decide), qo 17 (by decide) (by decide) (by decide), qo 18 (by decide) (by decide) (by decide), qo 19 (by decide) (by decide) (by decide), qo 1 (by decide) (by decide) (by decide), qo 9 (by decide) (by decide) (by decide)]
  have lo : ∀ j, j ≠ 2042 → j < 2084 → A' j = A j := fun j h1 h2 => AA j h1 (by omega) (by omega) (by omega)
  have hi : ∀ j, 2168 ≤ j → A' j = A j := fun j h1 => AA j (by omega) (by omega) (by omega) (by omega)
  refine ⟨⟨⟨by rw [upd_ne (by decide)]; exact c1, by rw [lo _ (by omega) (by omega)]; exact c2, c3⟩, ⟨by rw [upd_ne (by decide)]; exact d1, by rw [lo _ (by omega) (by omega)]; exact d2, d3⟩, ⟨by rw [upd_eq, t1, nI_1], A0, by omega⟩, ⟨by rw [upd_ne (by decide)]; exact f1, by rw [lo _ (by omega) (by omega)]; exact f2, f3⟩⟩, ⟨⟨w0, w1, w2, by rw [upd_ne (by decide)]; exact w3, by rw [lo _ (by omega) (by omega)]; exact w4⟩, ⟨f, g1, g2, by rw [upd_ne (by decide)]; exact g3, by rw [lo _ (by omega) (by omega)]; exact g4⟩⟩, fun s hs => ?_, fun d hd => ?_, fun t ht => ?_, fun t d ht hd => ?_, fun s d hs hd => ?_, ⟨by rw [lo _ (by omega) (by omega)]; exact z1, by rw [lo _ (by omega) (by omega)]; exact z2, by rw [lo _ (by omega) (by omega)]; exact z3, by rw [lo _ (by omega) (by omega)]; exact z4, by rw [lo _ (by omega) (by omega)]; exact z5⟩, ⟨u1, u2, u3, u4, by rw [upd_ne (by decide)]; exact u5, u6⟩, ?_⟩
  · rw [lo (2052 + 4 * s) (by omega) (by omega), lo (2053 + 4 * s) (by omega) (by omega), lo (2054 + 4 * s) (by omega) (by omega), lo (2055 + 4 * s) (by omega) (by omega)]
    exact hS s hs
  · rw [lo (2068 + 4 * d) (by omega) (by omega), lo (2069 + 4 * d) (by omega) (by omega), lo (2070 + 4 * d) (by omega) (by omega), lo (2071 + 4 * d) (by omega) (by omega)]
    exact hM d hd
  · obtain ⟨h1, F, hF, eF, eA, hb⟩ := hT t ht
    rw [AA (2086 + 3 * t) (by omega) (by omega) (by omega) (by omega)]
    by_cases e : t = nt
    · rw [e, upd_eq, upd_eq, A1, A2]
      rw [e] at eF eA hb
      refine ⟨fun _ => ⟨⟨o, ho, rfl, rfl⟩, w, hw, rfl, rfl⟩, F, hF, eF, eA, fun q hq => ?_⟩
      have := (hb q hq).1
      omega
    · rw [upd_ne e, upd_ne e, AA (2084 + 3 * t) (by omega) (by omega) (by omega) (by omega), AA (2085 + 3 * t) (by omega) (by omega) (by omega) (by omega)]
      refine ⟨fun z => h1 (by omega), F, hF, eF, eA, fun q hq => ?_⟩
      obtain ⟨b1, b2, b3⟩ := hb q hq
      rw [upd_ne (by omega)]
      exact ⟨by omega, by omega, b3⟩
  · obtain ⟨y1, y2⟩ := hY t d ht hd
    by_cases e : t = nt
    · rw [e, A2, A5 d hd]
      exact ⟨fun _ => Or.inl ⟨by rw [← e]; exact y2 (by omega), rfl⟩, fun z => absurd z (by omega)⟩
    · rw [AA (2120 + 4 * t + d) (by omega) (by omega) (by omega) (by omega), AA (2085 + 3 * t) (by omega) (by omega) (by omega) (by omega)]
      exact ⟨fun z => y1 (by omega), fun z => y2 (by omega)⟩
  · rw [hi (2168 + 4 * s + d) (by omega)]
    exact hL s d hs hd
  · obtain ⟨n1, n2, n3, n4⟩ := hN
    refine ⟨fun i hi => ?_, fun i hi => ?_, fun i hi => ?_, fun i hi z => ?_⟩
    · rw [updL_ne (by omega), updL_ne (by omega)]; exact n1 i hi
    · rw [updL_ne (by omega), updL_ne (by omega)]; exact n2 i hi
    · by_cases e : i = nt
      · rw [updL_is (by omega), updL_is (by omega)]; exact hxy
      · rw [updL_ne (by omega), updL_ne (by omega)]; exact n3 i (by omega)
    · rw [updL_ne (by omega)]; exact n4 i hi (by omega)
theorem tg_ok {g : Nat} {c M : MM} (h : VLo g c M) (hn1 : ¬ M.1 12 0 12 = 1) : RB2 (VLo g) (c7tC g c) (pBd (pTg M) sgE) := by
  have h0 := h
  have hRU := VL_RU h
  obtain ⟨-, -, -, ⟨ns, nm, nt, na, hV⟩, -⟩ := h
  have hV0 := hV
  obtain ⟨⟨⟨c1, c2, c3⟩, ⟨d1, d2, d3⟩, ⟨t1, t2, t3⟩, -⟩, -, -, -, -, -, -, -, -, hN⟩ := hV
  unfold c7tC pTg
  rw [pBd_as, t1, t2, nI_clamp (show nt < 2 ^ 31 by omega)]
  by_cases x : nt = 12
  · have e : pNw M 2 12 8 = (false, faM M 6) := by unfold pNw; rw [show (2040 + 2 : Nat) = 2042 from rfl, t2, x]; exact if_pos rfl
    rw [if_neg (by rw [x]; decide), e]
    exact Or.inr ⟨rfl, rfl, fa_k (k := 6) h0.1 h0.2.2.1 (by decide) (by decide) hn1⟩
  · rw [if_pos (show nI nt < 12 from (nI_ltI (by omega) (by decide)).mpr (show nt < 12 by omega))]
    refine RB_bl (nw_nw (k := 8) (q := 2) (most := 12) hRU c3 d3 t3 c2 d2 t2 hN t2 (by omega) (by decide)) (fun v ca Ma ⟨y, hy, h1⟩ => ?_)
    unfold c7tA tgA
    rw [pBd_as]
    refine RB_bd (sk_ww (i := 8) h1 (by decide)) (fun cb Mb h2 => ?_)
    unfold c7tB tgB
    rw [pBd_as, h2.2.1.1 6 g (by decide), c1, h2.2.2.2.2.1, c2, nI_clamp (show ns < 2 ^ 31 by omega)]
    have hNm : ∀ i, i < ns → RNo (c.2.1 29 g (0 + i)) (vp_updL (M.2.1 55 0) (80 + 8 + nt) y (80 + i)) := fun i hi => by
      rw [Nat.zero_add, updL_ne (by omega)]
      exact hN.1 i hi
    refine RB_bi (me_ol (f := 0) (b := 80) (n := ns) (t := 2084 + 3 * nt) h2 (by omega) hNm) (fun v3 cc Mc ⟨o, ho, e3, h3⟩ => ?_)
    unfold c7tD tgB2
    rw [pBd_as]
    refine RB_bd (sk_ww (i := 9) h3 (by decide)) (fun cd Md h4 => ?_)
    unfold c7tE tgC
    rw [pBd_as]
    refine RB_bi (am_nu (lo := 0) (hi := 99) (t := 2084 + 3 * nt + 1) h4 (by decide) (by decide)) (fun v5 ce Me ⟨w, _, hw, e5, h5⟩ => ?_)
    unfold c7tF tgD
    rw [pBd_tt]
    unfold tgE
    have e54 := h5.2.2.2.2.1
    have eB : ∀ j, j ≠ 2084 + 3 * nt → j ≠ 2085 + 3 * nt → Me.1 54 0 j = M.1 54 0 j := fun j j1 j2 => by
      rw [e54, upd_ne (by omega), upd_ne (by omega)]
    have B0 : Me.1 54 0 (2084 + 3 * nt) = v3 := by rw [e54, upd_ne (by omega), upd_eq]
    have B1 : Me.1 54 0 (2085 + 3 * nt) = v5 := by rw [e54, upd_is (by omega)]
    obtain ⟨m1, m2⟩ := thR_at (Me.1 54 0) (show nt < 12 by omega) 4 (Nat.le_refl _)
    have e42 : thR (Me.1 54 0) nt 4 2042 + 1 = nI (nt + 1) := by
      rw [m2 2042 (by omega), eB 2042 (by omega) (by omega), t2, nI_1]
    rw [e42]
    have h6 : RUo c M (upd (thR (Me.1 54 0) nt 4) 2042 (nI (nt + 1))) (vp_updL (M.2.1 55 0) (80 + 8 + nt) y) ce (mI (mRow Me 54 0 (thR (Me.1 54 0) nt 4)) 54 0 2042 (nI (nt + 1))) := by
      obtain ⟨a1, a2, a3, a4, -, a6, a7, a8⟩ := h5
      exact ⟨a1, a2, a3, a4, rfl, a6, a7, a8⟩
    refine RB_e (sk_sg h6) (fun cf Mf h7 => ⟨rfl, ?_⟩)
    rw [e3, e5]
    refine VL_mk h0 h7 (fun k j hk => ?_) (fun k j hk => ?_) (VR_tg (VR_s hV0 h7.2.1) (by omega) hy ho hw upd_eq ?_ ?_ (fun d hd => ?_) (fun j j1 j2 j3 j4 => ?_))
    · exact (if_neg (fun z => by omega)).trans ((if_neg (fun z => by omega)).trans (if_neg (fun z => by omega)))
    · exact if_neg (fun z => by omega)
    · rw [upd_ne (by omega), m2 _ (by omega), B0, e3]
    · rw [upd_ne (by omega), m2 _ (by omega), B1, e5]
    · rw [upd_ne (by omega), m1 d hd, B1, e5]
    · rw [upd_ne j1, m2 j (by omega), eB j j2 j3]

end
