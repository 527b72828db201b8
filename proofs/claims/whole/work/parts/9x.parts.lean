/-! PART 9X: a valley's parts are read alike -/

noncomputable section
theorem upd_is {f : Nat → Int32} {k j : Nat} {x : Int32} (h : j = k) : upd f k x j = x := by rw [h]; exact upd_eq
theorem fsI_m1 {P : Nat → Prop} [DecidablePred P] {f : Nat} (hf : f < 1000) : fsI P f 0 = -1 ↔ ∀ k, k < f → ¬ P k := by
  rcases fsI_in P f 0 with ⟨e, h⟩ | ⟨k, -, hk, e, hp, -⟩
  · exact ⟨fun _ k hk => h k (Nat.zero_le k) (by omega), fun _ => e⟩
  · exact ⟨fun z => absurd (e.symm.trans z) (nI_n1 (by omega)), fun z => absurd hp (z k (by omega))⟩
/-- the names of a valley, as both hold them, from a place on -/
def NWo (c : MM) (g : Nat) (N : Nat → Int64) (b ns nm nt : Nat) : Prop := (∀ i, i < ns → RNo (c.2.1 29 g i) (N (b + i))) ∧ (∀ i, i < nm → RNo (c.2.1 29 g (4 + i)) (N (b + 4 + i))) ∧ (∀ i, i < nt → RNo (c.2.1 29 g (8 + i)) (N (b + 8 + i))) ∧ ∀ i, i < 20 → (ns ≤ i ∧ i < 4) ∨ (4 + nm ≤ i ∧ i < 8) ∨ 8 + nt ≤ i → c.2.1 29 g i = 0
/-- a new name -/
theorem nw_nw {c0 M0 c M : MM} {A : Nat → Int32} {N : Nat → Int64} (h : RUo c0 M0 A N c M) {g ns nm nt q k cnt most : Nat} (hns : ns ≤ 4) (hnm : nm ≤ 4) (hnt : nt ≤ 12) (e0 : A 2040 = nI ns) (e1 : A 2041 = nI nm) (e2 : A 2042 = nI nt) (hN : NWo c0 g N 80 ns nm nt) (hc : A (2040 + q) = nI cnt) (hcm : cnt < most) (hm : most ≤ 12) : RL2 (fun x c' M' => ∃ y, RNo x y ∧ RUo c0 M0 A (vp_updL N (80 + k + cnt) y) c' M') (nwC (spM c) g) (pNw M q (nI most) k) := by
  have h' := RU_st h
  have e54 := h.2.2.2.2.1
  have e54' := h'.2.2.2.2.1
  have k3 := h'.1.1.2.2.1
  unfold nwC pNw
  rw [e54, hc, if_neg (show ¬ nI cnt = nI most from fun z => by have := nI_inj (by omega) (by omega) z; omega)]
  by_cases x : (spM c).1 4 0 6 = 30
  · have hn := k3.mp x
    have hr := h'.1.1.2.2.2.2.2.2.2.2.2.2.1 hn
    rw [if_pos x, if_pos hn]
    have key : ntI (spM c) g = -1 ↔ nwP (ahM M) := by
      unfold ntI nwP fhA
      rw [e54', e0, e1, e2, nI_clamp (by omega), nI_clamp (by omega), nI_clamp (by omega), fsI_m1 (by decide), fsI_m1 (by omega), fsI_m1 (by omega), fsI_m1 (by omega), h'.2.1.2.1 29 g (by decide), h'.2.2.2.2.2.1]
      obtain ⟨n1, n2, n3, n4⟩ := hN
      constructor
      · intro z
        exact ⟨fun i hi y => z i (by omega) ((RN_iff (n1 i hi) hr).mpr y), fun i hi y => z (4 + i) (by omega) ((RN_iff (n2 i hi) hr).mpr y), fun i hi y => z (8 + i) (by omega) ((RN_iff (n3 i hi) hr).mpr y)⟩
      · rintro ⟨z1, z2, z3⟩ i hi y
        by_cases c1 : i < ns
        · exact z1 i c1 ((RN_iff (n1 i c1) hr).mp y)
        · by_cases c2 : 4 ≤ i ∧ i < 4 + nm
          · obtain ⟨j, rfl⟩ : ∃ j, i = 4 + j := ⟨i - 4, by omega⟩
            exact z2 j (by omega) ((RN_iff (n2 j (by omega)) hr).mp y)
          · by_cases c3 : 8 ≤ i ∧ i < 8 + nt
            · obtain ⟨j, rfl⟩ : ∃ j, i = 8 + j := ⟨i - 8, by omega⟩
              exact z3 j (by omega) ((RN_iff (n3 j (by omega)) hr).mp y)
            · exact RN_0 hr (y.symm.trans (n4 i hi (by omega)))
    by_cases y : ntI (spM c) g = -1
    · rw [if_pos y, if_pos (key.mp y)]
      refine Or.inl ⟨RN_0 hr, rfl, nmV (ahM M), hr, ?_⟩
      rw [nI_clamp (show cnt < 2 ^ 31 by omega)]
      have h2 : RUo c0 M0 A (vp_updL N (80 + k + cnt) (nmV (ahM M))) (spM c) (mRowL (ahM M) 55 0 (vp_updL (M.2.1 55 0) (80 + k + cnt) (nmV (ahM M)))) := by
        obtain ⟨a1, a2, a3, a4, a5, a6, a7, a8⟩ := h'
        refine ⟨a1, a2, a3, a4, a5, ?_, a7, a8⟩
        show vp_updL (M.2.1 55 0) _ _ = _
        rw [h.2.2.2.2.2.1]
      exact RU_st h2
    · rw [if_neg y, if_neg (fun z => y (key.mpr z))]
      exact Or.inr ⟨rfl, rfl, fa_k (k := 3) h'.1 h'.2.2.2.1 (by decide) (by decide) (by rw [hn.1]; decide)⟩
  · have hn : ¬ nmP (ahM M) := fun z => x (k3.mpr z)
    rw [if_neg x, if_neg hn]
    exact Or.inr ⟨rfl, rfl, fa_mi h'.1 h'.2.2.2.1⟩
/-- what is told so far, as the class and as the model hold it -/
def VRo (c : MM) (g : Nat) (A : Nat → Int32) (N : Nat → Int64) (ns nm nt na : Nat) : Prop :=
  ((c.1 6 g 13 = nI ns ∧ A 2040 = nI ns ∧ ns ≤ 4) ∧ (c.1 6 g 14 = nI nm ∧ A 2041 = nI nm ∧ nm ≤ 4) ∧ (c.1 6 g 15 = nI nt ∧ A 2042 = nI nt ∧ nt ≤ 12) ∧ (c.1 6 g 16 = nI na ∧ A 2043 = nI na ∧ na ≤ 12)) ∧
  ((∃ w, 1 ≤ w ∧ w ≤ 9 ∧ c.1 6 g 17 = nI w ∧ A 2044 = nI w) ∧ ∃ f, 1 ≤ f ∧ f ≤ 20 ∧ c.1 6 g 18 = nI f ∧ A 2045 = nI f) ∧
  (∀ s, s < 4 → (s < ns → (∃ a, a ≤ 99 ∧ c.1 30 g s = nI a ∧ A (2052 + 4 * s) = nI a) ∧ c.1 16 g s = A (2053 + 4 * s) ∧ A (2055 + 4 * s) = -1) ∧ (ns ≤ s → A (2053 + 4 * s) = 0) ∧ A (2054 + 4 * s) = 0) ∧
  (∀ d, d < 4 → (d < nm → c.1 32 g d = A (2068 + 4 * d) ∧ c.1 33 g d = A (2069 + 4 * d) ∧ c.1 34 g d = A (2070 + 4 * d) ∧ A (2071 + 4 * d) = -1) ∧ (nm ≤ d → A (2069 + 4 * d) = 0 ∧ A (2070 + 4 * d) = 0)) ∧
  (∀ t, t < 12 → (t < nt → (∃ o, o < ns ∧ c.1 35 g t = nI o ∧ A (2084 + 3 * t) = nI o) ∧ (∃ w, w ≤ 99 ∧ c.1 36 g t = nI w ∧ A (2085 + 3 * t) = nI w)) ∧ ∃ F, F < 4096 ∧ c.1 37 g t = nI F ∧ A (2086 + 3 * t) = nI F ∧ ∀ o, F.testBit o = true → t < nt ∧ o < nt ∧ c.1 35 g o = c.1 35 g t) ∧
  (∀ t d, t < 12 → d < 4 → (t < nt → (c.1 39 g (4 * t + d) = -1 ∧ A (2120 + 4 * t + d) = A (2085 + 3 * t)) ∨ (d < nm ∧ ∃ y, y ≤ 99 ∧ c.1 39 g (4 * t + d) = nI y ∧ A (2120 + 4 * t + d) = nI y)) ∧ (nt ≤ t → c.1 39 g (4 * t + d) = -1)) ∧
  (∀ s d, s < 4 → d < 4 → ∃ l, l ≤ 99 ∧ c.1 31 g (4 * s + d) = nI l ∧ A (2168 + 4 * s + d) = nI l) ∧
  (A 2046 = 0 ∧ A 2047 = 0 ∧ A 2048 = 0 ∧ A 2049 = 0 ∧ A 2050 = -1) ∧
  ((∀ s, s < 4 → c.1 17 g s = 0 ∧ c.1 18 g s = -1 ∧ c.1 19 g s = -1) ∧ c.1 1 g 4 = 0 ∧ c.1 1 g 5 = 0 ∧ c.1 1 g 6 = 0 ∧ c.1 6 g 19 = 0 ∧ c.1 9 g 6 = 0) ∧
  NWo c g N 80 ns nm nt
theorem VR_s {c c' : MM} {g ns nm nt na : Nat} {A : Nat → Int32} {N : Nat → Int64} (h : VRo c g A N ns nm nt na) (hs : SMo c c') : VRo c' g A N ns nm nt na := by
  unfold VRo NWo at *
  rw [hs.1 6 g (by decide), hs.1 30 g (by decide), hs.1 16 g (by decide), hs.1 32 g (by decide), hs.1 33 g (by decide), hs.1 34 g (by decide), hs.1 35 g (by decide), hs.1 36 g (by decide), hs.1 37 g (by decide), hs.1 39 g (by decide), hs.1 31 g (by decide), hs.1 17 g (by decide), hs.1 18 g (by decide), hs.1 19 g (by decide), hs.1 1 g (by decide), hs.1 9 g (by decide), hs.2.1 29 g (by decide)]
  exact h
/-- which were told already -/
def FLG (x y z : Int32) : Prop := (x = 0 ∧ y = 0 ∧ z = 0) ∨ (x = 1 ∧ y = 0 ∧ z = 64) ∨ (x = 0 ∧ y = 1 ∧ z = 128) ∨ (x = 1 ∧ y = 1 ∧ z = 192)
/-- while a valley is read -/
def VLo (g : Nat) (c M : MM) : Prop := TKR c M ∧ c.1 4 0 9 = 0 ∧ M.1 12 0 18 = 0 ∧ (∃ ns nm nt na, VRo c g (M.1 54 0) (M.2.1 55 0) ns nm nt na) ∧ FLG (c.1 7 0 1) (c.1 7 0 2) (M.1 12 0 20) ∧ M.1 12 0 17 = -1
theorem RB_e {I J : MM → MM → Prop} {p q : PR} {f : MM → PR} (hp : RB2 I p q) (hf : ∀ c M, I c M → (f c).1 = true ∧ J (f c).2 M) : RB2 J (pBd p f) q := by
  rcases hp with ⟨h1, h2, h3⟩ | ⟨h1, h2, h3⟩
  · rw [pBd_t h1]
    obtain ⟨j1, j2⟩ := hf _ _ h3
    exact Or.inl ⟨j1, h2, j2⟩
  · rw [pBd_f (by rw [h1]; exact Bool.false_ne_true)]
    exact Or.inr ⟨rfl, h2, h3⟩
theorem VL_RU {g : Nat} {c M : MM} (h : VLo g c M) : RUo c M (M.1 54 0) (M.2.1 55 0) c M := ⟨h.1, SMo_r c, h.2.1, h.2.2.1, rfl, rfl, fun _ _ => rfl, rfl⟩
/-- behind a part -/
theorem VL_mk {g : Nat} {c0 M0 c M c' : MM} {A : Nat → Int32} {N : Nat → Int64} {ns nm nt na : Nat} (h0 : VLo g c0 M0) (h : RUo c0 M0 A N c M) (hT : ∀ k j, k = 4 ∨ k = 26 ∨ k = 7 → c'.1 k j = c.1 k j) (hTL : ∀ k j, k = 4 ∨ k = 27 → c'.2.1 k j = c.2.1 k j) (hV : VRo c' g A N ns nm nt na) : VLo g c' M := by
  obtain ⟨h1, h2, h3, h4, h5, h6, h7, h8⟩ := h
  obtain ⟨-, -, -, -, f1⟩ := h0
  refine ⟨?_, by rw [hT 4 0 (by omega)]; exact h3, h4, ⟨ns, nm, nt, na, by rw [h5, h6]; exact hV⟩, ?_⟩
  · unfold TKR KND POS TBo OWo at *
    rw [hT 4 0 (by omega), hT 26 0 (by omega), hTL 4 0 (by omega), hTL 27 0 (by omega)]
    exact h1
  · rw [hT 7 0 (by omega), h2.1 7 0 (by decide), h7 20 (by decide), h7 17 (by decide)]
    exact f1
theorem updL_is {f : Nat → Int64} {k j : Nat} {x : Int64} (h : j = k) : vp_updL f k x j = x := by unfold vp_updL; rw [if_pos h]
theorem updL_ne {f : Nat → Int64} {k j : Nat} {x : Int64} (h : j ≠ k) : vp_updL f k x j = f j := by unfold vp_updL; rw [if_neg h]
/-! a suitor -/
theorem VR_su {c : MM} {g ns nm nt na a : Nat} {A : Nat → Int32} {N : Nat → Int64} {x y : Int64} {co : Int32} (h : VRo c g A N ns nm nt na) (hn : ns < 4) (ha : a ≤ 99) (hxy : RNo x y) : VRo (c7sM c g x (nI a) co) g (upd (upd (upd (upd (upd A (2052 + 4 * ns) 20) (2052 + 4 * ns + 3) (-1)) (2052 + 4 * ns) (nI a)) (2052 + 4 * ns + 1) co) 2040 (nI (ns + 1))) (vp_updL N (80 + 0 + ns) y) (ns + 1) nm nt na := by
  obtain ⟨⟨⟨c1, c2, c3⟩, ⟨d1, d2, d3⟩, ⟨t1, t2, t3⟩, ⟨f1, f2, f3⟩⟩, ⟨⟨w, w1, w2, w3, w4⟩, ⟨f, g1, g2, g3, g4⟩⟩, hS, hM, hT, hY, hL, ⟨z1, z2, z3, z4, z5⟩, ⟨u1, u2, u3, u4, u5, u6⟩, hN⟩ := h
  have ec : (c.1 6 g 13).toNatClampNeg = ns := by rw [c1, nI_clamp (by omega)]
  have q6 : (c7sM c g x (nI a) co).1 6 g = upd (c.1 6 g) 13 (c.1 6 g 13 + 1) := mRow_row _ 6 g _
  have q30 : (c7sM c g x (nI a) co).1 30 g = upd (c.1 30 g) ns (nI a) := by
    rw [← ec]
    exact mRow_row (mRowL c 29 g (vp_updL (c.2.1 29 g) (c.1 6 g 13).toNatClampNeg x)) 30 g _
  have q16 : (c7sM c g x (nI a) co).1 16 g = upd (c.1 16 g) ns co := by
    rw [← ec]
    exact mRow_row (mRow (mRowL c 29 g (vp_updL (c.2.1 29 g) (c.1 6 g 13).toNatClampNeg x)) 30 g (upd (c.1 30 g) (c.1 6 g 13).toNatClampNeg (nI a))) 16 g _
  have q29 : (c7sM c g x (nI a) co).2.1 29 g = vp_updL (c.2.1 29 g) ns x := by
    rw [← ec]
    exact if_pos ⟨rfl, rfl⟩
  have qo : ∀ k, k ≠ 6 → k ≠ 30 → k ≠ 16 → (c7sM c g x (nI a) co).1 k g = c.1 k g := fun k n1 n2 n3 => (if_neg (fun z => n1 z.1)).trans ((if_neg (fun z => n3 z.1)).trans (if_neg (fun z => n2 z.1)))
  unfold VRo NWo
  rw [q6, q30, q16, q29, qo 32 (by decide) (by decide) (by decide), qo 33 (by decide) (by decide) (by decide), qo 34 (by decide) (by decide) (by decide), qo 35 (by decide) (by decide) (by decide), qo 36 (by decide) (by decide) (by decide), qo 37 (by decide) (by decide) (by decide), qo 39 (by decide) (by decide) (by decide), qo 31 (by decide) (by decide) (by decide), qo 17 (by decide) (by decide) (by decide), qo 18 (by decide) (by decide) (by decide), qo 19 (by decide) (by decide) (by decide), qo 1 (by decide) (by decide) (by decide), qo 9 (by decide) (by decide) (by decide)]
  have AA : ∀ j, j ≠ 2040 → j ≠ 2052 + 4 * ns → j ≠ 2053 + 4 * ns → j ≠ 2055 + 4 * ns → (upd (upd (upd (upd (upd A (2052 + 4 * ns) 20) (2052 + 4 * ns + 3) (-1)) (2052 + 4 * ns) (nI a)) (2052 + 4 * ns + 1) co) 2040 (nI (ns + 1))) j = A j := fun j a1 a2 a3 a4 => by
    rw [upd_ne a1, upd_ne (by omega), upd_ne a2, upd_ne (by omega), upd_ne a2]
  have A0 : (upd (upd (upd (upd (upd A (2052 + 4 * ns) 20) (2052 + 4 * ns + 3) (-1)) (2052 + 4 * ns) (nI a)) (2052 + 4 * ns + 1) co) 2040 (nI (ns + 1))) 2040 = nI (ns + 1) := upd_eq
  have A1 : (upd (upd (upd (upd (upd A (2052 + 4 * ns) 20) (2052 + 4 * ns + 3) (-1)) (2052 + 4 * ns) (nI a)) (2052 + 4 * ns + 1) co) 2040 (nI (ns + 1))) (2052 + 4 * ns) = nI a := by
    rw [upd_ne (by omega), upd_ne (by omega), upd_eq]
  have A2 : (upd (upd (upd (upd (upd A (2052 + 4 * ns) 20) (2052 + 4 * ns + 3) (-1)) (2052 + 4 * ns) (nI a)) (2052 + 4 * ns + 1) co) 2040 (nI (ns + 1))) (2053 + 4 * ns) = co := by
    rw [upd_ne (by omega), upd_is (by omega)]
  have A3 : (upd (upd (upd (upd (upd A (2052 + 4 * ns) 20) (2052 + 4 * ns + 3) (-1)) (2052 + 4 * ns) (nI a)) (2052 + 4 * ns + 1) co) 2040 (nI (ns + 1))) (2055 + 4 * ns) = -1 := by
    rw [upd_ne (by omega), upd_ne (by omega), upd_ne (by omega), upd_is (by omega)]
  revert AA A0 A1 A2 A3
  generalize (upd (upd (upd (upd (upd A (2052 + 4 * ns) 20) (2052 + 4 * ns + 3) (-1)) (2052 + 4 * ns) (nI a)) (2052 + 4 * ns + 1) co) 2040 (nI (ns + 1))) = A'
  intro AA A0 A1 A2 A3
  refine ⟨⟨⟨by rw [upd_eq, c1, nI_1], A0, by omega⟩, ⟨by rw [upd_ne (by decide)]; exact d1, by rw [AA _ (by omega) (by omega) (by omega) (by omega)]; exact d2, d3⟩, ⟨by rw [upd_ne (by decide)]; exact t1, by rw [AA _ (by omega) (by omega) (by omega) (by omega)]; exact t2, t3⟩, ⟨by rw [upd_ne (by decide)]; exact f1, by rw [AA _ (by omega) (by omega) (by omega) (by omega)]; exact f2, f3⟩⟩, ⟨⟨w, w1, w2, by rw [upd_ne (by decide)]; exact w3, by rw [AA _ (by omega) (by omega) (by omega) (by omega)]; exact w4⟩, ⟨f, g1, g2, by rw [upd_ne (by decide)]; exact g3, by rw [AA _ (by omega) (by omega) (by omega) (by omega)]; exact g4⟩⟩, fun s hs => ?_, fun d hd => ?_, fun t ht => ?_, fun t d ht hd => ?_, fun s d hs hd => ?_, ⟨by rw [AA _ (by omega) (by omega) (by omega) (by omega)]; exact z1, by rw [AA _ (by omega) (by omega) (by omega) (by omega)]; exact z2, by rw [AA _ (by omega) (by omega) (by omega) (by omega)]; exact z3, by rw [AA _ (by omega) (by omega) (by omega) (by omega)]; exact z4, by rw [AA _ (by omega) (by omega) (by omega) (by omega)]; exact z5⟩, ⟨u1, u2, u3, u4, by rw [upd_ne (by decide)]; exact u5, u6⟩, ?_⟩
  · by_cases e : s = ns
    · rw [e, upd_eq, upd_eq, A1, A2, A3, AA (2054 + 4 * ns) (by omega) (by omega) (by omega) (by omega)]
      exact ⟨fun _ => ⟨⟨a, ha, rfl, rfl⟩, rfl, rfl⟩, fun z => absurd z (by omega), (hS ns (by omega)).2.2⟩
    · rw [upd_ne e, upd_ne e, AA (2052 + 4 * s) (by omega) (by omega) (by omega) (by omega), AA (2053 + 4 * s) (by omega) (by omega) (by omega) (by omega), AA (2054 + 4 * s) (by omega) (by omega) (by omega) (by omega), AA (2055 + 4 * s) (by omega) (by omega) (by omega) (by omega)]
      exact ⟨fun z => (hS s hs).1 (by omega), fun z => (hS s hs).2.1 (by omega), (hS s hs).2.2⟩
  · rw [AA (2068 + 4 * d) (by omega) (by omega) (by omega) (by omega), AA (2069 + 4 * d) (by omega) (by omega) (by omega) (by omega), AA (2070 + 4 * d) (by omega) (by omega) (by omega) (by omega), AA (2071 + 4 * d) (by omega) (by omega) (by omega) (by omega)]
    exact hM d hd
  · rw [AA (2084 + 3 * t) (by omega) (by omega) (by omega) (by omega), AA (2085 + 3 * t) (by omega) (by omega) (by omega) (by omega), AA (2086 + 3 * t) (by omega) (by omega) (by omega) (by omega)]
    exact ⟨fun z => ⟨((hT t ht).1 z).1.imp (fun o y => ⟨by omega, y.2⟩), ((hT t ht).1 z).2⟩, (hT t ht).2⟩
  · rw [AA (2120 + 4 * t + d) (by omega) (by omega) (by omega) (by omega), AA (2085 + 3 * t) (by omega) (by omega) (by omega) (by omega)]
    exact hY t d ht hd
  · rw [AA (2168 + 4 * s + d) (by omega) (by omega) (by omega) (by omega)]
    exact hL s d hs hd
  · obtain ⟨n1, n2, n3, n4⟩ := hN
    refine ⟨fun i hi => ?_, fun i hi => ?_, fun i hi => ?_, fun i hi z => ?_⟩
    · by_cases e : i = ns
      · rw [updL_is e, updL_is (by omega)]; exact hxy
      · rw [updL_ne e, updL_ne (by omega)]; exact n1 i (by omega)
    · rw [updL_ne (by omega), updL_ne (by omega)]; exact n2 i hi
    · rw [updL_ne (by omega), updL_ne (by omega)]; exact n3 i hi
    · rw [updL_ne (by omega)]; exact n4 i hi (by omega)
theorem su_ok {g : Nat} {c M : MM} (h : VLo g c M) (hn1 : ¬ M.1 12 0 12 = 1) : RB2 (VLo g) (c7sC g c) (pBd (pSu M) sgE) := by
  have h0 := h
  have hRU := VL_RU h
  obtain ⟨-, -, -, ⟨ns, nm, nt, na, hV⟩, -⟩ := h
  have hV0 := hV
  obtain ⟨⟨⟨c1, c2, c3⟩, ⟨d1, d2, d3⟩, ⟨t1, t2, t3⟩, -⟩, -, hS, -, -, -, -, -, -, hN⟩ := hV
  unfold c7sC pSu
  rw [pBd_as, c1, c2, nI_clamp (show ns < 2 ^ 31 by omega)]
  by_cases x : ns = 4
  · have e : pNw M 0 4 0 = (false, faM M 6) := by unfold pNw; rw [show (2040 + 0 : Nat) = 2040 from rfl, c2, x]; exact if_pos rfl
    rw [if_neg (by rw [x]; decide), e]
    exact Or.inr ⟨rfl, rfl, fa_k (k := 6) h0.1 h0.2.2.1 (by decide) (by decide) hn1⟩
  · rw [if_pos (show nI ns < 4 from (nI_ltI (by omega) (by decide)).mpr (show ns < 4 by omega))]
    refine RB_bl (nw_nw (k := 0) (q := 0) (most := 4) hRU c3 d3 t3 c2 d2 t2 hN c2 (by omega) (by decide)) (fun v ca Ma ⟨y, hy, h1⟩ => ?_)
    unfold c7sA suA
    rw [pBd_as]
    refine RB_bi (op_op (i := 1) (w := 20) (hi := 99) (RU_54 (RU_54 h1 (2052 + 4 * ns) 20) (2052 + 4 * ns + 3) (-1)) (by decide) (by decide) (by decide) (by rw [upd_ne (by omega), upd_eq]; rfl)) (fun v2 cb Mb ⟨a, ha, e2, h2⟩ => ?_)
    unfold c7sB suB
    rw [pBd_as]
    have hz : (M.1 54 0) (2053 + 4 * ns) = 0 := (hS ns (by omega)).2.1 (Nat.le_refl _)
    refine RB_bi (op_op (i := 2) (w := 0) (hi := 99) h2 (by decide) (by decide) (by decide) (by rw [upd_ne (by omega), upd_ne (by omega), upd_ne (by omega), show 2052 + 4 * ns + 1 = 2053 + 4 * ns by omega, hz]; rfl)) (fun v3 cc Mc ⟨b, hb, e3, h3⟩ => ?_)
    unfold c7sD suC
    rw [pBd_tt]
    have e40 : Mc.1 54 0 2040 + 1 = nI (ns + 1) := by
      rw [h3.2.2.2.2.1, upd_ne (by omega), upd_ne (by omega), upd_ne (by omega), upd_ne (by omega), c2, nI_1]
    rw [e40]
    refine RB_e (sk_sg (RU_54 h3 2040 (nI (ns + 1)))) (fun cd Md h4 => ⟨rfl, ?_⟩)
    rw [e2] at h4 ⊢
    refine VL_mk h0 h4 (fun k j hk => ?_) (fun k j hk => ?_) (VR_su (VR_s hV0 h4.2.1) (by omega) ha hy)
    · exact (if_neg (fun z => by omega)).trans ((if_neg (fun z => by omega)).trans (if_neg (fun z => by omega)))
    · exact if_neg (fun z => by omega)

end
