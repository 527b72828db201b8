/-! PART 9ZA: a valley is read alike -/

noncomputable section
theorem VR_w {c c' : MM} {g ns nm nt na w f : Nat} {A A' : Nat → Int32} {N : Nat → Int64} (h : VRo c g A N ns nm nt na) (hw : 1 ≤ w ∧ w ≤ 9) (hf : 1 ≤ f ∧ f ≤ 20) (e17 : c'.1 6 g 17 = nI w) (e18 : c'.1 6 g 18 = nI f) (a44 : A' 2044 = nI w) (a45 : A' 2045 = nI f) (hA : ∀ j, j ≠ 2044 → j ≠ 2045 → A' j = A j) (h6 : ∀ j, j ≠ 17 → j ≠ 18 → c'.1 6 g j = c.1 6 g j) (hk : ∀ k, k ≠ 6 → k ≠ 7 → c'.1 k g = c.1 k g) (hL : c'.2.1 29 g = c.2.1 29 g) : VRo c' g A' N ns nm nt na := by
  obtain ⟨hC, -, hS, hM, hT, hY, hLk, hZ, hD, hN⟩ := h
  have lo : ∀ j, j ≠ 2044 → j ≠ 2045 → A' j = A j := hA
  unfold VRo NWo
  rw [h6 13 (by decide) (by decide), h6 14 (by decide) (by decide), h6 15 (by decide) (by decide), h6 16 (by decide) (by decide), h6 19 (by decide) (by decide), hk 30 (by decide) (by decide), hk 16 (by decide) (by decide), hk 32 (by decide) (by decide), hk 33 (by decide) (by decide), hk 34 (by decide) (by decide), hk 35 (by decide) (by decide), hk 36 (by decide) (by decide), hk 37 (by decide) (by decide), hk 39 (by decide) (by decide), hk 31 (by decide) (by decide), hk 17 (by decide) (by decide), hk 18 (by decide) (by decide), hk 19 (by decide) (by decide), hk 1 (by decide) (by decide), hk 9 (by decide) (by decide), hL, lo 2040 (by omega) (by omega), lo 2041 (by omega) (by omega), lo 2042 (by omega) (by omega), lo 2043 (by omega) (by omega), lo 2046 (by omega) (by omega), lo 2047 (by omega) (by omega), lo 2048 (by omega) (by omega), lo 2049 (by omega) (by omega), lo 2050 (by omega) (by omega)]
  refine ⟨hC, ⟨⟨w, hw.1, hw.2, e17, a44⟩, f, hf.1, hf.2, e18, a45⟩, fun s hs => ?_, fun d hd => ?_, fun t ht => ?_, fun t d ht hd => ?_, fun s d hs hd => ?_, hZ, hD, hN⟩
  · rw [lo (2052 + 4 * s) (by omega) (by omega), lo (2053 + 4 * s) (by omega) (by omega), lo (2054 + 4 * s) (by omega) (by omega), lo (2055 + 4 * s) (by omega) (by omega)]
    exact hS s hs
  · rw [lo (2068 + 4 * d) (by omega) (by omega), lo (2069 + 4 * d) (by omega) (by omega), lo (2070 + 4 * d) (by omega) (by omega), lo (2071 + 4 * d) (by omega) (by omega)]
    exact hM d hd
  · rw [lo (2084 + 3 * t) (by omega) (by omega), lo (2085 + 3 * t) (by omega) (by omega), lo (2086 + 3 * t) (by omega) (by omega)]
    exact hT t ht
  · rw [lo (2120 + 4 * t + d) (by omega) (by omega), lo (2085 + 3 * t) (by omega) (by omega)]
    exact hY t d ht hd
  · rw [lo (2168 + 4 * s + d) (by omega) (by omega)]
    exact hLk s d hs hd
theorem VL_mk2 {g : Nat} {M0 c0 c M c' : MM} {A : Nat → Int32} {N : Nat → Int64} {ns nm nt na : Nat} {x : Int32} (h : RUo c0 (mI M0 12 0 20 x) A N c M) (hT : ∀ k j, k = 4 ∨ k = 26 → c'.1 k j = c.1 k j) (hTL : ∀ k j, k = 4 ∨ k = 27 → c'.2.1 k j = c.2.1 k j) (hV : VRo c' g A N ns nm nt na) (hF : FLG (c'.1 7 0 1) (c'.1 7 0 2) x) (h17 : M0.1 12 0 17 = -1) : VLo g c' M := by
  obtain ⟨h1, h2, h3, h4, h5, h6, h7, h8⟩ := h
  refine ⟨?_, by rw [hT 4 0 (by omega)]; exact h3, h4, ⟨ns, nm, nt, na, by rw [h5, h6]; exact hV⟩, ?_⟩
  · unfold TKR KND POS TBo OWo at *
    rw [hT 4 0 (by omega), hT 26 0 (by omega), hTL 4 0 (by omega), hTL 27 0 (by omega)]
    exact h1
  · rw [h7 20 (by decide), h7 17 (by decide)]
    exact ⟨hF, h17⟩
theorem RU_20 {g : Nat} {c M : MM} (h : VLo g c M) (x : Int32) : RUo c (mI M 12 0 20 x) (M.1 54 0) (M.2.1 55 0) (spM c) (ahM (mI M 12 0 20 x)) := by
  refine RU_st ⟨?_, SMo_r c, h.2.1, h.2.2.1, rfl, rfl, fun _ _ => rfl, rfl⟩
  exact h.1
theorem flg_6 {x y z : Int32} (h : FLG x y z) : (((z >>> ((6 : Int32) &&& 31)) &&& 1 = 1) ↔ ¬ x = 0) ∧ (x = 0 → FLG 1 y (z ||| (1 : Int32) <<< ((6 : Int32) &&& 31))) := by
  rcases h with ⟨rfl, rfl, rfl⟩ | ⟨rfl, rfl, rfl⟩ | ⟨rfl, rfl, rfl⟩ | ⟨rfl, rfl, rfl⟩ <;> unfold FLG <;> decide
theorem flg_7 {x y z : Int32} (h : FLG x y z) : (((z >>> ((7 : Int32) &&& 31)) &&& 1 = 1) ↔ ¬ y = 0) ∧ (y = 0 → FLG x 1 (z ||| (1 : Int32) <<< ((7 : Int32) &&& 31))) := by
  rcases h with ⟨rfl, rfl, rfl⟩ | ⟨rfl, rfl, rfl⟩ | ⟨rfl, rfl, rfl⟩ | ⟨rfl, rfl, rfl⟩ <;> unfold FLG <;> decide
theorem wy_ok {g : Nat} {c M : MM} (h : VLo g c M) (hn1 : ¬ M.1 12 0 12 = 1) : RB2 (VLo g) (c7wC g c) (pBd (pOn M 6) sgE) := by
  have h0 := h
  obtain ⟨-, -, -, ⟨ns, nm, nt, na, hV⟩, hF, h17⟩ := h
  obtain ⟨k1, k2⟩ := flg_6 hF
  obtain ⟨-, ⟨-, f, f1, f2, f3, f4⟩, -⟩ := id hV
  unfold c7wC pOn
  by_cases x : c.1 7 0 1 = 0
  · rw [if_pos x, if_neg (fun z => k1.mp z x)]
    have hR := RU_20 h0 (M.1 12 0 20 ||| (1 : Int32) <<< ((6 : Int32) &&& 31))
    have eQ : onQ 6 6 (ahM (mI M 12 0 20 (M.1 12 0 20 ||| (1 : Int32) <<< ((6 : Int32) &&& 31)))) = pNu (ahM (mI M 12 0 20 (M.1 12 0 20 ||| (1 : Int32) <<< ((6 : Int32) &&& 31)))) 2044 1 9 := if_pos rfl
    rw [eQ]
    refine RB_bi (am_nu (lo := 1) (hi := 9) (t := 2044) hR (by decide) (by decide)) (fun v ca Ma ⟨w, w1, w2, e1, h1⟩ => ?_)
    unfold c7wA
    refine RB_e (sk_sg h1) (fun cb Mb h2 => ⟨rfl, ?_⟩)
    refine VL_mk2 (ns := ns) (nm := nm) (nt := nt) (na := na) h2 (fun k j hk => ?_) (fun k j hk => rfl) ?_ ?_ h17
    · exact (if_neg (fun z => by omega)).trans (if_neg (fun z => by omega))
    · have hV' := VR_s hV h2.2.1
      refine VR_w (w := w) (f := f) hV' ⟨w1, w2⟩ ⟨f1, f2⟩ ?_ ?_ (by rw [upd_eq, e1]) ?_ (fun j j1 j2 => upd_ne j1) (fun j j1 j2 => ?_) (fun k k6 k7 => ?_) rfl
      · show (mI cb 6 g 17 v).1 6 g 17 = _
        rw [mI_eq2, e1]
      · show (mI cb 6 g 17 v).1 6 g 18 = _
        rw [mI_ne (by decide), h2.2.1.1 6 g (by decide)]
        exact f3
      · rw [upd_ne (by decide)]; exact f4
      · show (mI cb 6 g 17 v).1 6 g j = _
        exact mI_ne j1
      · exact (if_neg (fun z => k7 z.1)).trans (if_neg (fun z => k6 z.1))
    · show FLG 1 (upd ((mI cb 6 g 17 v).1 7 0) 1 1 2) _
      rw [upd_ne (by decide), show (mI cb 6 g 17 v).1 7 0 2 = cb.1 7 0 2 from rfl, h2.2.1.1 7 0 (by decide)]
      exact k2 x
  · rw [if_neg x, if_pos (k1.mpr x)]
    exact Or.inr ⟨rfl, rfl, fa_k (k := 5) h0.1 h0.2.2.1 (by decide) (by decide) hn1⟩
theorem fy_ok {g : Nat} {c M : MM} (h : VLo g c M) (hn1 : ¬ M.1 12 0 12 = 1) : RB2 (VLo g) (c7fC g c) (pBd (pOn M 7) sgE) := by
  have h0 := h
  obtain ⟨-, -, -, ⟨ns, nm, nt, na, hV⟩, hF, h17⟩ := h
  obtain ⟨k1, k2⟩ := flg_7 hF
  obtain ⟨-, ⟨⟨f, f1, f2, f3, f4⟩, -⟩, -⟩ := id hV
  unfold c7fC pOn
  by_cases x : c.1 7 0 2 = 0
  · rw [if_pos x, if_neg (fun z => k1.mp z x)]
    have hR := RU_20 h0 (M.1 12 0 20 ||| (1 : Int32) <<< ((7 : Int32) &&& 31))
    have eQ : onQ 7 6 (ahM (mI M 12 0 20 (M.1 12 0 20 ||| (1 : Int32) <<< ((7 : Int32) &&& 31)))) = pNu (ahM (mI M 12 0 20 (M.1 12 0 20 ||| (1 : Int32) <<< ((7 : Int32) &&& 31)))) 2045 1 20 := if_neg (by decide)
    rw [eQ]
    refine RB_bi (am_nu (lo := 1) (hi := 20) (t := 2045) hR (by decide) (by decide)) (fun v ca Ma ⟨w, w1, w2, e1, h1⟩ => ?_)
    unfold c7fA
    refine RB_e (sk_sg h1) (fun cb Mb h2 => ⟨rfl, ?_⟩)
    refine VL_mk2 (ns := ns) (nm := nm) (nt := nt) (na := na) h2 (fun k j hk => ?_) (fun k j hk => rfl) ?_ ?_ h17
    · exact (if_neg (fun z => by omega)).trans (if_neg (fun z => by omega))
    · have hV' := VR_s hV h2.2.1
      refine VR_w (w := f) (f := w) hV' ⟨f1, f2⟩ ⟨w1, w2⟩ ?_ ?_ ?_ (by rw [upd_eq, e1]) (fun j j1 j2 => upd_ne j2) (fun j j1 j2 => ?_) (fun k k6 k7 => ?_) rfl
      · show (mI cb 6 g 18 v).1 6 g 17 = _
        rw [mI_ne (by decide), h2.2.1.1 6 g (by decide)]
        exact f3
      · show (mI cb 6 g 18 v).1 6 g 18 = _
        rw [mI_eq2, e1]
      · rw [upd_ne (by decide)]; exact f4
      · show (mI cb 6 g 18 v).1 6 g j = _
        exact mI_ne j2
      · exact (if_neg (fun z => k7 z.1)).trans (if_neg (fun z => k6 z.1))
    · show FLG (upd ((mI cb 6 g 18 v).1 7 0) 2 1 1) 1 _
      rw [upd_ne (by decide), show (mI cb 6 g 18 v).1 7 0 1 = cb.1 7 0 1 from rfl, h2.2.1.1 7 0 (by decide)]
      exact k2 x
  · rw [if_neg x, if_pos (k1.mpr x)]
    exact Or.inr ⟨rfl, rfl, fa_k (k := 5) h0.1 h0.2.2.1 (by decide) (by decide) hn1⟩
/-- any part -/
theorem vp_ok {g : Nat} {c M : MM} (h : VLo g c M) : RB2 (VLo g) (c7v1 g c) (pVp M) := by
  have hk := h.1.1
  have key : ∀ i, i < 30 → (c.1 4 0 6 = nI i ↔ kyA M = nI (kM i)) := hk.1
  have k0 : c.1 4 0 6 = 0 ↔ kyA M = 0 := key 0 (by decide)
  have k3 : c.1 4 0 6 = 3 ↔ kyA M = 1 := key 3 (by decide)
  have k7 : c.1 4 0 6 = 7 ↔ kyA M = 2 := key 7 (by decide)
  have k10 : c.1 4 0 6 = 10 ↔ kyA M = 3 := key 10 (by decide)
  have k12 : c.1 4 0 6 = 12 ↔ kyA M = 4 := key 12 (by decide)
  have k13 : c.1 4 0 6 = 13 ↔ kyA M = 5 := key 13 (by decide)
  have k14 : c.1 4 0 6 = 14 ↔ kyA M = 6 := key 14 (by decide)
  have k15 : c.1 4 0 6 = 15 ↔ kyA M = 7 := key 15 (by decide)
  have n1 : ∀ x : Int32, ¬ x = 38 → c.1 4 0 6 = x → ¬ M.1 12 0 12 = 1 := fun x hx e z => hx (e.symm.trans (hk.2.2.2.2.2.2.2.2.1.mpr z))
  unfold c7v1 pVp
  by_cases x0 : c.1 4 0 6 = 0
  · rw [if_pos x0, if_pos (k0.mp x0)]
    exact su_ok h (n1 0 (by decide) x0)
  rw [if_neg x0, if_neg (fun z => x0 (k0.mpr z))]
  by_cases x3 : c.1 4 0 6 = 3
  · rw [if_pos x3, if_pos (k3.mp x3)]
    exact ma_ok h (n1 3 (by decide) x3)
  rw [if_neg x3, if_neg (fun z => x3 (k3.mpr z))]
  by_cases x7 : c.1 4 0 6 = 7
  · rw [if_pos x7, if_pos (k7.mp x7)]
    exact tg_ok h (n1 7 (by decide) x7)
  rw [if_neg x7, if_neg (fun z => x7 (k7.mpr z))]
  by_cases x10 : c.1 4 0 6 = 10
  · rw [if_pos x10, if_pos (k10.mp x10)]
    exact sy_ok h
  rw [if_neg x10, if_neg (fun z => x10 (k10.mpr z))]
  by_cases x12 : c.1 4 0 6 = 12
  · rw [if_pos x12, if_pos (k12.mp x12)]
    exact af_ok h (n1 12 (by decide) x12)
  rw [if_neg x12, if_neg (fun z => x12 (k12.mpr z))]
  by_cases x13 : c.1 4 0 6 = 13
  · rw [if_pos x13, if_pos (k13.mp x13)]
    exact lk_ok h
  rw [if_neg x13, if_neg (fun z => x13 (k13.mpr z))]
  by_cases x14 : c.1 4 0 6 = 14
  · rw [if_pos x14, if_pos (k14.mp x14)]
    exact wy_ok h (n1 14 (by decide) x14)
  rw [if_neg x14, if_neg (fun z => x14 (k14.mpr z))]
  by_cases x15 : c.1 4 0 6 = 15
  · rw [if_pos x15, if_pos (k15.mp x15)]
    exact fy_ok h (n1 15 (by decide) x15)
  rw [if_neg x15, if_neg (fun z => x15 (k15.mpr z))]
  exact Or.inr ⟨rfl, rfl, fa_mi h.1 h.2.2.1⟩
/-- all parts -/
theorem vl_lp {g : Nat} : ∀ f c M, VLo g c M → PI M → TKo M → 900 ≤ f + txs M → RB2 (VLo g) (c7vL g f c) ((decide ((vlL (f + 1) M).1 12 0 18 = 0)), vlL (f + 1) M)
  | 0, c, M, h, hP, hT, hf => by
    have h37 := h.1.1.2.1
    have e0 : M.1 12 0 12 = 0 := by
      rcases hT with z | z
      · exact z
      · obtain ⟨-, S, B, s, e, ⟨-, -, hS⟩, ⟨-, h14⟩, ⟨-, h13⟩, hse, he, -⟩ := h.1
        unfold txs txe at z
        unfold txs at hf
        rw [h13, h14, nI_clamp (by omega), nI_clamp (by omega)] at z
        rw [h13, nI_clamp (by omega)] at hf
        omega
    have e : vlL 1 M = M := by rw [vlL, if_pos e0]
    rw [c7vL, show 0 + 1 = 1 from rfl, e]
    exact Or.inl ⟨rfl, decide_eq_true h.2.2.1, h⟩
  | f + 1, c, M, h, hP, hT, hf => by
    have h37 := h.1.1.2.1
    rw [c7vL, vlL]
    by_cases x : c.1 4 0 6 = 37
    · rw [if_pos x, if_pos (h37.mp x)]
      exact Or.inl ⟨rfl, decide_eq_true h.2.2.1, h⟩
    · have x0 : ¬ M.1 12 0 12 = 0 := fun z => x (h37.mpr z)
      rw [if_neg x, if_neg x0]
      rcases vp_ok h with ⟨a1, a2, a3⟩ | ⟨a1, a2, a3⟩
      · rw [pBd_t a1, if_pos a2]
        have hst := vlL_st hP x0 hT a2
        exact vl_lp f _ _ a3 (pVp_ok hP a2).1 (pVp_tk hP a2) (by omega)
      · rw [pBd_f (by rw [a1]; exact Bool.false_ne_true), if_neg (by rw [a2]; exact Bool.false_ne_true)]
        obtain ⟨⟨k, k1, k9, -, k18⟩, -⟩ := id a3
        exact Or.inr ⟨rfl, decide_eq_false (by rw [k18]; exact fun z => by have := nI_inj (q := 0) (by omega) (by decide) z; omega), a3⟩

end
