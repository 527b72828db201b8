/-! PART 9ZG: the years are read alike -/

noncomputable section
theorem LQ_c2 {c c' : MM} {g L L' k ns nm nt : Nat} {A A' : Nat → Int32} {cl cl' : Prop} (h : LQo c g A L k cl ns nm nt) (hL : L ≤ L') (hc : ∀ x, 43 ≤ x → x ≤ 48 → c'.1 x g k = c.1 x g k) (hA : ∀ j, 2186 + 6 * k ≤ j → j ≤ 2191 + 6 * k → A' j = A j) (hA2 : ∀ q, q ≤ k → A' (2186 + 6 * q) = A (2186 + 6 * q)) (hcl : cl' → cl) : LQo c' g A' L' k cl' ns nm nt := by
  have lk : (cl → ∃ e, e < L ∧ c.1 48 g k = nI e ∧ A (2190 + 6 * k) = nI e) → (cl' → ∃ e, e < L' ∧ c.1 48 g k = nI e ∧ A (2190 + 6 * k) = nI e) := fun f z => by
    obtain ⟨e, e1, e2⟩ := f (hcl z)
    exact ⟨e, by omega, e2⟩
  unfold LQo at *
  rw [hc 43 (by decide) (by decide), hc 44 (by decide) (by decide), hc 45 (by decide) (by decide), hc 46 (by decide) (by decide), hc 47 (by decide) (by decide), hc 48 (by decide) (by decide), hA (2186 + 6 * k) (by omega) (by omega), hA (2187 + 6 * k) (by omega) (by omega), hA (2188 + 6 * k) (by omega) (by omega), hA (2189 + 6 * k) (by omega) (by omega), hA (2190 + 6 * k) (by omega) (by omega), hA (2191 + 6 * k) (by omega) (by omega)]
  rcases h with h | h | h | h | ⟨s, d, h1, h2, h3, h4, h5, h6, h7, h8, h9, h10, h11⟩ | ⟨s, d, h1, h2, h3, h4, h5, h6, h7, h8, h11⟩ | ⟨s, h1, h3, h4, h5, h6, h11⟩ | ⟨q, h1, h2, h3, h4, h5, h6, h11⟩ | ⟨o, h1, h2, h3, h4, h5, h6⟩ | h
  · exact Or.inl h
  · exact Or.inr (Or.inl h)
  · exact Or.inr (Or.inr (Or.inl h))
  · exact Or.inr (Or.inr (Or.inr (Or.inl h)))
  · exact Or.inr (Or.inr (Or.inr (Or.inr (Or.inl ⟨s, d, h1, h2, h3, h4, h5, h6, h7, h8, h9, h10, lk h11⟩))))
  · exact Or.inr (Or.inr (Or.inr (Or.inr (Or.inr (Or.inl ⟨s, d, h1, h2, h3, h4, h5, h6, h7, h8, lk h11⟩)))))
  · exact Or.inr (Or.inr (Or.inr (Or.inr (Or.inr (Or.inr (Or.inl ⟨s, h1, h3, h4, h5, h6, lk h11⟩))))))
  · exact Or.inr (Or.inr (Or.inr (Or.inr (Or.inr (Or.inr (Or.inr (Or.inl ⟨q, h1, h2, h3, h4, h5, h6, lk h11⟩)))))))
  · exact Or.inr (Or.inr (Or.inr (Or.inr (Or.inr (Or.inr (Or.inr (Or.inr (Or.inl ⟨o, h1, h2, h3, h4, h5, by rw [hA2 _ (by omega)]; exact h6⟩))))))))
  · exact Or.inr (Or.inr (Or.inr (Or.inr (Or.inr (Or.inr (Or.inr (Or.inr (Or.inr h))))))))
/-- what was open is closed -/
theorem LQ_cl {c c' : MM} {g L L' k e ns nm nt : Nat} {A A' : Nat → Int32} {cl cl' : Prop} (h : LQo c g A L k cl ns nm nt) (ho : A (2186 + 6 * k) = 24 ∨ ¬ A (2186 + 6 * k) < 2300) (he : e < L') (hc : ∀ x, 43 ≤ x → x ≤ 47 → c'.1 x g k = c.1 x g k) (h48 : c'.1 48 g k = nI e) (hA : ∀ j, 2186 + 6 * k ≤ j → j ≤ 2191 + 6 * k → j ≠ 2190 + 6 * k → A' j = A j) (hA4 : A' (2190 + 6 * k) = nI e) : LQo c' g A' L' k cl' ns nm nt := by
  have no : ∀ x : Int32, A (2186 + 6 * k) = x → ¬ x = 24 → x < 2300 → False := fun x e1 e2 e3 => by
    rcases ho with z | z
    · exact e2 (e1.symm.trans z)
    · rw [e1] at z; exact z e3
  unfold LQo at *
  rw [hc 43 (by decide) (by decide), hc 44 (by decide) (by decide), hc 45 (by decide) (by decide), hc 46 (by decide) (by decide), hc 47 (by decide) (by decide), h48, hA (2186 + 6 * k) (by omega) (by omega) (by omega), hA (2187 + 6 * k) (by omega) (by omega) (by omega), hA (2188 + 6 * k) (by omega) (by omega) (by omega), hA (2189 + 6 * k) (by omega) (by omega) (by omega), hA4, hA (2191 + 6 * k) (by omega) (by omega) (by omega)]
  have lk : cl' → ∃ e', e' < L' ∧ nI e = nI e' ∧ nI e = nI e' := fun _ => ⟨e, he, rfl, rfl⟩
  rcases h with ⟨t, h1, h2 | h2 | h2, -⟩ | ⟨s, h1, h2, h3, -⟩ | h | ⟨s, d, h1, h2, h3, h4, -⟩ | ⟨s, d, h1, h2, h3, h4, h5, h6, h7, h8, h9, h10, h11⟩ | ⟨s, d, h1, h2, h3, h4, h5, h6, h7, h8, h11⟩ | ⟨s, h1, h3, h4, h5, h6, h11⟩ | ⟨q, h1, h2, h3, h4, h5, h6, h11⟩ | ⟨o, h1, h2, h3, -⟩ | h
  · exact (no _ h2.2 (by decide) (by decide)).elim
  · exact (no _ h2.2 (by decide) (by decide)).elim
  · exact (no _ h2.2 (by decide) (by decide)).elim
  · exact (no _ h3 (by decide) (by decide)).elim
  · exact (no _ h.2 (by decide) (by decide)).elim
  · exact (no _ h4 (by decide) (by decide)).elim
  · exact Or.inr (Or.inr (Or.inr (Or.inr (Or.inl ⟨s, d, h1, h2, h3, h4, h5, h6, h7, h8, h9, h10, lk⟩))))
  · exact Or.inr (Or.inr (Or.inr (Or.inr (Or.inr (Or.inl ⟨s, d, h1, h2, h3, h4, h5, h6, h7, h8, lk⟩)))))
  · exact Or.inr (Or.inr (Or.inr (Or.inr (Or.inr (Or.inr (Or.inl ⟨s, h1, h3, h4, h5, h6, lk⟩))))))
  · exact Or.inr (Or.inr (Or.inr (Or.inr (Or.inr (Or.inr (Or.inr (Or.inl ⟨q, h1, h2, h3, h4, h5, h6, lk⟩)))))))
  · exact (no _ h3 (by decide) (by decide)).elim
  · exact (no _ h.2 (by decide) (by decide)).elim
/-- a row and a number of the class behind an end -/
theorem c10M_at {m : MM} {g L d e : Nat} (h8 : m.1 9 g 8 = nI L) (hL : L < 1000) (h10 : m.1 10 0 2 = nI (d + 1)) (hd : d < 1000) (h49 : m.1 49 0 d = nI e) (he : e < 1000) : (c10M m g).1 43 g = upd (m.1 43 g) L 28 ∧ (c10M m g).1 48 g = upd (upd (m.1 48 g) L (nI e)) e (nI L) ∧ (c10M m g).1 9 g 8 = nI (L + 1) ∧ (c10M m g).1 9 g 7 = m.1 9 g 7 ∧ (c10M m g).1 10 0 2 = nI d ∧ (∀ k j, k ≠ 9 → k ≠ 10 → k ≠ 43 → k ≠ 48 → (c10M m g).1 k j = m.1 k j) ∧ (c10M m g).2 = m.2 := by
  have eF : c10F m = nI e := by
    unfold c10F
    rw [h10, show (1 : Int32) = nI 1 from rfl, nI_sb (by omega), show d + 1 - 1 = d by omega, nI_clamp (by omega), h49]
  have eL : (m.1 9 g 8).toNatClampNeg = L := by rw [h8, nI_clamp (by omega)]
  have e48 : (c10M1 m g).1 48 g = upd (m.1 48 g) L (nI e) := by
    have : (c10M1 m g).1 48 g = upd (m.1 48 g) (m.1 9 g 8).toNatClampNeg (c10F m) := mRow_row _ 48 g _
    rw [this, eL, eF]
  have e43 : (c10M m g).1 43 g = upd (m.1 43 g) L 28 := by
    have : (c10M m g).1 43 g = upd (m.1 43 g) (m.1 9 g 8).toNatClampNeg 28 := mRow_row (mI m 10 0 2 (m.1 10 0 2 - 1)) 43 g _
    rw [this, eL]
  have e48' : (c10M m g).1 48 g = upd (upd (m.1 48 g) L (nI e)) e (nI L) := by
    have : (c10M m g).1 48 g = upd ((c10M1 m g).1 48 g) (c10F m).toNatClampNeg (m.1 9 g 8) := mRow_row (c10M1 m g) 48 g _
    rw [this, e48, eF, h8, nI_clamp (by omega)]
  refine ⟨e43, e48', ?_, ?_, ?_, fun k j a b c d => ?_, rfl⟩
  · unfold c10M
    rw [mI_eq2, h8, nI_1]
  · unfold c10M
    rw [mI_ne (by decide)]
    rfl
  · show m.1 10 0 2 - 1 = _
    rw [h10, show (1 : Int32) = nI 1 from rfl, nI_sb (by omega)]
    rfl
  · exact (if_neg (fun z => a z.1)).trans ((if_neg (fun z => d z.1)).trans ((if_neg (fun z => d z.1)).trans ((if_neg (fun z => c z.1)).trans (if_neg (fun z => b z.1)))))
/-- an end -/
theorem en_y {c M : MM} {g v : Nat} {A0 : Nat → Int32} {N : Nat → Int64} {ns nm nt L S d : Nat} {o : Nat → Nat} (h : YVo c M g v A0 N ns nm nt L S d o) (yK : c.1 4 0 6 = 28) : RB2 (fun c' M' => ∃ S' d' o', YVo c' M' g v A0 N ns nm nt (L + 1) S' d' o') (c10e g c) (pYs M) := by
  obtain ⟨yR, y17, y0, yS, ⟨y1, y2⟩, ⟨y3, y4, y5⟩, ⟨y6, y7, y8⟩, y9, y10, y11, y12⟩ := h
  have ky : kyA M = 25 := (yR.1.1.1 28 (by decide)).mp yK
  unfold c10e pYs pYq
  rw [ky, y6, y1]
  by_cases xd : d = 0
  · rw [if_neg (fun z => by rw [xd] at z; exact absurd z.1 (by decide)), if_pos (show ysF M 25 from Or.inr (Or.inr (Or.inr ⟨rfl, by rw [y7, xd]; rfl⟩)))]
    exact Or.inr ⟨rfl, rfl, fa_mi yR.1 yR.2.2.2.1⟩
  · have hL60 : L < 60 := by omega
    have nF : ¬ ysF M 25 := by
      unfold ysF
      rw [y7]
      rintro (z | z | z | z)
      · exact absurd z (by decide)
      · exact absurd z (by decide)
      · exact absurd z (by decide)
      · exact xd (nI_inj (q := 0) (by omega) (by decide) z.2)
    rw [if_pos (show 0 < nI d ∧ nI L < 60 from ⟨(nI_ltI (a := 0) (by decide) (by omega)).mpr (by omega), (nI_ltI (b := 60) (by omega) (by decide)).mpr hL60⟩), if_neg nF, if_neg (show ¬ (¬ (25 : Int32) = 25 ∧ M.1 12 0 23 = 30) from fun z => z.1 rfl), if_neg (show ¬ (opP 25 ∧ M.1 12 0 22 = 3) from fun z => absurd z.1 (by decide)), y2, nI_clamp (show L < 2 ^ 31 by omega)]
    unfold ysB
    obtain ⟨l1, l2, l3⟩ := ln_at (a := M.1 54 0) (k := 25) (L := L)
    obtain ⟨A1, eA1⟩ : ∃ A1, A1 = upd (lnF (M.1 54 0) 25 (2186 + 6 * L)) 2050 (lnF (M.1 54 0) 25 (2186 + 6 * L) 2050 + 1) := ⟨_, rfl⟩
    have hln : (lnM M 25 (2186 + 6 * L)).1 54 0 = A1 := by rw [eA1]; rfl
    have ln23 : (lnM M 25 (2186 + 6 * L)).1 12 0 23 = nI S := by
      show M.1 12 0 23 + (if (25 : Int32) = 25 then 0 else 1) = _
      rw [if_pos rfl, y4, Int32.add_zero]
    have ln22 : (lnM M 25 (2186 + 6 * L)).1 12 0 22 = nI d := y7
    have ln61 : (lnM M 25 (2186 + 6 * L)).1 61 0 = M.1 61 0 := rfl
    have ln17 : (lnM M 25 (2186 + 6 * L)).1 12 0 17 = -1 := y17
    have hT : TKR c (lnM M 25 (2186 + 6 * L)) := yR.1
    have h18 : (lnM M 25 (2186 + 6 * L)).1 12 0 18 = 0 := yR.2.2.2.1
    have hLN : (lnM M 25 (2186 + 6 * L)).2.1 55 0 = N := yR.2.2.2.2.2.1
    revert hln ln23 ln22 ln61 ln17 hT h18 hLN
    generalize lnM M 25 (2186 + 6 * L) = M1
    intro hln ln23 ln22 ln61 ln17 hT h18 hLN
    rw [← eA1] at l1 l2 l3
    have hR := RU_st (c0 := c) (M0 := M1) (A := A1) (N := N) ⟨hT, SMo_r c, yR.2.2.1, h18, hln, hLN, fun _ _ => rfl, rfl⟩
    have eYo : pYo (ahM M1) 25 (2186 + 6 * L) = (true, ahM M1) := by
      unfold pYo
      rw [if_neg (by decide), if_neg (by decide), if_neg (by decide), if_neg (by decide), if_neg (by decide), if_neg (by decide), if_neg (by decide)]
    rw [eYo, pBd_tt]
    unfold ysC ysD
    rw [mite_f (p := opP 25) (by decide), mite_t (p := (25 : Int32) = 25) rfl]
    obtain ⟨p, rfl⟩ : ∃ p, d = p + 1 := ⟨d - 1, by omega⟩
    obtain ⟨q1, q2, q3, q4, q5⟩ := y10 p (by omega)
    have c22 : (ahM M1).1 12 0 22 = nI (p + 1) := (ah_hi (by decide)).trans ln22
    have c61 : (ahM M1).1 61 0 = M.1 61 0 := ln61
    have eO : clO (ahM M1) = nI (o p) := by
      unfold clO
      rw [c22, c61, show (1 : Int32) = nI 1 from rfl, nI_sb (by omega), show p + 1 - 1 = p by omega, nI_clamp (by omega), q2]
    have ecl : clM (ahM M1) (nI L) (2186 + 6 * L) = mI (mI (mI (ahM M1) 12 0 22 (nI p)) 54 0 (2186 + 6 * L + 4) (nI (o p))) 54 0 (2190 + 6 * o p) (nI L) := by
      unfold clM
      rw [eO, nI_clamp (show o p < 2 ^ 31 by omega), c22, show (1 : Int32) = nI 1 from rfl, nI_sb (show 1 ≤ p + 1 by omega), show p + 1 - 1 = p by omega]
    rw [ecl]
    have hX : RUo (spM c) (mI (ahM M1) 12 0 22 (nI p)) A1 N (spM c) (mI (ahM M1) 12 0 22 (nI p)) := by
      obtain ⟨a1, a2, a3, a4, a5, a6, a7, a8⟩ := hR
      exact ⟨a1, SMo_r _, a3, a4, a5, a6, fun _ _ => rfl, rfl⟩
    refine RB_e (sk_sg (RU_54 (RU_54 hX (2186 + 6 * L + 4) (nI (o p))) (2190 + 6 * o p) (nI L))) (fun c4 M4 h4 => ⟨rfl, S, p, o, ?_⟩)
    have hs4 : SMo c c4 := SMo_t (SMo_sp c) h4.2.1
    have e54 := h4.2.2.2.2.1
    have Aj : ∀ j, j ≠ 2050 → (j < 2186 + 6 * L ∨ 2191 + 6 * L < j) → j ≠ 2190 + 6 * o p → upd (upd A1 (2186 + 6 * L + 4) (nI (o p))) (2190 + 6 * o p) (nI L) j = M.1 54 0 j := fun j a b e => by
      rw [upd_ne e, upd_ne (by omega), l3 j a b]
    have A5 : upd (upd A1 (2186 + 6 * L + 4) (nI (o p))) (2190 + 6 * o p) (nI L) 2050 = nI (L + 1) := by rw [upd_ne (by omega), upd_ne (by omega), l1, y2, nI_1]
    have Ar : upd (upd A1 (2186 + 6 * L + 4) (nI (o p))) (2190 + 6 * o p) (nI L) (2186 + 6 * L) = 25 := by rw [upd_ne (by omega), upd_ne (by omega), l2]
    have A4 : upd (upd A1 (2186 + 6 * L + 4) (nI (o p))) (2190 + 6 * o p) (nI L) (2190 + 6 * L) = nI (o p) := by rw [upd_ne (by omega), upd_is (by omega)]
    have Ao : upd (upd A1 (2186 + 6 * L + 4) (nI (o p))) (2190 + 6 * o p) (nI L) (2190 + 6 * o p) = nI L := upd_eq
    revert e54 Aj A5 Ar A4 Ao h4
    generalize upd (upd A1 (2186 + 6 * L + 4) (nI (o p))) (2190 + 6 * o p) (nI L) = A'
    intro h4 e54 Aj A5 Ar A4 Ao
    obtain ⟨r43, r48, r8, r7, r10, ro, r2⟩ := c10M_at (m := c4) (g := g) (L := L) (d := p) (e := o p) (by rw [hs4.1 9 g (by decide)]; exact y1) (by omega) (by rw [hs4.1 10 0 (by decide)]; exact y6) (by omega) (by rw [hs4.1 49 0 (by decide)]; exact q1) (by omega)
    show YVo (c10M c4 g) M4 g v A0 N ns nm nt (L + 1) S p o
    obtain ⟨⟨b1, b2, b3⟩, ⟨d1, d2, d3⟩, ⟨t1, t2, t3⟩, hN⟩ := yS
    have m4 : ∀ j, j = 17 ∨ 19 ≤ j → j ≠ 22 → M4.1 12 0 j = M1.1 12 0 j := fun j hj hj2 => by
      rw [h4.2.2.2.2.2.2.1 j hj]
      show upd ((ahM M1).1 12 0) 22 (nI p) j = _
      rw [upd_ne hj2]
      exact ah_hi (by omega)
    have rows : ∀ x, 43 ≤ x → x ≤ 47 → ∀ k, k ≠ L → (c10M c4 g).1 x g k = c.1 x g k := fun x a b k hk => by
      by_cases e : x = 43
      · rw [e, r43, upd_ne hk, hs4.1 43 g (by decide)]
      · rw [ro x g (by omega) (by omega) e (by omega), hs4.1 x g (by omega)]
    refine ⟨?_, ?_, fun j hj => ?_, ?_, ⟨r8, by rw [e54]; exact A5⟩, ⟨by rw [r7, hs4.1 9 g (by decide)]; exact y3, by rw [m4 23 (by decide) (by decide)]; exact ln23, y5⟩, ⟨r10, ?_, by omega⟩, by omega, fun i hi => ?_, fun i j hij hj => y11 i j hij (by omega), fun k hk => ?_⟩
    · obtain ⟨a1, a2, a3, a4, a5, a6, a7, a8⟩ := h4
      refine ⟨TKR_c a1 (ro 4 0 (by decide) (by decide) (by decide) (by decide)) (ro 26 0 (by decide) (by decide) (by decide) (by decide)) (by rw [r2]) (by rw [r2]), SMo_r _, by rw [ro 4 0 (by decide) (by decide) (by decide) (by decide)]; exact a3, a4, rfl, a6, fun _ _ => rfl, rfl⟩
    · rw [m4 17 (by decide) (by decide)]; exact ln17
    · rw [e54, Aj j (by omega) (by omega) (by omega)]; exact y0 j hj
    · rw [e54]
      unfold SVo NWo
      rw [ro 6 v (by decide) (by decide) (by decide) (by decide), r2, hs4.1 6 v (by decide), hs4.2.1 29 v (by decide), Aj 0 (by omega) (by omega) (by omega), Aj 1 (by omega) (by omega) (by omega), Aj 2 (by omega) (by omega) (by omega)]
      exact ⟨⟨b1, b2, b3⟩, ⟨d1, d2, d3⟩, ⟨t1, t2, t3⟩, hN⟩
    · rw [h4.2.2.2.2.2.2.1 22 (by decide)]
      show upd ((ahM M1).1 12 0) 22 (nI p) 22 = _
      exact upd_eq
    · obtain ⟨p1, p2, p3, p4, p5⟩ := y10 i (by omega)
      have lt := y11 i p (by omega) (by omega)
      rw [ro 49 0 (by decide) (by decide) (by decide) (by decide), hs4.1 49 0 (by decide), h4.2.2.2.2.2.2.2, e54, Aj _ (by omega) (by omega) (by omega)]
      refine ⟨p1, ?_, by omega, p4, fun z => ?_⟩
      · show (ahM M1).1 61 0 i = _
        rw [c61]; exact p2
      · rw [Aj _ (by omega) (by omega) (by omega)]
        exact p5 (by omega)
    · rw [e54]
      by_cases eL : k = L
      · rw [eL]
        refine Or.inr (Or.inr (Or.inr (Or.inr (Or.inr (Or.inr (Or.inr (Or.inr (Or.inl ⟨o p, q3, ?_, Ar, ?_, A4, fun z => ?_⟩))))))))
        · rw [r43, upd_eq]
        · rw [r48, upd_ne (by omega), upd_eq]
        · refine Decidable.byContradiction (fun w => ?_)
          rw [Aj _ (by omega) (by omega) (by omega)] at z
          exact q5 (by omega) z
      · have hkL : k < L := by omega
        by_cases eo : k = o p
        · rw [eo]
          refine LQ_cl (y12 (o p) q3) q4 (show L < L + 1 by omega) (fun x a b => rows x a b (o p) (by omega)) ?_ (fun j a b e => Aj j (by omega) (by omega) e) Ao
          rw [r48, upd_eq]
        · refine LQ_c2 (y12 k hkL) (by omega) (fun x a b => ?_) (fun j a b => Aj j (by omega) (by omega) (by omega)) (fun q a => Aj _ (by omega) (by omega) (by omega)) (fun z i hi => ?_)
          · by_cases e : x = 48
            · rw [e, r48, upd_ne eo, upd_ne eL, hs4.1 48 g (by decide)]
            · exact rows x a (by omega) k eL
          · by_cases e : i = p
            · rw [e]; exact eo
            · exact z i (by omega)
/-- all lines -/
theorem yl_lp {g v : Nat} {A0 : Nat → Int32} {N : Nat → Int64} {ns nm nt : Nat} : ∀ f fm c M L S d o, YVo c M g v A0 N ns nm nt L S d o → 61 ≤ f + L → f ≤ fm → RB2 (fun c' M' => M'.1 12 0 12 = 0 ∧ ∃ L' S' d' o', YVo c' M' g v A0 N ns nm nt L' S' d' o') (c10vL g v f c) (decide ((yrL fm M).1 12 0 18 = 0), yrL fm M)
  | 0, fm, c, M, L, S, d, o, h, hf, _ => by
    obtain ⟨-, -, -, -, -, ⟨-, -, y5⟩, -, y9, -⟩ := h
    omega
  | f + 1, 0, c, M, L, S, d, o, h, hf, hm => absurd hm (by omega)
  | f + 1, fm + 1, c, M, L, S, d, o, h, hf, hm => by
    have hk := h.1.1.1
    have h37 := hk.2.1
    rw [c10vL, yrL]
    by_cases x : c.1 4 0 6 = 37
    · rw [if_pos x, if_pos (h37.mp x)]
      exact Or.inl ⟨rfl, decide_eq_true h.1.2.2.2.1, h37.mp x, L, S, d, o, h⟩
    · rw [if_neg x, if_neg (fun z => x (h37.mpr z))]
      have one : RB2 (fun c' M' => ∃ S' d' o', YVo c' M' g v A0 N ns nm nt (L + 1) S' d' o') (c10v1 g v c) (pYs M) := by
        unfold c10v1
        by_cases x28 : c.1 4 0 6 = 28
        · rw [if_pos x28]; exact en_y h x28
        · rw [if_neg x28]; exact st_y h x28
      rcases one with ⟨a1, a2, S', d', o', a3⟩ | ⟨a1, a2, a3⟩
      · rw [pBd_t a1, if_pos a2]
        exact yl_lp f fm _ _ (L + 1) S' d' o' a3 (by omega) (by omega)
      · rw [pBd_f (by rw [a1]; exact Bool.false_ne_true), if_neg (by rw [a2]; exact Bool.false_ne_true)]
        obtain ⟨⟨k, k1, k9, -, k18⟩, -⟩ := id a3
        exact Or.inr ⟨rfl, decide_eq_false (by rw [k18]; exact fun z => by have := nI_inj (q := 0) (by omega) (by decide) z; omega), a3⟩
/-- a closed line is a sound one -/
theorem LQ_YL {c : MM} {g L k ns nm nt : Nat} {A a : Nat → Int32} {cl : Prop} (h : LQo c g A L k cl ns nm nt) (hcl : cl) (hk : k < L) (hL : L ≤ 60) (ha : ∀ j, 146 ≤ j → j < 507 → a j = A (2040 + j)) : LNo c g a k ∧ YLc c g ns nm nt L k ∧ YL a ns nm nt L k := by
  have e0 : a (146 + 6 * k) = A (2186 + 6 * k) := by rw [ha _ (by omega) (by omega), show 2040 + (146 + 6 * k) = 2186 + 6 * k by omega]
  have e1 : a (147 + 6 * k) = A (2187 + 6 * k) := by rw [ha _ (by omega) (by omega), show 2040 + (147 + 6 * k) = 2187 + 6 * k by omega]
  have e2 : a (148 + 6 * k) = A (2188 + 6 * k) := by rw [ha _ (by omega) (by omega), show 2040 + (148 + 6 * k) = 2188 + 6 * k by omega]
  have e3 : a (149 + 6 * k) = A (2189 + 6 * k) := by rw [ha _ (by omega) (by omega), show 2040 + (149 + 6 * k) = 2189 + 6 * k by omega]
  have e4 : a (150 + 6 * k) = A (2190 + 6 * k) := by rw [ha _ (by omega) (by omega), show 2040 + (150 + 6 * k) = 2190 + 6 * k by omega]
  have e5 : a (151 + 6 * k) = A (2191 + 6 * k) := by rw [ha _ (by omega) (by omega), show 2040 + (151 + 6 * k) = 2191 + 6 * k by omega]
  unfold LNo YLc YL
  rw [e0, e1, e2, e3, e4, e5]
  rcases h with ⟨t, h1, h2, h5, h6⟩ | ⟨s, h1, h2, h3, h5, h6⟩ | ⟨h1, h2⟩ | ⟨s, d, h1, h2, h3, h4, h5, h6, h7, h8⟩ | ⟨s, d, h1, h2, h3, h4, h5, h6, h7, h8, h9, h10, h11⟩ | ⟨s, d, h1, h2, h3, h4, h5, h6, h7, h8, h11⟩ | ⟨s, h1, h3, h4, h5, h6, h11⟩ | ⟨q, h1, h2, h3, h4, h5, h6, h11⟩ | ⟨o, h1, h2, h3, h4, h5, h6⟩ | ⟨h1, h2⟩
  · refine ⟨Or.inl ⟨?_, h5.trans h6.symm⟩, ?_, ?_⟩
    · rcases h2 with z | z | z
      · exact Or.inl z
      · exact Or.inr (Or.inl z)
      · exact Or.inr (Or.inr (Or.inr z))
    · rcases h2 with z | z | z <;> rw [z.1] <;> exact ⟨fun _ => ⟨t, h1, h5⟩, fun z => absurd z (by decide), fun z => absurd z (by decide), fun z => absurd z (by decide), fun z => absurd z (by decide)⟩
    · rcases h2 with z | z | z <;> rw [z.2] <;> exact ⟨fun _ => ⟨t, h1, h6⟩, fun z => absurd z (by decide), fun z => absurd z (by decide), fun z => absurd z (by decide), fun z => absurd z (by decide), fun z => absurd z (by decide)⟩
  · rw [h2, h3]
    exact ⟨Or.inl ⟨Or.inr (Or.inr (Or.inl ⟨rfl, rfl⟩)), h5.trans h6.symm⟩, ⟨fun z => absurd z (by decide), fun _ => ⟨s, h1, h5⟩, fun z => absurd z (by decide), fun z => absurd z (by decide), fun z => absurd z (by decide)⟩, fun z => absurd z (by decide), fun _ => ⟨s, h1, h6⟩, fun z => absurd z (by decide), fun z => absurd z (by decide), fun z => absurd z (by decide), fun z => absurd z (by decide)⟩
  · rw [h1, h2]
    exact ⟨Or.inr (Or.inl ⟨rfl, rfl⟩), ⟨fun z => absurd z (by decide), fun z => absurd z (by decide), fun z => absurd z (by decide), fun z => absurd z (by decide), fun z => absurd z (by decide)⟩, fun z => absurd z (by decide), fun z => absurd z (by decide), fun z => absurd z (by decide), fun z => absurd z (by decide), fun z => absurd z (by decide), fun z => absurd z (by decide)⟩
  · rw [h3, h4]
    exact ⟨Or.inr (Or.inr (Or.inl ⟨rfl, rfl, h5.trans h6.symm, h7.trans h8.symm⟩)), ⟨fun z => absurd z (by decide), fun _ => ⟨s, h1, h5⟩, fun _ => ⟨d, h2, h7⟩, fun z => absurd z (by decide), fun z => absurd z (by decide)⟩, fun z => absurd z (by decide), fun _ => ⟨s, h1, h6⟩, fun _ => ⟨d, h2, h8⟩, fun z => absurd z (by decide), fun z => absurd z (by decide), fun z => absurd z (by decide)⟩
  · obtain ⟨e, f1, f2, f3⟩ := h11 hcl
    rw [h3, h4]
    exact ⟨Or.inr (Or.inr (Or.inr (Or.inl ⟨rfl, rfl, h5.trans h6.symm, h7.trans h8.symm, h9, h10, f2.trans f3.symm⟩))), ⟨fun z => absurd z (by decide), fun _ => ⟨s, h1, h5⟩, fun _ => ⟨d, h2, h7⟩, fun z => absurd z (by decide), fun _ => ⟨e, f1, f2⟩⟩, fun z => absurd z (by decide), fun _ => ⟨s, h1, h6⟩, fun _ => ⟨d, h2, h8⟩, fun z => absurd z (by decide), fun z => absurd z (by decide), fun _ => ⟨e, f1, f3⟩⟩
  · obtain ⟨e, f1, f2, f3⟩ := h11 hcl
    rw [h3, h4]
    exact ⟨Or.inr (Or.inr (Or.inr (Or.inr (Or.inl ⟨rfl, rfl, h5.trans h6.symm, h7.trans h8.symm, f2.trans f3.symm⟩)))), ⟨fun z => absurd z (by decide), fun _ => ⟨s, h1, h5⟩, fun _ => ⟨d, h2, h7⟩, fun z => absurd z (by decide), fun _ => ⟨e, f1, f2⟩⟩, fun z => absurd z (by decide), fun _ => ⟨s, h1, h6⟩, fun _ => ⟨d, h2, h8⟩, fun z => absurd z (by decide), fun z => absurd z (by decide), fun _ => ⟨e, f1, f3⟩⟩
  · obtain ⟨e, f1, f2, f3⟩ := h11 hcl
    rw [h3, h4]
    exact ⟨Or.inr (Or.inr (Or.inr (Or.inr (Or.inr (Or.inl ⟨rfl, rfl, h5.trans h6.symm, f2.trans f3.symm⟩))))), ⟨fun z => absurd z (by decide), fun _ => ⟨s, h1, h5⟩, fun z => absurd z (by decide), fun z => absurd z (by decide), fun _ => ⟨e, f1, f2⟩⟩, fun z => absurd z (by decide), fun _ => ⟨s, h1, h6⟩, fun z => absurd z (by decide), fun z => absurd z (by decide), fun z => absurd z (by decide), fun _ => ⟨e, f1, f3⟩⟩
  · obtain ⟨e, f1, f2, f3⟩ := h11 hcl
    rw [h3, h4]
    exact ⟨Or.inr (Or.inr (Or.inr (Or.inr (Or.inr (Or.inr (Or.inl ⟨rfl, rfl, h5.trans h6.symm, f2.trans f3.symm⟩)))))), ⟨fun z => absurd z (by decide), fun z => absurd z (by decide), fun z => absurd z (by decide), fun z => absurd z (by decide), fun z => absurd z (by decide)⟩, fun z => absurd z (by decide), fun z => absurd z (by decide), fun z => absurd z (by decide), fun _ => ⟨q, h1, h2, h6⟩, fun z => absurd z (by decide), fun z => absurd z (by decide)⟩
  · have eo : a (146 + 6 * (o + 1)) = A (2186 + 6 * (o + 1)) := by rw [ha _ (by omega) (by omega), show 2040 + (146 + 6 * (o + 1)) = 2186 + 6 * (o + 1) by omega]
    rw [h2, h3]
    exact ⟨Or.inr (Or.inr (Or.inr (Or.inr (Or.inr (Or.inr (Or.inr (Or.inl ⟨rfl, rfl, h4.trans h5.symm⟩))))))), ⟨fun z => absurd z (by decide), fun z => absurd z (by decide), fun z => absurd z (by decide), fun _ => ⟨o, h1, h4⟩, fun z => absurd z (by decide)⟩, fun z => absurd z (by decide), fun z => absurd z (by decide), fun z => absurd z (by decide), fun z => absurd z (by decide), fun _ => ⟨o, h1, h5, fun z => h6 (by rw [← eo]; exact z)⟩, fun z => absurd z (by decide)⟩
  · rw [h1, h2]
    exact ⟨Or.inr (Or.inr (Or.inr (Or.inr (Or.inr (Or.inr (Or.inr (Or.inr ⟨rfl, rfl⟩))))))), ⟨fun z => absurd z (by decide), fun z => absurd z (by decide), fun z => absurd z (by decide), fun z => absurd z (by decide), fun z => absurd z (by decide)⟩, fun z => absurd z (by decide), fun z => absurd z (by decide), fun z => absurd z (by decide), fun z => absurd z (by decide), fun z => absurd z (by decide), fun z => absurd z (by decide)⟩
/-- years() -/
theorem yt_ok {c M : MM} {g v F n ns nm nt : Nat} {B : Nat → Nat} (h : TPo c M F B) (hn : n ≤ F) (hO : OWo c) (hS : SVo c v (M.1 54 0) (M.2.1 55 0) ns nm nt) : ((c10vC g v c (nI n)).1 = true ∧ (yrE (yrD (yrL 901 (yrB M n)))).1 12 0 18 = 0 ∧ (yrE (yrD (yrL 901 (yrB M n)))).1 12 0 17 = -1 ∧ (c10vC g v c (nI n)).2.1 4 0 9 = 0 ∧ (c10vC g v c (nI n)).2.1 9 g 7 = (yrE (yrD (yrL 901 (yrB M n)))).1 12 0 23 ∧ (c10vC g v c (nI n)).2.1 9 g 6 = 1 ∧ (∀ j, j < 146 → j ≠ 10 → (yrE (yrD (yrL 901 (yrB M n)))).1 54 0 j = M.1 54 0 j) ∧ ∃ L, (c10vC g v c (nI n)).2.1 9 g 8 = nI L ∧ YP ((yrE (yrD (yrL 901 (yrB M n)))).1 54 0) ns nm nt L ∧ (∀ k, k < L → YLc (c10vC g v c (nI n)).2 g ns nm nt L k) ∧ ∀ k, k < L → LNo (c10vC g v c (nI n)).2 g ((yrE (yrD (yrL 901 (yrB M n)))).1 54 0) k) ∨ ((c10vC g v c (nI n)).1 = false ∧ FAo (c10vC g v c (nI n)).2 (yrE (yrD (yrL 901 (yrB M n)))) ∧ (c10vC g v c (nI n)).2.1 9 g 6 = 0) := by
  have hT : TPo (mI (ylM c g) 10 0 2 0) M F B := h
  have hO' : OWo (mI (ylM c g) 10 0 2 0) := hO
  have hK := bg_lx hT hn hO'
  have hSm := SMo_bg (mI (ylM c g) 10 0 2 0) (nI n)
  obtain ⟨⟨b1, b2, b3⟩, ⟨d1, d2, d3⟩, ⟨t1, t2, t3⟩, hN⟩ := hS
  have e54 : (yrB M n).1 54 0 = upd (M.1 54 0) 2050 0 := rfl
  obtain ⟨y7, y8⟩ := yl_n c g
  have h0 : YVo (c10v0 g c (nI n)) (yrB M n) g v (M.1 54 0) (M.2.1 55 0) ns nm nt 0 0 0 (fun _ => 0) := by
    have hK' : TKR (bgC (mI (ylM c g) 10 0 2 0) (nI n)) (yrB M n) := hK
    have z9 : (bgC (mI (ylM c g) 10 0 2 0) (nI n)).1 4 0 9 = 0 := by
      show (spM (bg1 _ _)).1 4 0 9 = 0
      rw [sp_9]
      rfl
    have z18 : (yrB M n).1 12 0 18 = 0 := by
      show (ahM (bgF (bgT M n))).1 12 0 18 = 0
      rw [ah_hi (by decide)]
      rfl
    have z17 : (yrB M n).1 12 0 17 = -1 := by
      show (ahM (bgF (bgT M n))).1 12 0 17 = -1
      rw [ah_hi (by decide)]
      rfl
    have f9 : (bgC (mI (ylM c g) 10 0 2 0) (nI n)).1 9 g = (ylM c g).1 9 g := by rw [hSm.1 9 g (by decide)]; rfl
    refine ⟨⟨hK', SMo_r _, z9, z18, rfl, rfl, fun _ _ => rfl, rfl⟩, z17, fun j hj => by rw [e54, upd_ne (by omega)], ?_, ⟨?_, by rw [e54]; exact upd_eq⟩, ⟨?_, rfl, by omega⟩, ⟨?_, rfl, by omega⟩, by omega, fun i hi => absurd hi (by omega), fun i j _ hj => absurd hj (by omega), fun k hk => absurd hk (by omega)⟩
    · unfold SVo NWo c10v0
      rw [hSm.1 6 v (by decide), hSm.2.1 29 v (by decide), e54, upd_ne (by decide), upd_ne (by decide), upd_ne (by decide)]
      exact ⟨⟨b1, b2, b3⟩, ⟨d1, d2, d3⟩, ⟨t1, t2, t3⟩, hN⟩
    · unfold c10v0; rw [f9]; exact y8
    · unfold c10v0; rw [f9]; exact y7
    · unfold c10v0; rw [hSm.1 10 0 (by decide)]; rfl
  have hL := yl_lp 61 901 _ _ 0 0 0 _ h0 (by omega) (by omega)
  unfold c10vC c10vE c10vF
  revert hL
  generalize c10vL g v 61 (c10v0 g c (nI n)) = p
  generalize yrL 901 (yrB M n) = q
  intro hL
  rcases hL with ⟨a1, a2, a0, L, S, d, o, a3⟩ | ⟨a1, a2, a3⟩
  · have z18 : q.1 12 0 18 = 0 := of_decide_eq_true a2
    obtain ⟨yR, y17, y0, yS, ⟨y1, y2⟩, ⟨y3, y4, y5⟩, ⟨y6, y7, y8⟩, y9, y10, y11, y12⟩ := a3
    by_cases xd : d = 0
    · have nd : ¬ (q.1 12 0 18 = 0 ∧ 0 < q.1 12 0 22) := fun z => by
        have := z.2
        rw [y7, xd] at this
        exact absurd this (by decide)
      have eD : yrD q = q := mite_f nd
      have eE : yrE q = yrC q := mite_t z18
      rw [eD, eE, if_neg (fun z => by have := z.2; rw [y6, xd] at this; exact absurd this (by decide))]
      have q6 : (mI p.2 9 g 6 (bI (p.1 = true))).1 9 g = upd (p.2.1 9 g) 6 (bI (p.1 = true)) := mRow_row _ 9 g _
      have ba : bI (p.1 = true) = 1 := bI_t a1
      have aJ : ∀ j, 146 ≤ j → j < 507 → (yrC q).1 54 0 j = q.1 54 0 (2040 + j) := fun j h1 h2 => by
        show (if 146 ≤ j ∧ j < 146 + 361 then upd (q.1 54 0) 10 (q.1 54 0 2050) (2040 + j) else _) = _
        rw [if_pos ⟨h1, by omega⟩, upd_ne (by omega)]
      have aLo : ∀ j, j < 146 → (yrC q).1 54 0 j = upd (q.1 54 0) 10 (q.1 54 0 2050) j := fun j h1 => if_neg (by omega)
      have lines := fun k (hk : k < L) => LQ_YL (y12 k hk) (fun i hi => absurd hi (by omega)) hk (by omega) aJ
      refine Or.inl ⟨a1, z18, y17, yR.2.2.1, ?_, ?_, fun j hj hj2 => ?_, L, ?_, ⟨?_, by omega, fun k hk => (lines k hk).2.2⟩, fun k hk => (lines k hk).2.1, fun k hk => (lines k hk).1⟩
      · show (mI p.2 9 g 6 (bI (p.1 = true))).1 9 g 7 = q.1 12 0 23
        rw [q6, upd_ne (by decide), y3, y4]
      · show (mI p.2 9 g 6 (bI (p.1 = true))).1 9 g 6 = 1
        rw [q6, upd_eq, ba]
      · rw [aLo j hj, upd_ne hj2]
        exact y0 j (by omega)
      · show (mI p.2 9 g 6 (bI (p.1 = true))).1 9 g 8 = nI L
        rw [q6, upd_ne (by decide), y1]
      · rw [aLo 10 (by omega), upd_eq, y2]
    · have yd : q.1 12 0 18 = 0 ∧ 0 < q.1 12 0 22 := ⟨z18, by rw [y7]; exact (nI_ltI (a := 0) (by decide) (by omega)).mpr (by omega)⟩
      have eD : yrD q = faM q 2 := mite_t yd
      have hF := fa_mi yR.1 z18
      obtain ⟨⟨k, k1, k9, k4, k18⟩, hp⟩ := hF
      have n18 : ¬ (faM q 2).1 12 0 18 = 0 := by rw [k18]; exact fun z => by have := nI_inj (q := 0) (by omega) (by decide) z; omega
      have eE : yrE (faM q 2) = faM q 2 := mite_f n18
      rw [eD, eE, if_pos ⟨a1, by rw [y6]; exact (nI_ltI (a := 0) (by decide) (by omega)).mpr (by omega)⟩]
      refine Or.inr ⟨rfl, ⟨⟨k, k1, k9, k4, k18⟩, hp⟩, ?_⟩
      show (mI (miC p.2) 9 g 6 (bI (false = true))).1 9 g 6 = 0
      exact mI_eq2
  · have n18 : ¬ q.1 12 0 18 = 0 := of_decide_eq_false a2
    have eD : yrD q = q := mite_f (fun z => n18 z.1)
    have eE : yrE q = q := mite_f n18
    rw [eD, eE, if_neg (fun z => by rw [a1] at z; exact Bool.false_ne_true z.1)]
    refine Or.inr ⟨a1, a3, ?_⟩
    show (mI p.2 9 g 6 (bI (p.1 = true))).1 9 g 6 = 0
    rw [mI_eq2, a1]
    rfl

end
