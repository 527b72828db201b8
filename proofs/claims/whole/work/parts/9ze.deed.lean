/-! PART 9ZE: a STEP is read alike -/

noncomputable section
/-- the words of a STEP, but of a TEST -/
theorem yo_ok {c1 M1 M : MM} {A1 : Nat → Int32} {N : Nat → Int64} {g v L ns nm nt : Nat} {K Y : Int32} (h : RUo c1 M1 A1 N c1 M) (hS : SVo c1 v A1 N ns nm nt) (hL9 : c1.1 9 g 8 = nI L) (hL : L < 60) (eK : c1.1 43 g L = K) (eY : A1 (2186 + 6 * L) = Y) (hp : (K = 16 ∧ Y = 16) ∨ (K = 22 ∧ Y = 17) ∨ (K = 21 ∧ Y = 19) ∨ (K = 17 ∧ Y = 18) ∨ (K = 18 ∧ Y = 20) ∨ (K = 19 ∧ Y = 21) ∨ (K = 23 ∧ Y = 23) ∨ (K = 27 ∧ Y = 24) ∨ (K = 29 ∧ Y = 26)) : RB2 (ORo c1 M1 A1 N g L ns nm nt) (c10x g v L c1) (pYo M Y (2186 + 6 * L)) := by
  obtain ⟨⟨b1, b2, b3⟩, ⟨d1, d2, d3⟩, ⟨t1, t2, t3⟩, hN⟩ := id hS
  have e54 := h.2.2.2.2.1
  have thing : ∀ (hK : ¬ K = 23) (hK2 : K = 16 ∨ K = 21 ∨ K = 22) (hY : (K = 16 ∧ Y = 16) ∨ (K = 22 ∧ Y = 17) ∨ (K = 21 ∧ Y = 19)), RB2 (ORo c1 M1 A1 N g L ns nm nt) (c10d g v c1) (pOl M 8 (M.1 54 0 2).toNatClampNeg (2186 + 6 * L + 1)) := fun hK hK2 hY => by
    unfold c10d
    rw [hL9, nI_clamp (show L < 2 ^ 31 by omega), eK, c10_16 hK2, t1, e54, t2, nI_clamp (show nt < 2 ^ 31 by omega)]
    refine RB_w (cP_ol (k := 44) (g := g) (L := L) (v := v) (f := 8) (b := 8) (n := nt) (t := 2186 + 6 * L + 1) h (by decide) (by omega) (fun i hi => by have := hN.2.2.1 i hi; rw [show 0 + 8 + i = 8 + i by omega] at this; exact this)) (fun c3 M3 ⟨s, hs, e44, h3, hC3, ho⟩ => ⟨_, h3, hC3, fun j hj => upd_ne (by omega), Or.inl ⟨s, hs, ?_, e44, upd_is (by omega)⟩, fun z => absurd (eK.symm.trans z) hK, fun _ => upd_ne (by omega)⟩)
    rw [ho 43 (by decide) (by decide), eK, upd_ne (by omega), eY]
    exact hY
  unfold c10x
  rw [eK]
  rcases hp with ⟨k, y⟩ | ⟨k, y⟩ | ⟨k, y⟩ | ⟨k, y⟩ | ⟨k, y⟩ | ⟨k, y⟩ | ⟨k, y⟩ | ⟨k, y⟩ | ⟨k, y⟩
  · rw [if_neg (by rw [k]; decide), y]
    exact thing (by rw [k]; decide) (Or.inl k) (Or.inl ⟨k, y⟩)
  · rw [if_neg (by rw [k]; decide), y]
    exact thing (by rw [k]; decide) (Or.inr (Or.inr k)) (Or.inr (Or.inl ⟨k, y⟩))
  · rw [if_neg (by rw [k]; decide), y]
    exact thing (by rw [k]; decide) (Or.inr (Or.inl k)) (Or.inr (Or.inr ⟨k, y⟩))
  · rw [if_neg (by rw [k]; decide), y]
    show RB2 _ _ (pOl M 0 (M.1 54 0 0).toNatClampNeg (2186 + 6 * L + 1))
    unfold c10d
    rw [hL9, nI_clamp (show L < 2 ^ 31 by omega), eK, c10_17 k, b1, e54, b2, nI_clamp (show ns < 2 ^ 31 by omega)]
    refine RB_w (cP_ol (k := 44) (g := g) (L := L) (v := v) (f := 0) (b := 0) (n := ns) (t := 2186 + 6 * L + 1) h (by decide) (by omega) (fun i hi => by have := hN.1 i hi; rw [Nat.zero_add] at this ⊢; exact this)) (fun c3 M3 ⟨s, hs, e44, h3, hC3, ho⟩ => ⟨_, h3, hC3, fun j hj => upd_ne (by omega), Or.inr (Or.inl ⟨s, hs, ?_, ?_, e44, upd_is (by omega)⟩), fun z => absurd (eK.symm.trans z) (by rw [k]; decide), fun _ => upd_ne (by omega)⟩)
    · rw [ho 43 (by decide) (by decide), eK, k]
    · rw [upd_ne (by omega), eY, y]
  · rw [if_neg (by rw [k]; decide), y]
    have eC : c10d g v c1 = (true, c1) := by
      unfold c10d
      rw [hL9, nI_clamp (show L < 2 ^ 31 by omega), eK]
      exact c10_o (by rw [k]; decide) (by rw [k]; decide) (by rw [k]; decide) (by rw [k]; decide)
    rw [eC]
    exact Or.inl ⟨rfl, rfl, A1, h, CH_r g L c1, fun _ _ => rfl, Or.inr (Or.inr (Or.inl ⟨by rw [eK, k], by rw [eY, y]⟩)), fun z => absurd (eK.symm.trans z) (by rw [k]; decide), fun _ => rfl⟩
  · rw [if_neg (by rw [k]; decide), y]
    show RB2 _ _ (pBd (pOl M 0 (M.1 54 0 0).toNatClampNeg (2186 + 6 * L + 1)) (yoA (2186 + 6 * L)))
    unfold c10d
    rw [hL9, nI_clamp (show L < 2 ^ 31 by omega), eK, c10_19 k, b1, e54, b2, nI_clamp (show ns < 2 ^ 31 by omega)]
    refine RB_bd (cP_ol (k := 44) (g := g) (L := L) (v := v) (f := 0) (b := 0) (n := ns) (t := 2186 + 6 * L + 1) h (by decide) (by omega) (fun i hi => by have := hN.1 i hi; rw [Nat.zero_add] at this ⊢; exact this)) (fun c3 M3 ⟨s, hs, e44, h3, hC3, ho⟩ => ?_)
    unfold c10d2 yoA
    refine RB_bd (sk_ww (i := 20) h3 (by decide)) (fun c4 M4 h4 => ?_)
    have h4' := RU_rb h4 (c' := c4) rfl rfl rfl rfl
    have hC4 : CHo g L c1 c4 := CH_t hC3 (CH_s h4.2.1)
    obtain ⟨-, ⟨p1, p2, p3⟩, -, hN4⟩ := SV_c (A' := upd A1 (2186 + 6 * L + 1) (nI s)) hS hC4 (fun j hj => upd_ne (by omega))
    unfold c10d3 yoB pMo
    rw [p1, h4'.2.2.2.2.1, p2, nI_clamp (show nm < 2 ^ 31 by omega)]
    refine RB_w (cP_ol (k := 45) (g := g) (L := L) (v := v) (f := 4) (b := 4) (n := nm) (t := 2186 + 6 * L + 2) h4' (by decide) (by omega) (fun i hi => by have := hN4.2.1 i hi; rw [show 0 + 4 + i = 4 + i by omega] at this; exact this)) (fun c5 M5 ⟨d, hd, e45, h5, hC5, ho5⟩ => ⟨_, h5, CH_t hC4 hC5, fun j hj => ?_, Or.inr (Or.inr (Or.inr (Or.inl ⟨s, d, hs, hd, ?_, ?_, ?_, ?_, e45, upd_is (by omega)⟩))), fun z => absurd (eK.symm.trans z) (by rw [k]; decide), fun _ => ?_⟩)
    · rw [upd_ne (by omega), upd_ne (by omega)]
    · rw [ho5 43 (by decide) (by decide), h4.2.1.1 43 g (by decide), ho 43 (by decide) (by decide), eK, k]
    · rw [upd_ne (by omega), upd_ne (by omega), eY, y]
    · rw [ho5 44 (by decide) (by decide), h4.2.1.1 44 g (by decide), e44]
    · rw [upd_ne (by omega), upd_is (by omega)]
    · rw [upd_ne (by omega), upd_ne (by omega)]
  · rw [if_pos k, y]
    exact te_ok h hS hL9 hL (eK.trans k)
  · rw [if_neg (by rw [k]; decide), y]
    show RB2 _ _ (pNu M (2186 + 6 * L + 1) 1 99)
    unfold c10d
    rw [hL9, nI_clamp (show L < 2 ^ 31 by omega), eK, c10_27 k]
    refine RB_cP (by decide) (am_nu (lo := 1) (hi := 99) (t := 2186 + 6 * L + 1) h (by decide) (by decide)) (fun x c7 M7 ⟨q, q1, q2, eq, h7⟩ => ⟨_, RU_rb h7 rfl rfl rfl rfl, CH_t (CH_s h7.2.1) (CH_R (by decide)), fun j hj => upd_ne (by omega), Or.inr (Or.inr (Or.inr (Or.inr (Or.inr (Or.inr (Or.inr (Or.inl ⟨q, q1, q2, ?_, ?_, ?_, ?_, fun z => z.elim⟩))))))), fun z => absurd (eK.symm.trans z) (by rw [k]; decide), fun _ => upd_ne (by omega)⟩)
    · rw [show (mRow c7 47 g (upd (c7.1 47 g) L x)).1 43 g = c7.1 43 g from rfl, h7.2.1.1 43 g (by decide), eK, k]
    · rw [upd_ne (by omega), eY, y]
    · rw [mRow_row, upd_eq, eq]
    · rw [upd_is (by omega), eq]
  · rw [if_neg (by rw [k]; decide), y]
    have eC : c10d g v c1 = (true, c1) := by
      unfold c10d
      rw [hL9, nI_clamp (show L < 2 ^ 31 by omega), eK]
      exact c10_o (by rw [k]; decide) (by rw [k]; decide) (by rw [k]; decide) (by rw [k]; decide)
    rw [eC]
    exact Or.inl ⟨rfl, rfl, A1, h, CH_r g L c1, fun _ _ => rfl, Or.inr (Or.inr (Or.inr (Or.inr (Or.inr (Or.inr (Or.inr (Or.inr (Or.inr ⟨by rw [eK, k], by rw [eY, y]⟩)))))))), fun z => absurd (eK.symm.trans z) (by rw [k]; decide), fun _ => rfl⟩
/-- while the years are read -/
def YVo (c M : MM) (g v : Nat) (A0 : Nat → Int32) (N : Nat → Int64) (ns nm nt L S d : Nat) (o : Nat → Nat) : Prop := RUo c M (M.1 54 0) N c M ∧ M.1 12 0 17 = -1 ∧ (∀ j, j < 2050 → M.1 54 0 j = A0 j) ∧ SVo c v (M.1 54 0) N ns nm nt ∧ (c.1 9 g 8 = nI L ∧ M.1 54 0 2050 = nI L) ∧ (c.1 9 g 7 = nI S ∧ M.1 12 0 23 = nI S ∧ S ≤ 30) ∧ (c.1 10 0 2 = nI d ∧ M.1 12 0 22 = nI d ∧ d ≤ 3) ∧ L + d ≤ 2 * S ∧ (∀ i, i < d → c.1 49 0 i = nI (o i) ∧ M.1 61 0 i = nI (o i) ∧ o i < L ∧ (M.1 54 0 (2186 + 6 * o i) = 24 ∨ ¬ M.1 54 0 (2186 + 6 * o i) < 2300) ∧ (o i + 1 < L → ¬ M.1 54 0 (2186 + 6 * (o i + 1)) = 25)) ∧ (∀ i j, i < j → j < d → o i < o j) ∧ ∀ k, k < L → LQo c g (M.1 54 0) L k (∀ i, i < d → k ≠ o i) ns nm nt
theorem LQ_c {c c' : MM} {g L L' k ns nm nt : Nat} {A A' : Nat → Int32} {cl cl' : Prop} (h : LQo c g A L k cl ns nm nt) (hL : L ≤ L') (hc : ∀ x, 43 ≤ x → x ≤ 48 → c'.1 x g k = c.1 x g k) (hA : ∀ j, 2186 ≤ j → j ≤ 2191 + 6 * k → A' j = A j) (hcl : cl' → cl) : LQo c' g A' L' k cl' ns nm nt := by
  have lk : (cl → ∃ e, e < L ∧ c.1 48 g k = nI e ∧ A (2190 + 6 * k) = nI e) → (cl' → ∃ e, e < L' ∧ c.1 48 g k = nI e ∧ A (2190 + 6 * k) = nI e) := fun f z => by
    obtain ⟨e, e1, e2⟩ := f (hcl z)
    exact ⟨e, by omega, e2⟩
  unfold LQo at *
  rw [hc 43 (by decide) (by decide), hc 44 (by decide) (by decide), hc 45 (by decide) (by decide), hc 46 (by decide) (by decide), hc 47 (by decide) (by decide), hc 48 (by decide) (by decide), hA (2186 + 6 * k) (by omega) (by omega), hA (2187 + 6 * k) (by omega) (by omega), hA (2188 + 6 * k) (by omega) (by omega), hA (2189 + 6 * k) (by omega) (by omega), hA (2190 + 6 * k) (by omega) (by omega), hA (2191 + 6 * k) (by omega) (by omega)]
  rcases h with h | h | h | h | ⟨s, d, h1, h2, h3, h4, h5, h6, h7, h8, h9, h10, h11⟩ | ⟨s, d, h1, h2, h3, h4, h5, h6, h7, h8, h11⟩ | ⟨s, h1, h3, h4, h5, h6, h11⟩ | ⟨q, h1, h2, h3, h4, h5, h6, h11⟩ | ⟨o, h1, h2, h3, h4, h5, h6⟩ | h
  · exact Or.inl h
  · exact Or.inr (Or.inl h)
  · exact Or.inr (Or.inr (Or.inl h))
  · exact Or.inr (Or.inr (Or.inr (Or.inl h)))
  · exact Or.inr (Or.inr (Or.inr (Or.inr (Or.inl ⟨s, d, h1, h2, h3, h4, h5, h6, h7, h8, h9, h10, lk h11⟩))))
  · exact Or.inr (Or.inr (Or.inr (Or.inr (Or.inr (Or.inl ⟨s, d, h1, h2, h3, h4, h5, h6, h7, h8, lk h11⟩)))))
  · exact Or.inr (Or.inr (Or.inr (Or.inr (Or.inr (Or.inr (Or.inl ⟨s, h1, h3, h4, h5, h6, lk h11⟩))))))
  · exact Or.inr (Or.inr (Or.inr (Or.inr (Or.inr (Or.inr (Or.inr (Or.inl ⟨q, h1, h2, h3, h4, h5, h6, lk h11⟩)))))))
  · exact Or.inr (Or.inr (Or.inr (Or.inr (Or.inr (Or.inr (Or.inr (Or.inr (Or.inl ⟨o, h1, h2, h3, h4, h5, by rw [hA _ (by omega) (by omega)]; exact h6⟩))))))))
  · exact Or.inr (Or.inr (Or.inr (Or.inr (Or.inr (Or.inr (Or.inr (Or.inr (Or.inr h))))))))
/-- a line that opens nothing is closed at once -/
theorem LQ_new {c : MM} {g L k ns nm nt : Nat} {A : Nat → Int32} {cl : Prop} (h : LQo c g A 0 k False ns nm nt) (hn : cl → A (2186 + 6 * k) < 2300 ∧ ¬ A (2186 + 6 * k) = 24) : LQo c g A L k cl ns nm nt := by
  have no : ∀ {x : Int32} {P : Prop}, A (2186 + 6 * k) = x → (¬ x < 2300 ∨ x = 24) → (cl → P) := fun e hx z => by
    obtain ⟨n1, n2⟩ := hn z
    rw [e] at n1 n2
    rcases hx with w | w
    · exact absurd n1 w
    · exact absurd w n2
  unfold LQo at *
  rcases h with h | h | h | h | ⟨s, d, h1, h2, h3, h4, h5, h6, h7, h8, h9, h10, h11⟩ | ⟨s, d, h1, h2, h3, h4, h5, h6, h7, h8, h11⟩ | ⟨s, h1, h3, h4, h5, h6, h11⟩ | ⟨q, h1, h2, h3, h4, h5, h6, h11⟩ | h | h
  · exact Or.inl h
  · exact Or.inr (Or.inl h)
  · exact Or.inr (Or.inr (Or.inl h))
  · exact Or.inr (Or.inr (Or.inr (Or.inl h)))
  · exact Or.inr (Or.inr (Or.inr (Or.inr (Or.inl ⟨s, d, h1, h2, h3, h4, h5, h6, h7, h8, h9, h10, no h4 (Or.inl (by decide))⟩))))
  · exact Or.inr (Or.inr (Or.inr (Or.inr (Or.inr (Or.inl ⟨s, d, h1, h2, h3, h4, h5, h6, h7, h8, no h4 (Or.inl (by decide))⟩)))))
  · exact Or.inr (Or.inr (Or.inr (Or.inr (Or.inr (Or.inr (Or.inl ⟨s, h1, h3, h4, h5, h6, no h4 (Or.inl (by decide))⟩))))))
  · exact Or.inr (Or.inr (Or.inr (Or.inr (Or.inr (Or.inr (Or.inr (Or.inl ⟨q, h1, h2, h3, h4, h5, h6, no h4 (Or.inr rfl)⟩)))))))
  · exact Or.inr (Or.inr (Or.inr (Or.inr (Or.inr (Or.inr (Or.inr (Or.inr (Or.inl h))))))))
  · exact Or.inr (Or.inr (Or.inr (Or.inr (Or.inr (Or.inr (Or.inr (Or.inr (Or.inr h))))))))

end
