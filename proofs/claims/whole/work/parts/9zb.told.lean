/-! PART 9ZB: a valley that was read alike is the same valley -/

noncomputable section
theorem csR_at (y w : Nat → Int32) : ∀ n i, (i < n → csR y w n i = if y i < 0 then w (i / 4) else y i) ∧ (n ≤ i → csR y w n i = y i)
  | 0, i => ⟨fun h => absurd h (by omega), fun _ => rfl⟩
  | n + 1, i => by
    obtain ⟨h1, h2⟩ := csR_at y w n i
    rw [csR]
    refine ⟨fun h => ?_, fun h => ?_⟩
    · by_cases c : i = n
      · rw [c, upd_eq, ((csR_at y w n n).2 (Nat.le_refl n))]
      · rw [upd_ne c]; exact h1 (by omega)
    · rw [upd_ne (by omega)]; exact h2 (by omega)
/-- the years, as both hold them -/
def YRR (m : MM) (g : Nat) (a : Nat → Int32) (ns nm nt : Nat) : Prop := (m.1 9 g 6 = 0 ∧ a 10 = -1) ∨ (m.1 9 g 6 = 1 ∧ ∃ L, m.1 9 g 8 = nI L ∧ YP a ns nm nt L ∧ (∀ k, k < L → YLc m g ns nm nt L k) ∧ ∀ k, k < L → LNo m g a k)
/-- a valley, as the class and as the model hold it -/
def VGo (m : MM) (g : Nat) (a : Nat → Int32) (N : Nat → Int64) (ns nm nt : Nat) : Prop := VC2 m g ns nm nt ∧ AG (abV m g) a ns nm nt ∧ VSo a ns nm nt ∧ NEo m g nt ∧ NDo m g ∧ NWo m g N 0 ns nm nt ∧ (∃ na, m.1 6 g 16 = nI na ∧ na ≤ 12) ∧ YRR m g a ns nm nt
theorem cpF_z {a : Nat → Int32} : ∀ n, (∀ s, s < n → a (15 + 4 * s) = -1) → cpF a n = 0
  | 0, _ => rfl
  | n + 1, h => by
    rw [cpF, cpF_z n (fun s hs => h s (by omega)), h n (by omega)]
    rfl
theorem inS_0 {t : Nat} (ht : t < 31) : ¬ inS 0 (nI t) := by
  rw [show (0 : Int32) = nI 0 from rfl, inS_nI (by decide) ht, Nat.zero_testBit]
  decide
theorem co_k {m : MM} {g k h : Nat} (h1 : k ≠ 6) (h2 : k ≠ 38) (h3 : k ≠ 39) : (coM m g).1 k h = m.1 k h := (if_neg (fun z => h1 z.1)).trans ((if_neg (fun z => h2 z.1)).trans (if_neg (fun z => h3 z.1)))
theorem co_6 {m : MM} {g j : Nat} (h : j ≠ 19) : (coM m g).1 6 g j = m.1 6 g j := by
  unfold coM
  rw [mI_ne h]
  rfl
theorem co_39 {m : MM} {g : Nat} : (coM m g).1 39 g = csR (m.1 39 g) (m.1 36 g) 48 := mRow_row m 39 g _
theorem co_38 {m : MM} {g : Nat} : (coM m g).1 38 g = fnO (va_cpy (m.1 37 g) (m.1 38 g) 0 0 12) 12 := by
  exact mRow_row (mRow m 39 g (csR (m.1 39 g) (m.1 36 g) 48)) 38 g _
theorem VR_fin {c : MM} {g ns nm nt na : Nat} {A a : Nat → Int32} {N N' : Nat → Int64} (h : VRo c g A N ns nm nt na) (ha : ∀ j, j < 510 → a j = A (2040 + j)) (hN' : ∀ i, i < 20 → N' i = N (80 + i)) : VGo (coM c g) g a N' ns nm nt := by
  obtain ⟨⟨⟨c1, c2, c3⟩, ⟨d1, d2, d3⟩, ⟨t1, t2, t3⟩, ⟨f1, f2, f3⟩⟩, ⟨⟨w, w1, w2, w3, w4⟩, ⟨f, g1, g2, g3, g4⟩⟩, hS, hM, hT, hY, hL, ⟨z1, z2, z3, z4, z5⟩, ⟨u1, u2, u3, u4, u5, u6⟩, hN⟩ := h
  have aS : ∀ s q, s < 4 → q < 4 → a (12 + 4 * s + q) = A (2052 + 4 * s + q) := fun s q hs hq => by rw [ha _ (by omega), show 2040 + (12 + 4 * s + q) = 2052 + 4 * s + q by omega]
  have aM : ∀ s q, s < 4 → q < 4 → a (28 + 4 * s + q) = A (2068 + 4 * s + q) := fun s q hs hq => by rw [ha _ (by omega), show 2040 + (28 + 4 * s + q) = 2068 + 4 * s + q by omega]
  have aT : ∀ s q, s < 12 → q < 3 → a (44 + 3 * s + q) = A (2084 + 3 * s + q) := fun s q hs hq => by rw [ha _ (by omega), show 2040 + (44 + 3 * s + q) = 2084 + 3 * s + q by omega]
  have a15 : ∀ s, s < ns → a (15 + 4 * s) = -1 := fun s hs => by
    rw [show 15 + 4 * s = 12 + 4 * s + 3 by omega, aS s 3 (by omega) (by omega), show 2052 + 4 * s + 3 = 2055 + 4 * s by omega]
    exact ((hS s (by omega)).1 hs).2.2
  have a44 : ∀ t, t < nt → ∃ o, o < ns ∧ c.1 35 g t = nI o ∧ a (44 + 3 * t) = nI o := fun t ht => by
    obtain ⟨o, ho, q1, q2⟩ := ((hT t (by omega)).1 ht).1
    exact ⟨o, ho, q1, (aT t 0 (by omega) (by omega)).trans q2⟩
  have a45 : ∀ t, t < nt → ∃ w, w ≤ 99 ∧ c.1 36 g t = nI w ∧ a (45 + 3 * t) = nI w := fun t ht => by
    obtain ⟨o, ho, q1, q2⟩ := ((hT t (by omega)).1 ht).2
    refine ⟨o, ho, q1, ?_⟩
    rw [show 45 + 3 * t = 44 + 3 * t + 1 by omega, aT t 1 (by omega) (by omega), show 2084 + 3 * t + 1 = 2085 + 3 * t by omega]
    exact q2
  have a46 : ∀ t, t < nt → ∃ F, F < 4096 ∧ c.1 37 g t = nI F ∧ a (46 + 3 * t) = nI F ∧ ∀ o, F.testBit o = true → o < nt ∧ a (44 + 3 * o) = a (44 + 3 * t) := fun t ht => by
    obtain ⟨-, F, hF, q1, q2, hb⟩ := hT t (by omega)
    refine ⟨F, hF, q1, ?_, fun o ho => ?_⟩
    · rw [show 46 + 3 * t = 44 + 3 * t + 2 by omega, aT t 2 (by omega) (by omega), show 2084 + 3 * t + 2 = 2086 + 3 * t by omega]
      exact q2
    · obtain ⟨b1, b2, b3⟩ := hb o ho
      obtain ⟨p, -, p1, p2⟩ := a44 o b2
      obtain ⟨q, -, q1, q2⟩ := a44 t ht
      exact ⟨b2, by rw [p2, q2, ← p1, ← q1, b3]⟩
  have aY : ∀ t d, t < nt → d < 4 → ∃ y, y ≤ 99 ∧ a (80 + 4 * t + d) = nI y ∧ (coM c g).1 39 g (4 * t + d) = nI y := fun t d ht hd => by
    have e : a (80 + 4 * t + d) = A (2120 + 4 * t + d) := by rw [ha _ (by omega), show 2040 + (80 + 4 * t + d) = 2120 + 4 * t + d by omega]
    obtain ⟨w, hw, p1, p2⟩ := ((hT t (by omega)).1 ht).2
    rw [e, co_39, (csR_at _ _ 48 (4 * t + d)).1 (by omega), show (4 * t + d) / 4 = t by omega]
    rcases (hY t d (by omega) hd).1 ht with ⟨q1, q2⟩ | ⟨-, y, hy, q1, q2⟩
    · rw [q1, if_pos (by decide), q2]
      exact ⟨w, hw, p2, p1⟩
    · rw [q1, if_neg (n_m1 (by omega))]
      exact ⟨y, hy, q2, rfl⟩
  have aL : ∀ s d, s < 4 → d < 4 → ∃ l, l ≤ 99 ∧ a (128 + 4 * s + d) = nI l ∧ c.1 31 g (4 * s + d) = nI l := fun s d hs hd => by
    obtain ⟨l, hl, q1, q2⟩ := hL s d hs hd
    refine ⟨l, hl, ?_, q1⟩
    rw [ha _ (by omega), show 2040 + (128 + 4 * s + d) = 2168 + 4 * s + d by omega]
    exact q2
  have hVA : VA a ns nm nt := ⟨⟨(ha 0 (by omega)).trans c2, c3⟩, ⟨(ha 1 (by omega)).trans d2, d3⟩, ⟨(ha 2 (by omega)).trans t2, t3⟩, fun t ht => by
    obtain ⟨o, ho, -, q⟩ := a44 t ht
    exact ⟨o, ho, q⟩, ⟨w, w1, w2, (ha 4 (by omega)).trans w4⟩, ⟨f, g1, g2, (ha 5 (by omega)).trans g4⟩⟩
  have e8 : a 8 = 0 := (ha 8 (by omega)).trans z3
  have e9 : a 9 = 0 := (ha 9 (by omega)).trans z4
  have hBO : BO a ns nm nt := ⟨fun s hs => by
    obtain ⟨x, hx, -, q⟩ := ((hS s (by omega)).1 hs).1
    exact ⟨x, hx, (aS s 0 (by omega) (by omega)).trans q⟩, fun t ht => by
    obtain ⟨x, hx, -, q⟩ := a45 t ht
    exact ⟨x, hx, q⟩, fun t d ht hd => by
    obtain ⟨y, hy, q, -⟩ := aY t d ht hd
    exact ⟨y, hy, q⟩, fun t ht => by
    obtain ⟨F, hF, -, q, hb⟩ := a46 t ht
    exact ⟨F, hF, q, hb⟩, ⟨0, by decide, e8, fun t ht => by rw [Nat.zero_testBit] at ht; exact Bool.noConfusion ht⟩, ⟨0, by decide, e9⟩⟩
  have hVS : VSo a ns nm nt := ⟨hVA, hBO, fun t ht hi => absurd hi (by rw [e8]; exact inS_0 (by omega)), fun s hs => ⟨0, w, by
    rw [show 14 + 4 * s = 12 + 4 * s + 2 by omega, aS s 2 (by omega) (by omega), show 2052 + 4 * s + 2 = 2054 + 4 * s by omega]
    exact (hS s (by omega)).2.2, (ha 4 (by omega)).trans w4, by omega, w2, w1⟩, fun s d hs hd => by
    obtain ⟨l, hl, q, -⟩ := aL s d hs hd
    exact ⟨l, hl, q⟩, by rw [cpF_z ns a15]; exact (ha 7 (by omega)).trans z2⟩
  have b1 : ∀ j, (coM c g).1 1 g j = c.1 1 g j := fun j => congrFun (co_k (by decide) (by decide) (by decide)) j
  have bk : ∀ k, k ≠ 6 → k ≠ 38 → k ≠ 39 → (coM c g).1 k g = c.1 k g := fun k h1 h2 h3 => co_k h1 h2 h3
  have hAG : AG (abV (coM c g) g) a ns nm nt := by
    refine ⟨fun j hj => ?_, ?_, ?_, fun s q hs hq => ?_, fun d q hd hq => ?_, fun t q ht hq => ?_, fun t d ht hd => ?_, fun s d hs hd => ?_⟩
    · have : j = 0 ∨ j = 1 ∨ j = 2 ∨ j = 3 ∨ j = 4 ∨ j = 5 ∨ j = 6 := by omega
      rcases this with rfl | rfl | rfl | rfl | rfl | rfl | rfl
      · show (coM c g).1 6 g 13 = _; rw [co_6 (by decide), c1, ha 0 (by omega), c2]
      · show (coM c g).1 6 g 14 = _; rw [co_6 (by decide), d1, ha 1 (by omega), d2]
      · show (coM c g).1 6 g 15 = _; rw [co_6 (by decide), t1, ha 2 (by omega), t2]
      · show (coM c g).1 6 g 16 = _; rw [co_6 (by decide), f1, ha 3 (by omega), f2]
      · show (coM c g).1 6 g 17 = _; rw [co_6 (by decide), w3, ha 4 (by omega), w4]
      · show (coM c g).1 6 g 18 = _; rw [co_6 (by decide), g3, ha 5 (by omega), g4]
      · show (coM c g).1 1 g 4 = _; rw [b1, u2, ha 6 (by omega), z1]
    · show (coM c g).1 1 g 5 = _; rw [b1, u3, e8]
    · show (coM c g).1 1 g 6 = _; rw [b1, u4, e9]
    · obtain ⟨⟨x, hx, q1, q2⟩, q3, q4⟩ := (hS s (by omega)).1 hs
      obtain ⟨v1, v2, v3⟩ := u1 s (by omega)
      rw [aS s q (by omega) hq]
      rcases fl4 hq with rfl | rfl | rfl | rfl
      · show abV (coM c g) g (12 + 4 * s) = A (2052 + 4 * s); rw [ab_age (by omega), bk 30 (by decide) (by decide) (by decide), q1, q2]
      · rw [show 12 + 4 * s + 1 = 13 + 4 * s by omega, ab_cow (by omega), bk 16 (by decide) (by decide) (by decide), q3, show 2052 + 4 * s + 1 = 2053 + 4 * s by omega]
      · rw [show 12 + 4 * s + 2 = 14 + 4 * s by omega, ab_wek (by omega), bk 17 (by decide) (by decide) (by decide), v1, show 2052 + 4 * s + 2 = 2054 + 4 * s by omega, (hS s (by omega)).2.2]
      · rw [show 12 + 4 * s + 3 = 15 + 4 * s by omega, ab_mai (by omega), bk 18 (by decide) (by decide) (by decide), v2, show 2052 + 4 * s + 3 = 2055 + 4 * s by omega, q4]
    · obtain ⟨q1, q2, q3, q4⟩ := (hM d (by omega)).1 hd
      obtain ⟨v1, v2, v3⟩ := u1 d (by omega)
      rw [aM d q (by omega) hq]
      rcases fl4 hq with rfl | rfl | rfl | rfl
      · show abV (coM c g) g (28 + 4 * d) = A (2068 + 4 * d); rw [ab_bar (by omega), bk 32 (by decide) (by decide) (by decide), q1]
      · rw [show 28 + 4 * d + 1 = 29 + 4 * d by omega, ab_ris (by omega), bk 33 (by decide) (by decide) (by decide), q2, show 2068 + 4 * d + 1 = 2069 + 4 * d by omega]
      · rw [show 28 + 4 * d + 2 = 30 + 4 * d by omega, ab_mot (by omega), bk 34 (by decide) (by decide) (by decide), q3, show 2068 + 4 * d + 2 = 2070 + 4 * d by omega]
      · rw [show 28 + 4 * d + 3 = 31 + 4 * d by omega, ab_sui (by omega), bk 19 (by decide) (by decide) (by decide), v3, show 2068 + 4 * d + 3 = 2071 + 4 * d by omega, q4]
    · rcases fl3 hq with rfl | rfl | rfl
      · obtain ⟨o, -, q1, q2⟩ := a44 t ht
        show abV (coM c g) g (44 + 3 * t) = a (44 + 3 * t); rw [ab_of (by omega), bk 35 (by decide) (by decide) (by decide), q1, q2]
      · obtain ⟨o, -, q1, q2⟩ := a45 t ht
        rw [show 44 + 3 * t + 1 = 45 + 3 * t by omega, ab_wor (by omega), bk 36 (by decide) (by decide) (by decide), q1, q2]
      · obtain ⟨o, -, q1, q2, -⟩ := a46 t ht
        rw [show 44 + 3 * t + 2 = 46 + 3 * t by omega, ab_aft (by omega), bk 37 (by decide) (by decide) (by decide), q1, q2]
    · obtain ⟨y, -, q1, q2⟩ := aY t d ht hd
      rw [ab_say (by omega) hd, q1, q2]
    · obtain ⟨l, -, q1, q2⟩ := aL s d hs hd
      rw [ab_lik hs hd, bk 31 (by decide) (by decide) (by decide), q1, q2]
  have hVc : VA (abV (coM c g) g) ns nm nt := AG_VA (AG_sy hAG) hVA
  have hBc : BO (abV (coM c g) g) ns nm nt := AG_BO (AG_sy hAG) hBO
  have hf : ∀ t, t < 12 → va_cpy (c.1 37 g) (c.1 38 g) 0 0 12 t = nI (aN (abV (coM c g) g) nt t) := fun t ht => by
    rw [cp_at ht]
    obtain ⟨-, F, hF, q1, q2, hb⟩ := hT t ht
    unfold aN ahN
    by_cases x : t < nt
    · rw [if_pos x, ab_aft ht, bk 37 (by decide) (by decide) (by decide), q1, nI_clamp (by omega)]
    · rw [if_neg x, q1]
      refine congrArg nI (bits_0 (fun o => ?_))
      cases e : F.testBit o with
      | false => rfl
      | true => exact absurd (hb o e).1 x
  obtain ⟨n1, n2⟩ := fn_nd hVc hBc hf
  refine ⟨⟨hVc, fun s hs => Or.inl ?_, fun d hd => Or.inl ?_, 0, by decide, ?_⟩, hAG, hVS, ⟨fun t ht => ?_, ?_⟩, fun t ht => ?_, ?_, ⟨na, by rw [co_6 (by decide)]; exact f1, f3⟩, Or.inl ⟨?_, (ha 10 (by omega)).trans z5⟩⟩
  · rw [ab_mai hs, bk 18 (by decide) (by decide) (by decide)]; exact (u1 s hs).2.1
  · rw [ab_sui hd, bk 19 (by decide) (by decide) (by decide)]; exact (u1 d hd).2.2
  · show (coM c g).1 1 g 4 = _; rw [b1]; exact u2
  · rw [co_38]; exact n1 t ht
  · have e15 : (coM1 c g).1 6 g = c.1 6 g := rfl
    have e38 : (coM1 c g).1 38 g = (coM c g).1 38 g := rfl
    have q : (coM c g).1 6 g 19 = hpS ((coM1 c g).1 6 g 19) ((coM1 c g).1 38 g) ((coM1 c g).1 6 g 15).toNatClampNeg ((coM1 c g).1 6 g 15).toNatClampNeg := mI_eq2
    rw [q, e15, u5, t1, nI_clamp (by omega), hpS_st _ _ _ (by omega)]
    refine congrArg nI (stN_cg nt (fun j hj => ?_))
    exact hp_nv hVc hBc (fun t ht => by rw [e38, co_38]; exact n1 t ht) hj
  · rw [co_38]; exact n2 t ht
  · have e29 : (coM c g).2.1 29 g = c.2.1 29 g := rfl
    unfold NWo
    rw [e29]
    obtain ⟨p1, p2, p3, p4⟩ := hN
    refine ⟨fun i hi => ?_, fun i hi => ?_, fun i hi => ?_, p4⟩
    · rw [hN' _ (by omega), show 80 + (0 + i) = 80 + i by omega]; exact p1 i hi
    · rw [hN' _ (by omega), show 80 + (0 + 4 + i) = 80 + 4 + i by omega]; exact p2 i hi
    · rw [hN' _ (by omega), show 80 + (0 + 8 + i) = 80 + 8 + i by omega]; exact p3 i hi
  · rw [co_k (by decide) (by decide) (by decide)]; exact u6
/-- the tape, as both hold it -/
def TPo (c M : MM) (F : Nat) (B : Nat → Nat) : Prop := F ≤ 900 ∧ c.1 4 0 5 = nI F ∧ M.1 12 0 10 = nI F ∧ (∀ j, B j < 256) ∧ ∀ j, j < F → c.1 26 0 j = byN (B j) ∧ M.1 59 0 j = byN (B j)
/-- a text is begun -/
theorem bg_lx {c M : MM} {F n : Nat} {B : Nat → Nat} (h : TPo c M F B) (hn : n ≤ F) (hO : OWo c) : TKR (bgC c (nI n)) (bgM M n) := by
  obtain ⟨h1, h2, h3, h4, h5⟩ := h
  refine lx_step (S := n) (n := 0) (B := B) (by omega) ?_ rfl (by omega) rfl rfl ⟨h4, fun j hj => (h5 j (by omega)).1, fun j hj => ?_⟩ (fun i hi => hO i hi)
  · show (if c.1 4 0 5 < nI n then c.1 4 0 5 else nI n) = nI n
    rw [h2]
    by_cases x : nI F < nI n
    · rw [nI_ltI (by omega) (by omega)] at x
      omega
    · rw [if_neg x]
  · show (if j < n then vp_nar .byte (M.1 59 0 j) else M.1 60 0 j) = _
    rw [if_pos hj, (h5 j (by omega)).2]
    exact (by_tb _ (h4 j)).2.2.2.2.1
theorem vl3 (m : MM) (g : Nat) : (vlM3 m g).1 6 g = upd (upd (upd (upd (upd (upd (upd (m.1 6 g) 19 0) 13 0) 14 0) 15 0) 16 0) 17 2) 18 4 := by
  have e1 : (vlM1 m g).1 6 g = upd (m.1 6 g) 19 0 := mRow_row _ 6 g _
  have e2 : (ylM (dlM (vlM1 m g) g) g).1 6 g = (vlM1 m g).1 6 g := rfl
  unfold vlM3 vlM2
  rw [mRow_row, mRow_row, mRow_row, mRow_row, mRow_row, mRow_row, e2, e1]
/-- nothing is told yet -/
theorem VR_0 (c : MM) (g : Nat) (A : Nat → Int32) (N : Nat → Int64) : VRo (vlM3 c g) g (plR A 2040) N 0 0 0 0 := by
  have q31 : (vlM3 c g).1 31 g = flR (c.1 31 g) 0 (alen 31) := mRow_row (mRowL c 29 g (flQ (c.2.1 29 g) 0 (alen 29))) 31 g _
  have q37 : (vlM3 c g).1 37 g = flR (c.1 37 g) 0 (alen 37) := mRow_row (flM (mRowL c 29 g (flQ (c.2.1 29 g) 0 (alen 29))) 31 g 0) 37 g _
  have q39 : (vlM3 c g).1 39 g = flR (c.1 39 g) (-1) (alen 39) := mRow_row (flM (flM (flM (mRowL c 29 g (flQ (c.2.1 29 g) 0 (alen 29))) 31 g 0) 37 g 0) 38 g 0) 39 g _
  have q17 : (vlM3 c g).1 17 g = flR (c.1 17 g) 0 (alen 17) := mRow_row (flM (vlM1 c g) 16 g 0) 17 g _
  have q18 : (vlM3 c g).1 18 g = flR (c.1 18 g) (-1) (alen 18) := mRow_row (flM (flM (vlM1 c g) 16 g 0) 17 g 0) 18 g _
  have q19 : (vlM3 c g).1 19 g = flR (c.1 19 g) (-1) (alen 19) := mRow_row (flM (flM (flM (vlM1 c g) 16 g 0) 17 g 0) 18 g (-1)) 19 g _
  have q29 : (vlM3 c g).2.1 29 g = flQ (c.2.1 29 g) 0 (alen 29) := if_pos ⟨rfl, rfl⟩
  have q1 : (vlM3 c g).1 1 g = upd (upd (upd (c.1 1 g) 4 0) 5 0) 6 0 := by
    show (dlM (vlM1 c g) g).1 1 g = _
    unfold dlM
    rw [mRow_row, mRow_row, mRow_row]
    rfl
  have q9 : (vlM3 c g).1 9 g = upd (upd (upd (c.1 9 g) 6 0) 7 0) 8 0 := by
    show (ylM (dlM (vlM1 c g) g) g).1 9 g = _
    unfold ylM
    rw [mRow_row, mRow_row, mRow_row]
    rfl
  have pz : ∀ j, 2040 ≤ j → j < 2550 → j ≠ 2044 → j ≠ 2045 → j ≠ 2050 → plR A 2040 j = 0 := fun j h1 h2 h3 h4 h5 => by
    unfold plR
    rw [upd_ne (by omega), upd_ne (by omega), upd_ne (by omega)]
    exact if_pos ⟨h1, by omega⟩
  have p4 : plR A 2040 2044 = 2 := by
    unfold plR
    rw [upd_ne (by omega), upd_ne (by omega), upd_is (by omega)]
  have p5 : plR A 2040 2045 = 4 := by
    unfold plR
    rw [upd_ne (by omega), upd_is (by omega)]
  have p10 : plR A 2040 2050 = -1 := by
    unfold plR
    rw [upd_is (by omega)]
  unfold VRo NWo
  rw [vl3, q31, q37, q39, q17, q18, q19, q29, q1, q9, p4, p5, p10, pz 2040 (by omega) (by omega) (by omega) (by omega) (by omega), pz 2041 (by omega) (by omega) (by omega) (by omega) (by omega), pz 2042 (by omega) (by omega) (by omega) (by omega) (by omega), pz 2043 (by omega) (by omega) (by omega) (by omega) (by omega), pz 2046 (by omega) (by omega) (by omega) (by omega) (by omega), pz 2047 (by omega) (by omega) (by omega) (by omega) (by omega), pz 2048 (by omega) (by omega) (by omega) (by omega) (by omega), pz 2049 (by omega) (by omega) (by omega) (by omega) (by omega)]
  refine ⟨⟨⟨?_, rfl, by decide⟩, ⟨?_, rfl, by decide⟩, ⟨?_, rfl, by decide⟩, ⟨?_, rfl, by decide⟩⟩, ⟨⟨2, by decide, by decide, ?_, rfl⟩, ⟨4, by decide, by decide, ?_, rfl⟩⟩, fun s hs => ⟨fun z => absurd z (by omega), fun _ => pz _ (by omega) (by omega) (by omega) (by omega) (by omega), pz _ (by omega) (by omega) (by omega) (by omega) (by omega)⟩, fun d hd => ⟨fun z => absurd z (by omega), fun _ => ⟨pz _ (by omega) (by omega) (by omega) (by omega) (by omega), pz _ (by omega) (by omega) (by omega) (by omega) (by omega)⟩⟩, fun t ht => ⟨fun z => absurd z (by omega), 0, by decide, if_pos (show t < alen 37 from ht), pz _ (by omega) (by omega) (by omega) (by omega) (by omega), fun o ho => by rw [Nat.zero_testBit] at ho; exact Bool.noConfusion ho⟩, fun t d ht hd => ⟨fun z => absurd z (by omega), fun _ => if_pos (show 4 * t + d < 48 by omega)⟩, fun s d hs hd => ⟨0, by decide, if_pos (show 4 * s + d < 16 by omega), pz _ (by omega) (by omega) (by omega) (by omega) (by omega)⟩, ⟨rfl, rfl, rfl, rfl, rfl⟩, ⟨fun s hs => ⟨if_pos (show s < 4 from hs), if_pos (show s < 4 from hs), if_pos (show s < 4 from hs)⟩, rfl, rfl, rfl, ?_, rfl⟩, fun i hi => absurd hi (by omega), fun i hi => absurd hi (by omega), fun i hi => absurd hi (by omega), fun i hi _ => if_pos (show i < 20 from hi)⟩
  all_goals rfl

end
