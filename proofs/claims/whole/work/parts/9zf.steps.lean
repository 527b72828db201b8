/-! PART 9ZF: STEPS and ends are read alike -/

noncomputable section
theorem ky_cs {c M : MM} (h : KND c M) : (kyA M = -1 ∧ ∀ i, i < 30 → ¬ c.1 4 0 6 = nI i) ∨ ∃ i, i < 30 ∧ c.1 4 0 6 = nI i ∧ kyA M = nI (kM i) := by
  rcases h.2.2.2.2.2.2.2.2.2.2.2.1 with e | ⟨i, hi, e⟩
  · exact Or.inl ⟨e, fun i hi z => nI_n1 (show kM i < 2 ^ 31 by have := kM_lt i hi; omega) (((h.1 i hi).mp z).symm.trans e)⟩
  · exact Or.inr ⟨i, hi, (h.1 i hi).mpr e, e⟩
theorem kM_t : ∀ i, i < 30 → (i = 16 ∨ i = 17 ∨ i = 18 ∨ i = 19 ∨ i = 21 ∨ i = 22 ∨ i = 23 ∨ i = 27 ∨ i = 29) ∨ i = 28 ∨ (kM i < 16 ∨ 26 < kM i ∨ kM i = 22) := by decide +kernel
theorem kM_st (i : Nat) (hi : i < 30) (h28 : i ≠ 28) : (c10S (nI i) ↔ ¬ (nI (kM i) < 16 ∨ 26 < nI (kM i) ∨ nI (kM i) = 22 ∨ nI (kM i) = 25)) ∧ (c10S (nI i) → (nI i = 16 ∧ nI (kM i) = 16) ∨ (nI i = 22 ∧ nI (kM i) = 17) ∨ (nI i = 21 ∧ nI (kM i) = 19) ∨ (nI i = 17 ∧ nI (kM i) = 18) ∨ (nI i = 18 ∧ nI (kM i) = 20) ∨ (nI i = 19 ∧ nI (kM i) = 21) ∨ (nI i = 23 ∧ nI (kM i) = 23) ∨ (nI i = 27 ∧ nI (kM i) = 24) ∨ (nI i = 29 ∧ nI (kM i) = 26)) := by
  have hl := kM_lt i hi
  have nat : c10S (nI i) → (i = 16 ∨ i = 17 ∨ i = 18 ∨ i = 19 ∨ i = 21 ∨ i = 22 ∨ i = 23 ∨ i = 27 ∨ i = 29) := fun z => by
    have E : ∀ q : Nat, q < 50 → nI i = nI q → i = q := fun q hq e => nI_inj (by omega) (by omega) e
    rcases z with e | e | e | e | e | e | e | e | e
    · have := E 16 (by decide) e; omega
    · have := E 17 (by decide) e; omega
    · have := E 18 (by decide) e; omega
    · have := E 19 (by decide) e; omega
    · have := E 21 (by decide) e; omega
    · have := E 22 (by decide) e; omega
    · have := E 23 (by decide) e; omega
    · have := E 27 (by decide) e; omega
    · have := E 29 (by decide) e; omega
  refine ⟨⟨fun z => ?_, fun z => ?_⟩, fun z => ?_⟩
  · rcases nat z with rfl | rfl | rfl | rfl | rfl | rfl | rfl | rfl | rfl <;> decide
  · rcases kM_t i hi with w | w | w
    · rcases w with rfl | rfl | rfl | rfl | rfl | rfl | rfl | rfl | rfl <;> decide
    · exact absurd w h28
    · refine absurd ?_ z
      rcases w with w | w | w
      · exact Or.inl ((nI_ltI (b := 16) (by omega) (by decide)).mpr w)
      · exact Or.inr (Or.inl ((nI_ltI (a := 26) (by decide) (by omega)).mpr w))
      · exact Or.inr (Or.inr (Or.inl (by rw [w]; rfl)))
  · rcases nat z with rfl | rfl | rfl | rfl | rfl | rfl | rfl | rfl | rfl <;> decide
theorem c10S_lt {x : Int32} (h : c10S x) : ∃ i, i < 30 ∧ x = nI i := by
  rcases h with e | e | e | e | e | e | e | e | e
  · exact ⟨16, by decide, e⟩
  · exact ⟨17, by decide, e⟩
  · exact ⟨18, by decide, e⟩
  · exact ⟨19, by decide, e⟩
  · exact ⟨21, by decide, e⟩
  · exact ⟨22, by decide, e⟩
  · exact ⟨23, by decide, e⟩
  · exact ⟨27, by decide, e⟩
  · exact ⟨29, by decide, e⟩
/-- a new line of the model -/
theorem ln_at {a : Nat → Int32} {k : Int32} {L : Nat} : (upd (lnF a k (2186 + 6 * L)) 2050 (lnF a k (2186 + 6 * L) 2050 + 1)) 2050 = a 2050 + 1 ∧ (upd (lnF a k (2186 + 6 * L)) 2050 (lnF a k (2186 + 6 * L) 2050 + 1)) (2186 + 6 * L) = k ∧ ∀ j, j ≠ 2050 → (j < 2186 + 6 * L ∨ 2191 + 6 * L < j) → (upd (lnF a k (2186 + 6 * L)) 2050 (lnF a k (2186 + 6 * L) 2050 + 1)) j = a j := by
  have z : ∀ j, (j < 2187 + 6 * L ∨ 2191 + 6 * L < j) → lnF a k (2186 + 6 * L) j = upd a (2186 + 6 * L) k j := fun j hj => if_neg (by omega)
  refine ⟨?_, ?_, fun j h1 h2 => ?_⟩
  · rw [upd_eq, z _ (by omega), upd_ne (by omega)]
  · rw [upd_ne (by omega), z _ (by omega), upd_eq]
  · rw [upd_ne h1, z _ (by omega), upd_ne (by omega)]
theorem c10n_k {m : MM} {g k j : Nat} (h : k ≠ 9) : (c10n m g).1 k j = m.1 k j := (if_neg (fun z => h z.1)).trans (if_neg (fun z => h z.1))
theorem c10n_8 {m : MM} {g : Nat} : (c10n m g).1 9 g 8 = m.1 9 g 8 + 1 ∧ (c10n m g).1 9 g 7 = m.1 9 g 7 + 1 := by
  unfold c10n
  refine ⟨?_, ?_⟩
  · rw [mI_ne (by decide), mI_eq2]
  · rw [mI_eq2]
theorem c10o_k {m : MM} {g k j : Nat} (h : k ≠ 49) (h2 : k ≠ 10) : (c10o m g).1 k j = m.1 k j := (if_neg (fun z => h2 z.1)).trans (if_neg (fun z => h z.1))
/-- how a STEP ends -/
theorem st_end {c c3 c5 M M4 : MM} {g v : Nat} {A0 A' : Nat → Int32} {N : Nat → Int64} {ns nm nt L S d d' : Nat} {o o' : Nat → Nat} {X : MM} (h : YVo c M g v A0 N ns nm nt L S d o) (hS30 : S < 30) (hC : CHo g L c c3) (h4 : RUo c5 X A' N c5 M4) (h17 : M4.1 12 0 17 = -1) (hA : ∀ j, j ≠ 2050 → j < 2186 + 6 * L → A' j = M.1 54 0 j) (hA5 : A' 2050 = nI (L + 1)) (hlq : LQo c3 g A' 0 L False ns nm nt) (hr : ∀ x, 43 ≤ x → x ≤ 48 → c5.1 x g = c3.1 x g) (h6 : c5.1 6 v = c.1 6 v) (h29 : c5.2.1 29 v = c.2.1 29 v) (h8 : c5.1 9 g 8 = nI (L + 1)) (h7 : c5.1 9 g 7 = nI (S + 1)) (m23 : M4.1 12 0 23 = nI (S + 1)) (h10 : c5.1 10 0 2 = nI d') (m22 : M4.1 12 0 22 = nI d') (hd3 : d' ≤ 3) (hdd : (d' = d ∧ o' = o ∧ A' (2186 + 6 * L) < 2300 ∧ ¬ A' (2186 + 6 * L) = 24 ∧ c5.1 49 0 = c.1 49 0 ∧ M4.1 61 0 = M.1 61 0) ∨ (d' = d + 1 ∧ o' = (fun i => if i = d then L else o i) ∧ (A' (2186 + 6 * L) = 24 ∨ ¬ A' (2186 + 6 * L) < 2300) ∧ c5.1 49 0 = upd (c.1 49 0) d (nI L) ∧ M4.1 61 0 = upd (M.1 61 0) d (nI L))) (n25 : ¬ A' (2186 + 6 * L) = 25) : YVo c5 M4 g v A0 N ns nm nt (L + 1) (S + 1) d' o' := by
  obtain ⟨-, -, y0, yS, ⟨y1, y2⟩, ⟨y3, y4, y5⟩, ⟨y6, y7, y8⟩, y9, y10, y11, y12⟩ := h
  have e54 := h4.2.2.2.2.1
  obtain ⟨⟨b1, b2, b3⟩, ⟨d1, d2, d3⟩, ⟨t1, t2, t3⟩, hN⟩ := yS
  have r5 : ∀ k, k < L → ∀ x, 43 ≤ x → x ≤ 48 → c5.1 x g k = c.1 x g k := fun k hk x a b => by
    rw [hr x a b]; exact hC.2.1 x k a b (by omega)
  have lines : ∀ cl' : Nat → Prop, (∀ k, k < L → cl' k → (∀ i, i < d → k ≠ o i)) → (cl' L → A' (2186 + 6 * L) < 2300 ∧ ¬ A' (2186 + 6 * L) = 24) → ∀ k, k < L + 1 → LQo c5 g A' (L + 1) k (cl' k) ns nm nt := fun cl' hk hL k hk2 => by
    by_cases e : k = L
    · rw [e]
      exact LQ_c (LQ_new (L := L + 1) (cl := cl' L) hlq hL) (Nat.le_refl _) (fun x a b => by rw [hr x a b]) (fun _ _ _ => rfl) id
    · exact LQ_c (y12 k (by omega)) (by omega) (r5 k (by omega)) (fun j a b => hA j (by omega) (by omega)) (hk k (by omega))
  refine ⟨?_, h17, fun j hj => ?_, ?_, ⟨h8, by rw [e54]; exact hA5⟩, ⟨h7, m23, by omega⟩, ⟨h10, m22, hd3⟩, ?_, ?_, ?_, ?_⟩
  · obtain ⟨a1, a2, a3, a4, a5, a6, a7, a8⟩ := h4
    exact ⟨a1, SMo_r c5, a3, a4, rfl, a6, fun _ _ => rfl, rfl⟩
  · rw [e54, hA j (by omega) (by omega)]; exact y0 j hj
  · rw [e54]
    unfold SVo NWo
    rw [h6, h29, hA 0 (by omega) (by omega), hA 1 (by omega) (by omega), hA 2 (by omega) (by omega)]
    exact ⟨⟨b1, b2, b3⟩, ⟨d1, d2, d3⟩, ⟨t1, t2, t3⟩, hN⟩
  · rcases hdd with ⟨e, -⟩ | ⟨e, -⟩ <;> omega
  · rcases hdd with ⟨rfl, rfl, -, -, e5, e6⟩ | ⟨rfl, rfl, q1, e5, e6⟩
    · intro i hi
      obtain ⟨p1, p2, p3, p4, p5⟩ := y10 i hi
      rw [e5, e6, e54, hA _ (by omega) (by omega)]
      refine ⟨p1, p2, by omega, p4, fun z => ?_⟩
      by_cases e : o' i + 1 = L
      · rw [e]; exact n25
      · rw [hA _ (by omega) (by omega)]; exact p5 (by omega)
    · intro i hi
      rw [e5, e6, e54]
      dsimp only
      by_cases e : i = d
      · rw [if_pos e, e, upd_eq, upd_eq]
        exact ⟨rfl, rfl, by omega, q1, fun z => absurd z (by omega)⟩
      · obtain ⟨p1, p2, p3, p4, p5⟩ := y10 i (by omega)
        rw [if_neg e, upd_ne e, upd_ne e, hA _ (by omega) (by omega)]
        refine ⟨p1, p2, by omega, p4, fun z => ?_⟩
        by_cases e : o i + 1 = L
        · rw [e]; exact n25
        · rw [hA _ (by omega) (by omega)]; exact p5 (by omega)
  · rcases hdd with ⟨rfl, rfl, -⟩ | ⟨rfl, rfl, -⟩
    · exact y11
    · intro i j hij hj
      dsimp only
      by_cases e : j = d
      · rw [if_pos e, if_neg (by omega)]
        exact (y10 i (by omega)).2.2.1
      · rw [if_neg e, if_neg (by omega)]
        exact y11 i j hij (by omega)
  · rw [e54]
    rcases hdd with ⟨rfl, rfl, q1, q2, -⟩ | ⟨rfl, rfl, -⟩
    · exact lines (fun k => ∀ i, i < d' → k ≠ o' i) (fun k _ z => z) (fun _ => ⟨q1, q2⟩)
    · refine lines (fun k => ∀ i, i < d + 1 → k ≠ (fun i => if i = d then L else o i) i) (fun k hk z i hi => ?_) (fun z => absurd ?_ (z d (by omega)))
      · have := z i (by omega)
        dsimp only at this
        rw [if_neg (by omega)] at this
        exact this
      · dsimp only
        rw [if_pos rfl]
theorem st_y {c M : MM} {g v : Nat} {A0 : Nat → Int32} {N : Nat → Int64} {ns nm nt L S d : Nat} {o : Nat → Nat} (h : YVo c M g v A0 N ns nm nt L S d o) (nK : ¬ c.1 4 0 6 = 28) : RB2 (fun c' M' => ∃ S' d' o', YVo c' M' g v A0 N ns nm nt (L + 1) S' d' o') (c10s g v c) (pYs M) := by
  have hY := h
  obtain ⟨yR, y17, y0, yS, ⟨y1, y2⟩, ⟨y3, y4, y5⟩, ⟨y6, y7, y8⟩, y9, y10, y11, y12⟩ := h
  have hk := yR.1.1
  unfold c10s pYs pYq
  have key : c10S (c.1 4 0 6) ↔ ¬ ysF M (kyA M) := by
    unfold ysF
    rcases ky_cs hk with ⟨e1, e2⟩ | ⟨i, hi, e1, e2⟩
    · rw [e1]
      constructor
      · intro z
        obtain ⟨i, hi, e⟩ := c10S_lt z
        exact absurd e (e2 i hi)
      · exact fun z => absurd (Or.inl (by decide)) z
    · have hi28 : i ≠ 28 := fun z => nK (by rw [e1, z]; rfl)
      rw [e1, e2, (kM_st i hi hi28).1]
      refine not_congr ⟨fun z => ?_, fun z => ?_⟩
      · rcases z with z | z | z | z
        · exact Or.inl z
        · exact Or.inr (Or.inl z)
        · exact Or.inr (Or.inr (Or.inl z))
        · exfalso
          have h28 : kM i = 25 := nI_inj (q := 25) (by have := kM_lt i hi; omega) (by decide) z
          have : i = 28 := kM_inj i hi 28 (by decide) (h28.trans (by decide))
          exact hi28 this
      · rcases z with z | z | z | z
        · exact Or.inl z
        · exact Or.inr (Or.inl z)
        · exact Or.inr (Or.inr (Or.inl z))
        · exact Or.inr (Or.inr (Or.inr z.1))
  by_cases xS : c10S (c.1 4 0 6)
  · rw [if_pos xS, if_neg (key.mp xS)]
    obtain ⟨i, hi, e1, e2⟩ : ∃ i, i < 30 ∧ c.1 4 0 6 = nI i ∧ kyA M = nI (kM i) := by
      obtain ⟨i, hi, e⟩ := c10S_lt xS
      exact ⟨i, hi, e, (hk.1 i hi).mp e⟩
    have hi28 : i ≠ 28 := fun z => nK (by rw [e1, z]; rfl)
    have n1 : ¬ M.1 12 0 12 = 1 := fun z => by
      have := hk.2.2.2.2.2.2.2.2.1.mpr z
      rw [e1] at this
      have := nI_inj (q := 38) (by omega) (by decide) this
      omega
    have hp := (kM_st i hi hi28).2 (by rw [← e1]; exact xS)
    rw [← e1, ← e2] at hp
    have n25 : ¬ kyA M = 25 := fun z => by
      rw [e2] at z
      have h28 : kM i = 25 := nI_inj (q := 25) (by have := kM_lt i hi; omega) (by decide) z
      exact hi28 (kM_inj i hi 28 (by decide) (h28.trans (by decide)))
    rw [y3, y1, y2, y4]
    by_cases x30 : S = 30
    · rw [if_neg (fun z => by have := (nI_ltI (b := 30) (by omega) (by decide)).mp z.1; omega), if_pos ⟨n25, by rw [x30]; rfl⟩]
      exact Or.inr ⟨rfl, rfl, fa_k (k := 6) yR.1 yR.2.2.2.1 (by decide) (by decide) n1⟩
    · have hL60 : L < 60 := by omega
      rw [if_pos (show nI S < 30 ∧ nI L < 60 from ⟨(nI_ltI (b := 30) (by omega) (by decide)).mpr (by omega), (nI_ltI (b := 60) (by omega) (by decide)).mpr hL60⟩), if_neg (show ¬ (¬ kyA M = 25 ∧ nI S = 30) from fun z => x30 (nI_inj (q := 30) (by omega) (by decide) z.2)), nI_clamp (show L < 2 ^ 31 by omega)]
      have hb : (c.1 4 0 6 = 23 ∨ c.1 4 0 6 = 27) ↔ opP (kyA M) := by
        unfold opP
        rcases hp with z | z | z | z | z | z | z | z | z <;> rw [z.1, z.2] <;> decide
      unfold c10s1 c10b
      rw [y6, y7]
      by_cases xo : opP (kyA M) ∧ nI d = 3
      · have d3 : d = 3 := nI_inj (q := 3) (by omega) (by decide) xo.2
        rw [if_pos (hb.mpr xo.1), if_pos (show ¬ (1 : Int32) = 0 ∧ 3 ≤ nI d from ⟨by decide, by rw [d3]; decide⟩), if_pos xo]
        exact Or.inr ⟨rfl, rfl, fa_k (k := 7) yR.1 yR.2.2.2.1 (by decide) (by decide) n1⟩
      · have nb : ¬ (¬ (if c.1 4 0 6 = 23 ∨ c.1 4 0 6 = 27 then (1 : Int32) else 0) = 0 ∧ 3 ≤ nI d) := fun z => by
          by_cases w : c.1 4 0 6 = 23 ∨ c.1 4 0 6 = 27
          · refine xo ⟨hb.mp w, ?_⟩
            have := (nI_leI (a := 3) (by decide) (by omega)).mp z.2
            have : d = 3 := by omega
            rw [this]; rfl
          · rw [if_neg w] at z
            exact z.1 rfl
        rw [if_neg nb, if_neg xo]
        unfold c10s2 ysB
        obtain ⟨l1, l2, l3⟩ := ln_at (a := M.1 54 0) (k := kyA M) (L := L)
        obtain ⟨A1, eA1⟩ : ∃ A1, A1 = upd (lnF (M.1 54 0) (kyA M) (2186 + 6 * L)) 2050 (lnF (M.1 54 0) (kyA M) (2186 + 6 * L) 2050 + 1) := ⟨_, rfl⟩
        have hln : (lnM M (kyA M) (2186 + 6 * L)).1 54 0 = A1 := by rw [eA1]; rfl
        have ln23 : (lnM M (kyA M) (2186 + 6 * L)).1 12 0 23 = nI (S + 1) := by
          show M.1 12 0 23 + (if kyA M = 25 then 0 else 1) = _
          rw [if_neg n25, y4, nI_1]
        have ln22 : (lnM M (kyA M) (2186 + 6 * L)).1 12 0 22 = nI d := y7
        have ln61 : (lnM M (kyA M) (2186 + 6 * L)).1 61 0 = M.1 61 0 := rfl
        have ln17 : (lnM M (kyA M) (2186 + 6 * L)).1 12 0 17 = -1 := y17
        have hT : TKR c (lnM M (kyA M) (2186 + 6 * L)) := yR.1
        have h18 : (lnM M (kyA M) (2186 + 6 * L)).1 12 0 18 = 0 := yR.2.2.2.1
        have hLN : (lnM M (kyA M) (2186 + 6 * L)).2.1 55 0 = N := yR.2.2.2.2.2.1
        revert hln ln23 ln22 ln61 ln17 hT h18 hLN
        generalize lnM M (kyA M) (2186 + 6 * L) = M1
        intro hln ln23 ln22 ln61 ln17 hT h18 hLN
        rw [← eA1] at l1 l2 l3
        have hRm : RUo (mRow c 43 g (upd (c.1 43 g) L (c.1 4 0 6))) M1 A1 N (mRow c 43 g (upd (c.1 43 g) L (c.1 4 0 6))) M1 := ⟨TKR_c hT rfl rfl rfl rfl, SMo_r _, yR.2.2.1, h18, hln, hLN, fun _ _ => rfl, rfl⟩
        have hR1 := RU_rb (RU_st hRm) (c' := spM (mRow c 43 g (upd (c.1 43 g) L (c.1 4 0 6)))) rfl rfl rfl rfl
        have hC1 : CHo g L c (spM (mRow c 43 g (upd (c.1 43 g) L (c.1 4 0 6)))) := CH_t (CH_R (by decide)) (CH_s (SMo_sp _))
        have e43 : (spM (mRow c 43 g (upd (c.1 43 g) L (c.1 4 0 6)))).1 43 g L = c.1 4 0 6 := by rw [(SMo_sp _).1 43 g (by decide), mRow_row, upd_eq]
        revert hR1 hC1 e43
        generalize spM (mRow c 43 g (upd (c.1 43 g) L (c.1 4 0 6))) = c1
        intro hR1 hC1 e43
        have hS1 := SV_c (A' := A1) yS hC1 (fun j hj => l3 j (by omega) (by omega))
        have e8 : c1.1 9 g 8 = nI L := by rw [hC1.1 9 g (by decide) (by omega)]; exact y1
        refine RB_bd (yo_ok hR1 hS1 e8 hL60 e43 l2 hp) (fun c3 M3 ⟨A', h3, hC3, hA', hlq, ho1, ho2⟩ => ?_)
        have hC : CHo g L c c3 := CH_t hC1 hC3
        have Aj : ∀ j, j ≠ 2050 → j < 2186 + 6 * L → A' j = M.1 54 0 j := fun j a b => by rw [hA' j (by omega), l3 j a (by omega)]
        have A5 : A' 2050 = nI (L + 1) := by rw [hA' _ (by omega), l1, y2, nI_1]
        have m3 : ∀ j, j = 17 ∨ 19 ≤ j → M3.1 12 0 j = M1.1 12 0 j := h3.2.2.2.2.2.2.1
        have n25' : ¬ A' (2186 + 6 * L) = 25 := fun z => by
          by_cases w : c1.1 43 g L = 23
          · have := ho1 w; rw [z] at this; exact this (by decide)
          · rw [ho2 w, l2] at z; exact n25 z
        unfold c10y ysC ysD
        rw [mite_f (p := kyA M = 25) n25]
        by_cases xP : opP (kyA M)
        · -- it opens
          rw [if_pos (hb.mpr xP), mite_t xP]
          have hd3 : d < 3 := by
            have : d ≠ 3 := fun z => xo ⟨xP, by rw [z]; rfl⟩
            omega
          have hX : RUo c3 (opM M3 (nI L)) A' N c3 (opM M3 (nI L)) := by
            obtain ⟨a1, a2, a3, a4, a5, a6, a7, a8⟩ := h3
            exact ⟨a1, SMo_r c3, a3, a4, a5, a6, fun _ _ => rfl, rfl⟩
          refine RB_e (sk_sg hX) (fun c4 M4 h4 => ⟨rfl, S + 1, d + 1, (fun i => if i = d then L else o i), ?_⟩)
          have e10 : c4.1 10 0 2 = nI d := by rw [h4.2.1.1 10 0 (by decide), hC.1 10 0 (by decide) (by omega)]; exact y6
          have e9 : c4.1 9 g = c.1 9 g := by rw [h4.2.1.1 9 g (by decide), hC.1 9 g (by decide) (by omega)]
          have ek : ∀ k j, k ≠ 9 → k ≠ 49 → k ≠ 10 → (c10n (c10o c4 g) g).1 k j = c4.1 k j := fun k j a b e => (c10n_k a).trans (c10o_k b e)
          show YVo (c10n (if (1 : Int32) = 0 then c4 else c10o c4 g) g) M4 g v A0 N ns nm nt (L + 1) (S + 1) (d + 1) (fun i => if i = d then L else o i)
          rw [if_neg (show ¬ (1 : Int32) = 0 by decide)]
          have p22 : M4.1 12 0 22 = nI (d + 1) := by
            rw [h4.2.2.2.2.2.2.1 22 (by decide)]
            show M3.1 12 0 22 + 1 = _
            rw [m3 22 (by decide), ln22, nI_1]
          refine st_end (X := opM M3 (nI L)) (A' := A') (c3 := c3) hY (by omega) hC ?_ ?_ Aj A5 hlq (fun x a b => ?_) ?_ ?_ ?_ ?_ ?_ ?_ p22 (by omega) (Or.inr ⟨rfl, rfl, ?_, ?_, ?_⟩) n25'
          · exact RU_rb h4 (ek 4 0 (by decide) (by decide) (by decide)) (ek 26 0 (by decide) (by decide) (by decide)) rfl rfl
          · rw [h4.2.2.2.2.2.2.1 17 (by decide)]
            show M3.1 12 0 17 = -1
            rw [m3 17 (by decide)]; exact ln17
          · rw [ek x g (by omega) (by omega) (by omega), h4.2.1.1 x g (by omega)]
          · rw [ek 6 v (by decide) (by decide) (by decide), h4.2.1.1 6 v (by decide), hC.1 6 v (by decide) (by omega)]
          · show c4.2.1 29 v = _
            rw [h4.2.1.2.1 29 v (by decide), hC.2.2.2.1 29 v (by decide)]
          · rw [c10n_8.1, c10o_k (by decide) (by decide), e9, y1, nI_1]
          · rw [c10n_8.2, c10o_k (by decide) (by decide), e9, y3, nI_1]
          · rw [h4.2.2.2.2.2.2.1 23 (by decide)]
            show M3.1 12 0 23 = _
            rw [m3 23 (by decide)]; exact ln23
          · rw [c10n_k (by decide)]
            show c4.1 10 0 2 + 1 = _
            rw [e10, nI_1]
          · by_cases w : c1.1 43 g L = 23
            · exact Or.inr (ho1 w)
            · refine Or.inl ?_
              rw [ho2 w, l2]
              rcases xP with z | z
              · exact absurd ((e43.trans ((hk.1 23 (by decide)).mpr z))) w
              · exact z
          · rw [c10n_k (by decide)]
            show upd (c4.1 49 0) (c4.1 10 0 2).toNatClampNeg (c4.1 9 g 8) = _
            rw [e10, e9, y1, nI_clamp (by omega), h4.2.1.1 49 0 (by decide), hC.1 49 0 (by decide) (by omega)]
          · rw [h4.2.2.2.2.2.2.2]
            show upd (M3.1 61 0) (M3.1 12 0 22).toNatClampNeg (nI L) = _
            rw [m3 22 (by decide), ln22, nI_clamp (by omega), h3.2.2.2.2.2.2.2, ln61]
        · -- it opens nothing
          have nb2 : ¬ (c.1 4 0 6 = 23 ∨ c.1 4 0 6 = 27) := fun z => xP (hb.mp z)
          rw [if_neg nb2, mite_f xP]
          refine RB_e (sk_sg h3) (fun c4 M4 h4 => ⟨rfl, S + 1, d, o, ?_⟩)
          show YVo (c10n (if (0 : Int32) = 0 then c4 else c10o c4 g) g) M4 g v A0 N ns nm nt (L + 1) (S + 1) d o
          rw [if_pos rfl]
          have e10 : c4.1 10 0 2 = nI d := by rw [h4.2.1.1 10 0 (by decide), hC.1 10 0 (by decide) (by omega)]; exact y6
          have e9 : c4.1 9 g = c.1 9 g := by rw [h4.2.1.1 9 g (by decide), hC.1 9 g (by decide) (by omega)]
          have w23 : ¬ c1.1 43 g L = 23 := fun z => nb2 (Or.inl (e43.symm.trans z))
          have eY : A' (2186 + 6 * L) = kyA M := by rw [ho2 w23, l2]
          refine st_end (X := M1) (A' := A') (c3 := c3) hY (by omega) hC ?_ ?_ Aj A5 hlq (fun x a b => ?_) ?_ ?_ ?_ ?_ ?_ ?_ ?_ (by omega) (Or.inl ⟨rfl, rfl, ?_, ?_, ?_, ?_⟩) n25'
          · exact RU_rb h4 (c10n_k (by decide)) (c10n_k (by decide)) rfl rfl
          · rw [h4.2.2.2.2.2.2.1 17 (by decide)]; exact ln17
          · rw [c10n_k (by omega), h4.2.1.1 x g (by omega)]
          · rw [c10n_k (by decide), h4.2.1.1 6 v (by decide), hC.1 6 v (by decide) (by omega)]
          · show c4.2.1 29 v = _
            rw [h4.2.1.2.1 29 v (by decide), hC.2.2.2.1 29 v (by decide)]
          · rw [c10n_8.1, e9, y1, nI_1]
          · rw [c10n_8.2, e9, y3, nI_1]
          · rw [h4.2.2.2.2.2.2.1 23 (by decide)]; exact ln23
          · rw [c10n_k (by decide)]; exact e10
          · rw [h4.2.2.2.2.2.2.1 22 (by decide)]; exact ln22
          · rw [eY]
            rcases hp with z | z | z | z | z | z | z | z | z <;> rw [z.2] <;> decide
          · rw [eY]; exact fun z => xP (Or.inr z)
          · rw [c10n_k (by decide), h4.2.1.1 49 0 (by decide), hC.1 49 0 (by decide) (by omega)]
          · rw [h4.2.2.2.2.2.2.2, ln61]
  · rw [if_neg xS, if_pos (Decidable.byContradiction (fun z => xS (key.mpr z)))]
    exact Or.inr ⟨rfl, rfl, fa_mi yR.1 yR.2.2.2.1⟩

end
