/-! PART 9U: the years are lived alike -/

noncomputable section
theorem abV_R {m : MM} {g k j : Nat} {f : Nat → Int32} (hk : ¬ (k = 1 ∨ k = 6 ∨ (15 < k ∧ k < 20) ∨ (29 < k ∧ k < 40))) : abV (mRow m k j f) g = abV m g := abV_d (fun k' h => if_neg (fun (z : k' = k ∧ g = j) => hk (z.1 ▸ h)))
/-- both hold the same valley, draws, tallies -/
def LCo (c M : MM) (g ns nm nt : Nat) : Prop := AG (abV c g) (M.1 54 0) ns nm nt ∧ VSo (M.1 54 0) ns nm nt ∧ c.1 2 0 3 = M.1 12 0 34 ∧ ∀ j, j < 5 → c.1 21 0 j = M.1 70 0 j
theorem LC_V {c M : MM} {g ns nm nt : Nat} (h : LCo c M g ns nm nt) : VA (abV c g) ns nm nt := AG_VA (AG_sy h.1) h.2.1.1
theorem LC_B {c M : MM} {g ns nm nt : Nat} (h : LCo c M g ns nm nt) : BO (abV c g) ns nm nt := AG_BO (AG_sy h.1) h.2.1.2.1
theorem bI_ff : bI (false = true) = 0 := rfl
theorem bI_tt : bI (true = true) = 1 := rfl
theorem pm_ok {c M c' M' : MM} {g ns nm nt : Nat} {p q : Prop} [Decidable p] [Decidable q] (hpq : p ↔ q) (ha : p → q → LCo c M g ns nm nt) (hb : LCo c' M' g ns nm nt) : (pMi p c c').1 = (pMi q M M').1 ∧ LCo (pMi p c c').2 (pMi q M M').2 g ns nm nt := by
  unfold pMi
  by_cases x : p
  · rw [if_pos x, if_pos (hpq.mp x)]
    exact ⟨rfl, ha x (hpq.mp x)⟩
  · rw [if_neg x, if_neg (fun z => x (hpq.mpr z))]
    exact ⟨rfl, hb⟩
theorem n_ok {c M c' M' : MM} {g ns nm nt w : Nat} {p q : Prop} [Decidable p] [Decidable q] (hpq : p ↔ q) (ha : p → q → LCo c M g ns nm nt) (hb : LCo c' M' g ns nm nt) : (c2n w (pMi p c c')).1 = (pMi q (mI M 70 0 w (M.1 70 0 w + 1)) M').1 ∧ LCo (c2n w (pMi p c c')).2 (pMi q (mI M 70 0 w (M.1 70 0 w + 1)) M').2 g ns nm nt := by
  unfold pMi c2n
  by_cases x : p
  · rw [if_pos x, if_pos (hpq.mp x)]
    obtain ⟨h1, h2, h3, h4⟩ := ha x (hpq.mp x)
    refine ⟨rfl, ?_, h2, h3, fun j hj => ?_⟩
    · show AG (abV (mRow c 21 0 _) g) _ ns nm nt
      rw [abV_R (by decide)]
      exact h1
    · show upd (c.1 21 0) w (c.1 21 0 w + 1) j = upd (M.1 70 0) w (M.1 70 0 w + 1) j
      by_cases e : j = w
      · rw [e, upd_eq, upd_eq, h4 w (by omega)]
      · rw [upd_ne e, upd_ne e, h4 j hj]
  · rw [if_neg x, if_neg (fun z => x (hpq.mpr z))]
    obtain ⟨h1, h2, h3, h4⟩ := hb
    refine ⟨rfl, ?_, h2, h3, fun j hj => ?_⟩
    · show AG (abV (mRow c' 21 0 _) g) _ ns nm nt
      rw [abV_R (by decide)]
      exact h1
    · show upd (c'.1 21 0) w (c'.1 21 0 w + 0) j = M'.1 70 0 j
      rw [← h4 j hj]
      by_cases e : j = w
      · rw [e, upd_eq, Int32.add_zero]
      · rw [upd_ne e]
theorem LC_cg {c M : MM} {g ns nm nt t f how : Nat} (h : LCo c M g ns nm nt) (hf : (f = 5 ∧ how = 8) ∨ (f = 6 ∧ how = 9)) (ht : t < nt) (hm : mgA (M.1 54 0) t) : LCo (cgM c g f t) (putA M how t) g ns nm nt := by
  obtain ⟨h1, h2, h3, h4⟩ := h
  have hV := AG_VA (AG_sy h1) h2.1
  refine ⟨?_, VS_pt h2 (by omega) ht hm, h3, h4⟩
  rw [cg_pt hV hf ht]
  exact AG_pt h1 hV (by omega) ht
theorem gv_ok {c M : MM} {g ns nm nt t : Nat} (h : LCo c M g ns nm nt) (ht : t < nt) : (c2n 2 (c2gV g c t)).1 = (pbP M t).1 ∧ LCo (c2n 2 (c2gV g c t)).2 (pbP M t).2 g ns nm nt :=
  n_ok (M := putA M 8 t) (w := 2) (AG_mgA h.1 (LC_V h) ht) (fun _ q => LC_cg h (by omega) ht q) h
theorem ga_eq {c M : MM} {g ns nm nt d : Nat} {s : Int32} (h : LCo c M g ns nm nt) (hd : M.1 12 0 34 = nI d) (hd2 : d < 65536) : (c2n 2 (c2g c g s)).1 = (pGa M s).1 ∧ LCo (c2n 2 (c2g c g s)).2 (pGa M s).2 g ns nm nt := by
  have hV := LC_V h
  have h12 := hV.2.2.1.2
  have hV' := h.2.1.1
  obtain ⟨W, eW⟩ : ∃ W, W = stN (fun j => (M.1 54 0) (44 + 3 * j) = s ∧ mgA (M.1 54 0) j) nt := ⟨_, rfl⟩
  have hW : W < 4096 := by rw [eW]; exact Nat.lt_of_lt_of_le (stN_lt _ nt) (Nat.pow_le_pow_right (n := 2) (by omega) h12)
  have eM : myA (M.1 54 0) s nt = nI W := by rw [eW]; exact myA_st _ s nt (by omega)
  have e1 : gaW M s = W := by
    unfold gaW
    rw [hV'.2.2.1.1, nI_clamp (by omega), eM, nI_clamp (by omega)]
  have e2 : c2gS c g s = nI W := by
    unfold c2gS
    rw [show c.1 6 g 15 = abV c g 2 from rfl, hV.2.2.1.1, nI_clamp (by omega), AG_myA h.1 hV s nt (Nat.le_refl _), eM]
  unfold c2g pGa
  rw [e1, e2, nI_clamp (show W < 2 ^ 31 by omega)]
  by_cases c0 : W = 0
  · have p0 : pcN W = 0 := by rw [c0]; rfl
    rw [if_pos p0, if_pos c0]
    obtain ⟨h1, h2, h3, h4⟩ := h
    refine ⟨rfl, ?_, h2, h3, fun j hj => ?_⟩
    · show AG (abV (mRow c 21 0 _) g) _ ns nm nt
      rw [abV_R (by decide)]
      exact h1
    · show upd (c.1 21 0) 2 (c.1 21 0 2 + 0) j = M.1 70 0 j
      rw [← h4 j hj]
      by_cases e : j = 2
      · rw [e, upd_eq, Int32.add_zero]
      · rw [upd_ne e]
  · have p0 : ¬ pcN W = 0 := fun z => c0 (pc_zero hW z)
    rw [if_neg p0, if_neg c0]
    have e3 : drN (c.1 2 0 3).toNatClampNeg / 8 % pcN W = gaK M s := by
      unfold gaK
      rw [e1, h.2.2.1]
    rw [e3]
    have hJ : gaK M s < pcN W := by unfold gaK; rw [e1]; exact Nat.mod_lt _ (by omega)
    obtain ⟨t, t1, t2, t3⟩ := c2T_lb hW 12 0 (gaK M s) W (by omega) hW (fun t z => absurd z (by omega)) (fun _ _ => rfl) hJ
    have ht : t < nt := by rw [eW] at t3; exact ((stN_bit _ nt t).mp t3).1
    rw [t1, t2, nI_clamp (by omega)]
    have h' : LCo (c2gM c) (gaD M) g ns nm nt := by
      obtain ⟨h1, h2, h3, h4⟩ := h
      refine ⟨?_, h2, ?_, h4⟩
      · show AG (abV (mRow c 2 0 _) g) _ ns nm nt
        rw [abV_R (by decide)]
        exact h1
      · show upd (c.1 2 0) 3 (nI (drN (c.1 2 0 3).toNatClampNeg)) 3 = upd (M.1 12 0) 34 (nI (drN (M.1 12 0 34).toNatClampNeg)) 34
        rw [upd_eq, upd_eq, h3]
    exact gv_ok h' ht
/-- a line, as the class and as the model hold it -/
def LNo (c : MM) (g : Nat) (a : Nat → Int32) (k : Nat) : Prop :=
  ((c.1 43 g k = 16 ∧ a (146 + 6 * k) = 16 ∨ c.1 43 g k = 22 ∧ a (146 + 6 * k) = 17 ∨ c.1 43 g k = 17 ∧ a (146 + 6 * k) = 18 ∨ c.1 43 g k = 21 ∧ a (146 + 6 * k) = 19) ∧ c.1 44 g k = a (147 + 6 * k)) ∨
  (c.1 43 g k = 18 ∧ a (146 + 6 * k) = 20) ∨
  (c.1 43 g k = 19 ∧ a (146 + 6 * k) = 21 ∧ c.1 44 g k = a (147 + 6 * k) ∧ c.1 45 g k = a (148 + 6 * k)) ∨
  (c.1 43 g k = 24 ∧ a (146 + 6 * k) = 2327 ∧ c.1 44 g k = a (147 + 6 * k) ∧ c.1 45 g k = a (148 + 6 * k) ∧ c.1 47 g k = a (149 + 6 * k) ∧ (c.1 46 g k = 34 ∧ a (151 + 6 * k) = 60 ∨ c.1 46 g k = 35 ∧ a (151 + 6 * k) = 62 ∨ c.1 46 g k = 36 ∧ a (151 + 6 * k) = 61) ∧ c.1 48 g k = a (150 + 6 * k)) ∨
  (c.1 43 g k = 25 ∧ a (146 + 6 * k) = 2328 ∧ c.1 44 g k = a (147 + 6 * k) ∧ c.1 45 g k = a (148 + 6 * k) ∧ c.1 48 g k = a (150 + 6 * k)) ∨
  (c.1 43 g k = 26 ∧ a (146 + 6 * k) = 2329 ∧ c.1 44 g k = a (147 + 6 * k) ∧ c.1 48 g k = a (150 + 6 * k)) ∨
  (c.1 43 g k = 27 ∧ a (146 + 6 * k) = 24 ∧ c.1 47 g k = a (147 + 6 * k) ∧ c.1 48 g k = a (150 + 6 * k)) ∨
  (c.1 43 g k = 28 ∧ a (146 + 6 * k) = 25 ∧ c.1 48 g k = a (150 + 6 * k)) ∨
  (c.1 43 g k = 29 ∧ a (146 + 6 * k) = 26)
theorem doP70 (m : MM) (k : Nat) : (doP m k).2.1 70 0 0 = m.1 70 0 0 := by
  have pb : ∀ (M : MM) j, (pbP M j).2.1 70 0 0 = M.1 70 0 0 := fun M j => by
    unfold pbP
    split
    · show upd (M.1 70 0) 2 (M.1 70 0 2 + 1) 0 = _
      exact upd_ne (by decide)
    · rfl
  have pm : ∀ (p : Prop) [Decidable p] (A : MM), A.1 70 0 0 = m.1 70 0 0 → (pMi p A m).2.1 70 0 0 = m.1 70 0 0 := fun p _ A e => by
    unfold pMi
    split
    · exact e
    · rfl
  unfold doP doQ
  split
  · exact pb m _
  split
  · exact pm _ _ rfl
  split
  · unfold pGa
    split
    · rfl
    · exact pb (gaD m) _
  split
  · exact pm _ _ rfl
  split
  · exact pm _ _ (show upd (m.1 70 0) 1 (m.1 70 0 1 + 1) 0 = m.1 70 0 0 from upd_ne (by decide))
  split
  · exact pm _ _ (show upd (m.1 70 0) 3 (m.1 70 0 3 + 1) 0 = m.1 70 0 0 from upd_ne (by decide))
  · rfl
/-- a deed is done alike -/
theorem dn_ok {c M : MM} {g ns nm nt L k d : Nat} (h : LCo c M g ns nm nt) (hl : LNo c g (M.1 54 0) k) (hy : YL (M.1 54 0) ns nm nt L k) (hd : M.1 12 0 34 = nI d) (hd2 : d < 65536) (n24 : ¬ c.1 43 g k = 24) (n25 : ¬ c.1 43 g k = 25) (n26 : ¬ c.1 43 g k = 26) (n27 : ¬ c.1 43 g k = 27) (n28 : ¬ c.1 43 g k = 28) (n29 : ¬ c.1 43 g k = 29) : (c2d c g k).1 = (doP M k).1 ∧ LCo (c2d c g k).2 (doP M k).2 g ns nm nt := by
  have hV := LC_V h
  obtain ⟨y1, y2, y3, -⟩ := hy
  unfold c2d doP
  rcases hl with ⟨q | q | q | q, e44⟩ | q | ⟨q1, q2, e44, e45⟩ | q | q | q | q | q | q
  · rw [e44, q.1, q.2]
    obtain ⟨t, ht, et⟩ := y1 (Or.inl q.2)
    rw [et]
    show (c2n 2 (c2gV g c (nI t).toNatClampNeg)).1 = (pbP M (nI t).toNatClampNeg).1 ∧ _
    have h12 := hV.2.2.1.2
    have ek : (nI t).toNatClampNeg = t := nI_clamp (by omega)
    have key := gv_ok h ht
    rw [← ek] at key
    exact key
  · rw [e44, q.1, q.2]
    obtain ⟨t, ht, et⟩ := y1 (Or.inr (Or.inl q.2))
    rw [et]
    have h12 := hV.2.2.1.2
    have ek : (nI t).toNatClampNeg = t := nI_clamp (by omega)
    have key := pm_ok (AG_mgA h.1 hV ht) (fun _ q => LC_cg (f := 6) (how := 9) h (by omega) ht q) h
    rw [← ek] at key
    exact key
  · rw [e44, q.1, q.2]
    exact ga_eq h hd hd2
  · rw [e44, q.1, q.2]
    obtain ⟨t, ht, et⟩ := y1 (Or.inr (Or.inr q.2))
    rw [et]
    have h12 := hV.2.2.1.2
    have ek : (nI t).toNatClampNeg = t := nI_clamp (by omega)
    have key : (pMi (cbP (abV c g) t) (feM c g t) c).1 = (pMi (cbP (M.1 54 0) t) (atM M (cbA (M.1 54 0) t)) M).1 ∧ LCo (pMi (cbP (abV c g) t) (feM c g t) c).2 (pMi (cbP (M.1 54 0) t) (atM M (cbA (M.1 54 0) t)) M).2 g ns nm nt :=
      pm_ok (AG_cbP h.1 hV ht) (fun p q => ⟨AG_fe h.1 hV (LC_B h) ht p.2.2.1, VS_cb h.2.1 ht q, h.2.2.1, h.2.2.2⟩) h
    rw [← ek] at key
    exact key
  · rw [q.1, q.2]
    have e6 : abV c g 6 = M.1 54 0 6 := AG_0 h.1 (by decide)
    exact n_ok (M := atM M (wkA (M.1 54 0))) (w := 1) (not_congr (by rw [e6])) (fun _ _ => ⟨AG_pw h.1 hV, VS_wk h.2.1, h.2.2.1, h.2.2.2⟩) h
  · rw [e44, e45, q1, q2]
    obtain ⟨s, hs, es⟩ := y2 (Or.inr (Or.inl q2))
    obtain ⟨x, hx, ex⟩ := y3 (Or.inl q2)
    rw [es, ex]
    have n4 := hV.1.2
    have m4 := hV.2.1.2
    have ek : (nI s).toNatClampNeg = s := nI_clamp (by omega)
    have ek2 : (nI x).toNatClampNeg = x := nI_clamp (by omega)
    have key := n_ok (M := atM M (wdA (M.1 54 0) s x)) (w := 3) (AG_wdP h.1 hV hs hx) (fun _ q => ⟨AG_mr (m := c) h.1 hV hs hx, VS_wd h.2.1 hs hx q, h.2.2.1, h.2.2.2⟩) h
    rw [← ek, ← ek2] at key
    exact key
  · exact absurd q.1 n24
  · exact absurd q.1 n25
  · exact absurd q.1 n26
  · exact absurd q.1 n27
  · exact absurd q.1 n28
  · exact absurd q.1 n29
/-- a test holds alike -/
theorem tt_ok {c M : MM} {g ns nm nt L k : Nat} (h : LCo c M g ns nm nt) (hl : LNo c g (M.1 54 0) k) (hy : YL (M.1 54 0) ns nm nt L k) (ht : c.1 43 g k = 24 ∨ c.1 43 g k = 25 ∨ c.1 43 g k = 26) : (c2t c g k ↔ hoP (M.1 54 0) k) ∧ ¬ (M.1 54 0) (146 + 6 * k) < 2300 ∧ c.1 48 g k = M.1 54 0 (150 + 6 * k) := by
  have hV := LC_V h
  have n4 := hV.1.2
  have m4 := hV.2.1.2
  obtain ⟨-, y2, y3, -⟩ := hy
  rcases hl with ⟨q | q | q | q, e44⟩ | q | ⟨q1, q2, e44, e45⟩ | q | q | q | q | q | q
  · rw [q.1] at ht; exact absurd ht (by decide)
  · rw [q.1] at ht; exact absurd ht (by decide)
  · rw [q.1] at ht; exact absurd ht (by decide)
  · rw [q.1] at ht; exact absurd ht (by decide)
  · rw [q.1] at ht; exact absurd ht (by decide)
  · rw [q1] at ht; exact absurd ht (by decide)
  · obtain ⟨q1, q2, e44, e45, e47, e46, e48⟩ := q
    have n : ¬ M.1 54 0 (146 + 6 * k) < 2300 := by rw [q2]; decide
    have n29 : ¬ M.1 54 0 (146 + 6 * k) - 2300 = 29 := by rw [q2]; decide
    have n28 : ¬ M.1 54 0 (146 + 6 * k) - 2300 = 28 := by rw [q2]; decide
    obtain ⟨x, hx, ex⟩ := y3 (Or.inr ⟨n, n29⟩)
    refine ⟨?_, n, e48⟩
    rw [c2t_24 (by rw [q1]; decide) (by rw [q1]; decide)]
    have eh : hoP (M.1 54 0) k ↔ cpP (hdA (M.1 54 0) (M.1 54 0 (147 + 6 * k)) (M.1 54 0 (148 + 6 * k)).toNatClampNeg) (M.1 54 0 (151 + 6 * k)) (M.1 54 0 (149 + 6 * k)) := by
      unfold hoP
      rw [if_neg n29, if_neg n28]
    rw [eh, e44, e45, e47, ex, nI_clamp (by omega), AG_hdA h.1 hV _ (show x < 4 by omega)]
    unfold cpC cpP
    rcases e46 with ⟨z1, z2⟩ | ⟨z1, z2⟩ | ⟨z1, z2⟩
    · rw [z1, z2]; exact Iff.rfl
    · rw [z1, z2]; exact Iff.rfl
    · rw [z1, z2]; exact Iff.rfl
  · obtain ⟨q1, q2, e44, e45, e48⟩ := q
    have n : ¬ M.1 54 0 (146 + 6 * k) < 2300 := by rw [q2]; decide
    have n29 : ¬ M.1 54 0 (146 + 6 * k) - 2300 = 29 := by rw [q2]; decide
    have y28 : M.1 54 0 (146 + 6 * k) - 2300 = 28 := by rw [q2]; decide
    obtain ⟨x, hx, ex⟩ := y3 (Or.inr ⟨n, n29⟩)
    obtain ⟨s, hs, es⟩ := y2 (Or.inr (Or.inr n))
    refine ⟨?_, n, e48⟩
    rw [c2t_25 (by rw [q1]; decide) q1]
    have eh : hoP (M.1 54 0) k ↔ ysA (M.1 54 0) (M.1 54 0 (147 + 6 * k)).toNatClampNeg (M.1 54 0 (148 + 6 * k)).toNatClampNeg := by
      unfold hoP
      rw [if_neg n29, if_pos y28]
    rw [eh, e44, e45, ex, es, nI_clamp (by omega), nI_clamp (by omega)]
    exact AG_ysA h.1 hV hs hx
  · obtain ⟨q1, q2, e44, e48⟩ := q
    have n : ¬ M.1 54 0 (146 + 6 * k) < 2300 := by rw [q2]; decide
    have y29 : M.1 54 0 (146 + 6 * k) - 2300 = 29 := by rw [q2]; decide
    refine ⟨?_, n, e48⟩
    rw [c2t_26 q1]
    have eh : hoP (M.1 54 0) k ↔ thA (M.1 54 0) (M.1 54 0 (147 + 6 * k)) &&& (M.1 54 0 8 ^^^ (-1)) = 0 := by
      unfold hoP
      rw [if_pos y29]
    rw [eh, e44, AG_thA h.1 hV, AG_8 h.1]
  · rw [q.1] at ht; exact absurd ht (by decide)
  · rw [q.1] at ht; exact absurd ht (by decide)
  · rw [q.1] at ht; exact absurd ht (by decide)
/-- while they live -/
def LLo (c M : MM) : Prop := ∀ o, o < 60 → ∃ p, p ≤ 99 ∧ c.1 20 0 o = nI p ∧ M.1 69 0 o = nI (p - 1)
def LRo (c M : MM) (g ns nm nt L : Nat) : Prop := LVc c g ns nm nt L ∧ LV M ns nm nt L ∧ LCo c M g ns nm nt ∧ c.1 2 0 2 = M.1 12 0 35 ∧ LLo c M ∧ ∀ k, k < L → LNo c g (M.1 54 0) k
theorem LNo_c {c c' : MM} {g k : Nat} {a a' : Nat → Int32} (h : LNo c g a k) (hc : ∀ x, 43 ≤ x → x ≤ 48 → c'.1 x g = c.1 x g) (ha : ∀ j, 44 ≤ j → a' j = a j) : LNo c' g a' k := by
  unfold LNo
  rw [hc 43 (by decide) (by decide), hc 44 (by decide) (by decide), hc 45 (by decide) (by decide), hc 46 (by decide) (by decide), hc 47 (by decide) (by decide), hc 48 (by decide) (by decide), ha _ (by omega), ha _ (by omega), ha _ (by omega), ha _ (by omega), ha _ (by omega), ha _ (by omega)]
  exact h
/-- only an end ends -/
theorem LN_28 {c : MM} {g k : Nat} {a : Nat → Int32} (h : LNo c g a k) : (c.1 43 g k = 28 ↔ a (146 + 6 * k) = 25) ∧ (c.1 43 g k = 29 ↔ a (146 + 6 * k) = 26) ∧ (c.1 43 g k = 27 ↔ a (146 + 6 * k) = 24) ∧ ((c.1 43 g k = 24 ∨ c.1 43 g k = 25 ∨ c.1 43 g k = 26) ↔ ¬ a (146 + 6 * k) < 2300) := by
  rcases h with ⟨q | q | q | q, e44⟩ | q | ⟨q1, q2, e44, e45⟩ | ⟨q1, q2, -⟩ | ⟨q1, q2, -⟩ | ⟨q1, q2, -⟩ | ⟨q1, q2, -⟩ | ⟨q1, q2, -⟩ | q
  · rw [q.1, q.2]; decide
  · rw [q.1, q.2]; decide
  · rw [q.1, q.2]; decide
  · rw [q.1, q.2]; decide
  · rw [q.1, q.2]; decide
  · rw [q1, q2]; decide
  · rw [q1, q2]; decide
  · rw [q1, q2]; decide
  · rw [q1, q2]; decide
  · rw [q1, q2]; decide
  · rw [q1, q2]; decide
  · rw [q.1, q.2]; decide
theorem LN_li {c : MM} {g k : Nat} {a : Nat → Int32} (h : LNo c g a k) (e : c.1 43 g k = 28 ∨ c.1 43 g k = 27) : c.1 48 g k = a (150 + 6 * k) ∧ (c.1 43 g k = 27 → c.1 47 g k = a (147 + 6 * k)) := by
  rcases h with ⟨q | q | q | q, e44⟩ | q | ⟨q1, q2, e44, e45⟩ | ⟨q1, q2, -⟩ | ⟨q1, q2, -⟩ | ⟨q1, q2, -⟩ | ⟨q1, q2, e1, e2⟩ | ⟨q1, q2, e2⟩ | q
  · rw [q.1] at e; exact absurd e (by decide)
  · rw [q.1] at e; exact absurd e (by decide)
  · rw [q.1] at e; exact absurd e (by decide)
  · rw [q.1] at e; exact absurd e (by decide)
  · rw [q.1] at e; exact absurd e (by decide)
  · rw [q1] at e; exact absurd e (by decide)
  · rw [q1] at e; exact absurd e (by decide)
  · rw [q1] at e; exact absurd e (by decide)
  · rw [q1] at e; exact absurd e (by decide)
  · exact ⟨e2, fun _ => e1⟩
  · exact ⟨e2, fun z => by rw [q1] at z; exact absurd z (by decide)⟩
  · rw [q.1] at e; exact absurd e (by decide)
/-- an end -/
theorem ee_ok {c M : MM} {g ns nm nt L k : Nat} (h : LRo c M g ns nm nt L) (hk : k < L) (e : c.1 43 g k = 28) : LRo (c2E c g k).2 (enM M k) g ns nm nt L ∧ (c2E c g k).1 = nI (enK M k) ∧ enK M k ≤ L := by
  obtain ⟨hc, hM, hC, hst, hl, hn⟩ := h
  have hL60 := hM.2.1.2.1
  have eM : M.1 54 0 (146 + 6 * k) = 25 := (LN_28 (hn k hk)).1.mp e
  have hp := (c2E_ok hc hk e).1
  have hLV := LV_en hM ⟨hk, eM⟩
  obtain ⟨-, -, hkL, -⟩ := en_ok hM.2.1 hM.2.2.1 (show clP M L k from ⟨hk, eM⟩)
  obtain ⟨o, ho, eo, -⟩ := (hM.2.1.2.2 k hk).2.2.2.2.1 eM
  have eo2 : enO (M.1 54 0) k = o := by unfold enO; rw [eo, nI_clamp (by omega)]
  have e48 : c.1 48 g k = nI o := by rw [(LN_li (hn k hk) (Or.inl e)).1, eo]
  have lo := (LN_28 (hn o (by omega))).2.2.1
  obtain ⟨p, hp9, ep, eq⟩ := hl o (by omega)
  have cond : (c.1 43 g o = 27 ∧ ¬ c.1 20 0 o ≤ 1) ↔ enP M k := by
    show _ ↔ (M.1 54 0 (146 + 6 * enO (M.1 54 0) k) = 24 ∧ ¬ M.1 69 0 (enO (M.1 54 0) k) ≤ 0)
    rw [eo2, ← lo, ep, eq]
    refine and_congr Iff.rfl (not_congr ?_)
    rw [show (1 : Int32) = nI 1 from rfl, show (0 : Int32) = nI 0 from rfl, nI_leI (by omega) (by decide), nI_leI (by omega) (by decide)]
    omega
  have eco : (c.1 48 g k).toNatClampNeg = o := by rw [e48, nI_clamp (by omega)]
  have key : c2E c g k = if c.1 43 g o = 27 ∧ ¬ c.1 20 0 o ≤ 1 then (nI o + 1, mRow c 20 0 (upd (c.1 20 0) o (c.1 20 0 o - 1))) else (nI k + 1, c) := by
    unfold c2E
    rw [eco, e48]
  rw [key] at hp ⊢
  unfold enM at hLV
  unfold enK at hkL
  unfold enM enK
  by_cases x : enP M k
  · rw [if_pos (cond.mpr x)] at hp ⊢
    rw [mite_t x] at hLV ⊢
    rw [if_pos x] at hkL ⊢
    rw [eo2] at hLV hkL ⊢
    have p1 : 1 < p := by
      have := (cond.mpr x).2
      rw [ep, show (1 : Int32) = nI 1 from rfl, nI_leI (by omega) (by decide)] at this
      omega
    refine ⟨⟨hp, hLV, ⟨?_, hC.2.1, hC.2.2.1, hC.2.2.2⟩, hst, fun i hi => ?_, fun i hi => LNo_c (hn i hi) (fun _ _ _ => if_neg (fun z => by omega)) (fun _ _ => rfl)⟩, by rw [nI_1], hkL⟩
    · show AG (abV (mRow c 20 0 _) g) _ ns nm nt
      rw [abV_R (by decide)]
      exact hC.1
    · show ∃ q, q ≤ 99 ∧ upd (c.1 20 0) o (c.1 20 0 o - 1) i = nI q ∧ upd (M.1 69 0) o (M.1 69 0 o - 1) i = nI (q - 1)
      by_cases y : i = o
      · rw [y, upd_eq, upd_eq, ep, eq, show (1 : Int32) = nI 1 from rfl, nI_sb (by omega), nI_sb (by omega)]
        exact ⟨p - 1, by omega, rfl, rfl⟩
      · rw [upd_ne y, upd_ne y]
        exact hl i hi
  · rw [if_neg (fun z => x (cond.mp z))] at hp ⊢
    rw [mite_f x] at hLV ⊢
    rw [if_neg x] at hkL ⊢
    exact ⟨⟨hp, hLV, hC, hst, hl, hn⟩, by rw [nI_1], hkL⟩
/-- what a deed of the class can move -/
def FDo (g : Nat) (m m' : MM) : Prop := (∀ x j, ¬ ((x = 1 ∨ (15 < x ∧ x < 20)) ∧ j = g) → x ≠ 2 → x ≠ 21 → m'.1 x j = m.1 x j) ∧ (∀ i, i ≠ 3 → m'.1 2 0 i = m.1 2 0 i) ∧ m'.2 = m.2
theorem FD_r (g : Nat) (m : MM) : FDo g m m := ⟨fun _ _ _ _ _ => rfl, fun _ _ => rfl, rfl⟩
theorem FD_R {g : Nat} {m m' : MM} {x j : Nat} {f : Nat → Int32} (h : FDo g m m') (hx : ((x = 1 ∨ (15 < x ∧ x < 20)) ∧ j = g) ∨ x = 21) : FDo g m (mRow m' x j f) := by
  obtain ⟨h1, h2, h3⟩ := h
  refine ⟨fun y i hy h4 h5 => (show (mRow m' x j f).1 y i = m'.1 y i from if_neg (fun z => ?_)).trans (h1 y i hy h4 h5), fun i hi => (congrFun (show (mRow m' x j f).1 2 0 = m'.1 2 0 from if_neg (fun z => by omega)) i).trans (h2 i hi), h3⟩
  obtain ⟨rfl, rfl⟩ := z
  rcases hx with z | z
  · exact hy z
  · exact h5 z
theorem FD_pM {g : Nat} {m a b : MM} {p : Prop} [Decidable p] (ha : FDo g m a) (hb : FDo g m b) : FDo g m (pMi p a b).2 := by
  unfold pMi
  split
  · exact ha
  · exact hb
theorem FD_n {g w : Nat} {m : MM} {p : PR} (h : FDo g m p.2) : FDo g m (c2n w p).2 := FD_R h (Or.inr rfl)
theorem FD_cg {g f t : Nat} {m m' : MM} (h : FDo g m m') : FDo g m (cgM m' g f t) := FD_R (FD_R h (Or.inl ⟨by omega, rfl⟩)) (Or.inl ⟨by omega, rfl⟩)
theorem FD_gV {g t : Nat} {m m' : MM} (h : FDo g m m') : FDo g m (c2gV g m' t).2 := FD_pM (FD_cg h) h
theorem FD_g (g : Nat) (m : MM) (s : Int32) : FDo g m (c2g m g s).2 := by
  have h : FDo g m (c2gM m) := ⟨fun y i hy h4 h5 => if_neg (fun z => h4 z.1), fun i hi => upd_ne hi, rfl⟩
  unfold c2g
  split
  · exact FD_r g m
  · generalize c2T _ _ _ _ = o
    cases o with
    | none => exact h
    | some t => exact FD_gV h
theorem FD_d (g k : Nat) (m : MM) : FDo g m (c2d m g k).2 := by
  unfold c2d c2dQ
  split
  · exact FD_n (FD_gV (FD_r g m))
  split
  · exact FD_pM (FD_cg (FD_r g m)) (FD_r g m)
  split
  · exact FD_n (FD_g g m _)
  split
  · exact FD_pM (FD_R (FD_R (FD_r g m) (Or.inl ⟨by omega, rfl⟩)) (Or.inl ⟨by omega, rfl⟩)) (FD_r g m)
  split
  · exact FD_n (FD_pM (FD_R (FD_R (FD_r g m) (Or.inl ⟨by omega, rfl⟩)) (Or.inl ⟨by omega, rfl⟩)) (FD_r g m))
  split
  · exact FD_n (FD_pM (FD_R (FD_R (FD_R (FD_r g m) (Or.inl ⟨by omega, rfl⟩)) (Or.inl ⟨by omega, rfl⟩)) (Or.inl ⟨by omega, rfl⟩)) (FD_r g m))
  · exact FD_r g m
/-- what living can move in the class -/
def FLo (g : Nat) (m m' : MM) : Prop := (∀ x j, ¬ ((x = 1 ∨ (15 < x ∧ x < 20)) ∧ j = g) → x ≠ 2 → x ≠ 20 → x ≠ 21 → m'.1 x j = m.1 x j) ∧ m'.2 = m.2
theorem FL_t {g : Nat} {a b c : MM} (h : FLo g a b) (h' : FLo g b c) : FLo g a c := ⟨fun x j h1 h2 h3 h4 => (h'.1 x j h1 h2 h3 h4).trans (h.1 x j h1 h2 h3 h4), h'.2.trans h.2⟩
theorem FL_r (g : Nat) (m : MM) : FLo g m m := ⟨fun _ _ _ _ _ _ => rfl, rfl⟩
theorem FL_R {g : Nat} {m : MM} {x j : Nat} {f : Nat → Int32} (hx : x = 2 ∨ x = 20 ∨ x = 21) : FLo g m (mRow m x j f) := ⟨fun y i hy h4 h5 h6 => if_neg (fun z => by omega), rfl⟩
theorem FL_Q (g k : Nat) (m : MM) (c : Int32) : FLo g m (c2Q m g k c).2 := by
  unfold c2Q
  split
  · exact FL_r g m
  split
  · exact FL_R (by omega)
  split
  · exact FL_r g m
  · unfold c2K
    have h : FLo g m (c2d m g k).2 := ⟨fun x j h1 h2 _ h4 => (FD_d g k m).1 x j h1 h2 h4, (FD_d g k m).2.2⟩
    show FLo g m (if _ then _ else _)
    split
    · exact h
    · exact FL_t h (FL_R (by omega))
theorem FL_E (g k : Nat) (m : MM) : FLo g m (c2E m g k).2 := by
  unfold c2E
  split
  · exact FL_R (by omega)
  · exact FL_r g m
theorem FL_c2R (g : Nat) : ∀ f m k, FLo g m (c2R g f m k)
  | 0, m, _ => FL_r g m
  | f + 1, m, k => by
    rw [c2R]
    split
    · split
      · exact FL_t (FL_E g _ m) (FL_c2R g f _ _)
      · split
        · exact FL_R (by omega)
        · exact FL_t (FL_t (FL_R (by omega)) (FL_Q g _ _ _)) (FL_c2R g f _ _)
    · exact FL_r g m
theorem FL_M (m : MM) (g : Nat) (x : Int32) : FLo g m (c2M m g x) := FL_t (FL_t (FL_t (FL_R (by omega)) (FL_R (by omega))) (FL_R (by omega))) (FL_c2R g _ _ _)
theorem stD_t {m : MM} {k : Nat} (h : doP (stI m) k = (true, stI m)) : stD m k = stI m := by
  unfold stD
  rw [h]
  show mRow (stI m) 70 0 (upd (m.1 70 0) 0 (m.1 70 0 0 + 0)) = stI m
  rw [Int32.add_zero, upd_self rfl]
  exact mRow_self (stI m) 70 0
theorem doQ_o {m : MM} {c one two : Int32} (n : ¬ (c = 16 ∨ c = 17 ∨ c = 18 ∨ c = 19 ∨ c = 20 ∨ c = 21)) : doQ m c one two = (true, m) := by
  unfold doQ
  rw [if_neg (fun z => n (by simp [z])), if_neg (fun z => n (by simp [z])), if_neg (fun z => n (by simp [z])), if_neg (fun z => n (by simp [z])), if_neg (fun z => n (by simp [z])), if_neg (fun z => n (by simp [z]))]
/-- a step -/
theorem ss_ok {c M : MM} {g ns nm nt L k : Nat} (h : LRo c M g ns nm nt L) (hk : k < L) (n28 : ¬ c.1 43 g k = 28) (n300 : ¬ M.1 12 0 35 = 300) (n29 : ¬ c.1 43 g k = 29) : LRo (c2Q (mI c 2 0 2 (c.1 2 0 2 + 1)) g k (c.1 43 g k)).2 (stL M k) g ns nm nt L ∧ (c2Q (mI c 2 0 2 (c.1 2 0 2 + 1)) g k (c.1 43 g k)).1 = nI (stK (stL M k) k) ∧ stK (stL M k) k ≤ L := by
  obtain ⟨hc, hM, hC, hst, hl, hn⟩ := h
  have hL60 := hM.2.1.2.1
  have hlk := hn k hk
  have hyk := hM.2.1.2.2 k hk
  obtain ⟨s1, s2, -, s4⟩ := st_ok hM hk n300
  obtain ⟨c', ec'⟩ : ∃ c', c' = mI c 2 0 2 (c.1 2 0 2 + 1) := ⟨_, rfl⟩
  have hc' : LVc c' g ns nm nt L := by
    rw [ec']
    refine LVc_s hc ⟨SML_R (by decide) (SML_r c), DDo_c (DDo_of hc.1) rfl rfl rfl, ?_⟩
    obtain ⟨d, hd, ed⟩ := hc.2.2.2
    exact ⟨d, hd, ed⟩
  have hC' : LCo c' (stI M) g ns nm nt := by
    rw [ec']
    refine ⟨?_, hC.2.1, hC.2.2.1, hC.2.2.2⟩
    show AG (abV (mRow c 2 0 _) g) _ ns nm nt
    rw [abV_R (by decide)]
    exact hC.1
  have hst' : c'.1 2 0 2 = (stI M).1 12 0 35 := by
    rw [ec']
    show c.1 2 0 2 + 1 = M.1 12 0 35 + 1
    rw [hst]
  have hl' : LLo c' (stI M) := by rw [ec']; exact hl
  have hlk' : LNo c' g ((stI M).1 54 0) k := by rw [ec']; exact hlk
  have e43 : c'.1 43 g = c.1 43 g := by rw [ec']; rfl
  have hq := (c2Q_ok hc' hk).1
  rw [e43] at hq
  have hF := FL_Q g k c' (c.1 43 g k)
  rw [← ec']
  have hn' : ∀ i, i < L → LNo (c2Q c' g k (c.1 43 g k)).2 g ((stL M k).1 54 0) i := fun i hi => LNo_c (hn i hi) (fun x h1 h2 => (hF.1 x g (by omega) (by omega) (by omega) (by omega)).trans (by rw [ec']; exact if_neg (fun z => by omega))) s4
  by_cases ct : c.1 43 g k = 24 ∨ c.1 43 g k = 25 ∨ c.1 43 g k = 26
  · -- a test
    obtain ⟨t1, t2, t3⟩ := tt_ok hC' hlk' hyk (by rw [e43]; exact ct)
    have t2' : ¬ M.1 54 0 (146 + 6 * k) < 2300 := t2
    have hdo : doP (stI M) k = (true, stI M) := doQ_o (fun z => by
      have z' : M.1 54 0 (146 + 6 * k) = 16 ∨ M.1 54 0 (146 + 6 * k) = 17 ∨ M.1 54 0 (146 + 6 * k) = 18 ∨ M.1 54 0 (146 + 6 * k) = 19 ∨ M.1 54 0 (146 + 6 * k) = 20 ∨ M.1 54 0 (146 + 6 * k) = 21 := z
      rcases z' with z | z | z | z | z | z <;> rw [z] at t2' <;> exact absurd t2' (by decide))
    have n24 : ¬ M.1 54 0 (146 + 6 * k) = 24 := fun z => by rw [z] at t2'; exact absurd t2' (by decide)
    have eL : stL M k = stI M := by
      unfold stL
      rw [mite_f n24, stD_t hdo]
    rw [c2Q_t ct] at hq hn' ⊢
    rw [eL] at s1 s2 hn' ⊢
    refine ⟨⟨hq, s1, hC', hst', hl', hn'⟩, ?_, s2⟩
    unfold stK
    have t2'' : ¬ (stI M).1 54 0 (146 + 6 * k) < 2300 := t2
    show (if c2t c' g k then nI k + 1 else c'.1 48 g k + 1) = _
    by_cases x : c2t c' g k
    · rw [if_pos x, if_neg (fun z => z.2 (t1.mp x)), nI_1]
    · obtain ⟨e, he, ee⟩ := hyk.2.2.2.2.2 t2'
      have ee' : (stI M).1 54 0 (150 + 6 * k) = nI e := ee
      rw [if_neg x, if_pos ⟨t2'', fun z => x (t1.mpr z)⟩, t3, ee', nI_clamp (by omega), nI_1]
  · by_cases c27 : c.1 43 g k = 27
    · -- a loop
      have a24 : M.1 54 0 (146 + 6 * k) = 24 := (LN_28 hlk).2.2.1.mp c27
      have hdo : doP (stI M) k = (true, stI M) := doQ_o (fun z => by
        have z' : M.1 54 0 (146 + 6 * k) = 16 ∨ M.1 54 0 (146 + 6 * k) = 17 ∨ M.1 54 0 (146 + 6 * k) = 18 ∨ M.1 54 0 (146 + 6 * k) = 19 ∨ M.1 54 0 (146 + 6 * k) = 20 ∨ M.1 54 0 (146 + 6 * k) = 21 := z
        rw [a24] at z'
        exact absurd z' (by decide))
      have eL : stL M k = mRow (stI M) 69 0 (upd ((stI M).1 69 0) k (M.1 54 0 (147 + 6 * k) - 1)) := by
        unfold stL
        rw [mite_t a24, stD_t hdo]
      obtain ⟨q, q1, q2, eq⟩ := hyk.2.2.2.1 a24
      have e47 : c'.1 47 g k = nI q := by
        rw [(LN_li hlk' (Or.inr (by rw [e43]; exact c27))).2 (by rw [e43]; exact c27)]
        exact eq
      rw [c27, c2Q_27, e47] at hq hn' ⊢
      rw [eL] at s1 s2 hn' ⊢
      have eK : stK (mRow (stI M) 69 0 (upd ((stI M).1 69 0) k (M.1 54 0 (147 + 6 * k) - 1))) k = k + 1 := if_neg (fun z => z.1 (by
        show M.1 54 0 (146 + 6 * k) < 2300
        rw [a24]; decide))
      rw [eK] at s2 ⊢
      refine ⟨⟨hq, s1, ⟨?_, hC'.2.1, hC'.2.2.1, hC'.2.2.2⟩, hst', fun i hi => ?_, hn'⟩, nI_1 k, s2⟩
      · show AG (abV (mRow c' 20 0 _) g) _ ns nm nt
        rw [abV_R (by decide)]
        exact hC'.1
      · show ∃ p, p ≤ 99 ∧ upd (c'.1 20 0) k (nI q) i = nI p ∧ upd ((stI M).1 69 0) k (M.1 54 0 (147 + 6 * k) - 1) i = nI (p - 1)
        by_cases y : i = k
        · rw [y, upd_eq, upd_eq, eq, show (1 : Int32) = nI 1 from rfl, nI_sb q1]
          exact ⟨q, q2, rfl, rfl⟩
        · rw [upd_ne y, upd_ne y]
          exact hl' i hi
    · -- a deed
      obtain ⟨d, ed, hd⟩ := hM.2.2.2.1
      obtain ⟨d1, d2⟩ := dn_ok (d := d) hC' hlk' hyk ed hd (by rw [e43]; exact fun z => ct (Or.inl z)) (by rw [e43]; exact fun z => ct (Or.inr (Or.inl z))) (by rw [e43]; exact fun z => ct (Or.inr (Or.inr z))) (by rw [e43]; exact c27) (by rw [e43]; exact n28) (by rw [e43]; exact n29)
      have n24 : ¬ M.1 54 0 (146 + 6 * k) = 24 := fun z => c27 ((LN_28 hlk).2.2.1.mpr z)
      have nlt : M.1 54 0 (146 + 6 * k) < 2300 := Decidable.byContradiction (fun z => ct ((LN_28 hlk).2.2.2.mpr z))
      have eL : stL M k = stD M k := mite_f n24
      have e70 := doP70 (stI M) k
      have hD := do_ok (m := stI M) (k := k) hM.1 hM.2.1 ⟨d, ed, hd⟩ hk
      have hFd := FD_d g k c'
      have eK : stK (stL M k) k = k + 1 := if_neg (fun z => z.1 (by rw [s4 _ (by omega)]; exact nlt))
      rw [eK] at s2 ⊢
      rw [c2Q_o n29 c27 ct] at hq hn' ⊢
      rw [eL] at s1 hn' ⊢
      refine ⟨⟨hq, s1, ?_, ?_, ?_, hn'⟩, nI_1 k, s2⟩
      · obtain ⟨g1, g2, g3, g4⟩ := d2
        unfold c2K stD
        rw [d1]
        have e70' : M.1 70 0 0 = (doP (stI M) k).2.1 70 0 0 := e70.symm
        by_cases x : (doP (stI M) k).1 = true
        · rw [if_pos x, if_pos x, Int32.add_zero, e70', upd_self rfl, mRow_self]
          exact ⟨g1, g2, g3, g4⟩
        · rw [if_neg x, if_neg x, e70']
          refine ⟨?_, g2, g3, fun j hj => ?_⟩
          · show AG (abV (mRow _ 21 0 _) g) _ ns nm nt
            rw [abV_R (by decide)]
            exact g1
          · show upd ((c2d c' g k).2.1 21 0) 0 ((c2d c' g k).2.1 21 0 0 + 1) j = upd ((doP (stI M) k).2.1 70 0) 0 ((doP (stI M) k).2.1 70 0 0 + 1) j
            by_cases y : j = 0
            · rw [y, upd_eq, upd_eq, g4 0 (by decide)]
            · rw [upd_ne y, upd_ne y, g4 j hj]
      · have e1 : (c2K c' g k).2.1 2 0 2 = (c2d c' g k).2.1 2 0 2 := by
          unfold c2K
          show (if _ then _ else _ : MM).1 2 0 2 = _
          split <;> rfl
        rw [e1, hFd.2.1 2 (by decide), hst']
        exact (hD.2.2.1 35 (by decide)).symm
      · have e1 : (c2K c' g k).2.1 20 0 = (c2d c' g k).2.1 20 0 := by
          unfold c2K
          show (if _ then _ else _ : MM).1 20 0 = _
          split <;> rfl
        intro o ho
        obtain ⟨p, p1, p2, p3⟩ := hl' o ho
        refine ⟨p, p1, ?_, ?_⟩
        · rw [e1, hFd.1 20 0 (by omega) (by decide) (by decide)]
          exact p2
        · exact (congrFun hD.2.1 o).trans p3
/-- the years are lived alike -/
theorem lv_ok {g ns nm nt L : Nat} : ∀ f c M k, LRo c M g ns nm nt L → k ≤ L → LRo (c2R g f c (nI k)) (lvR f M L k) g ns nm nt L
  | 0, c, M, k, h, _ => h
  | f + 1, c, M, k, h, hk => by
    have hL60 := h.2.1.2.1.2.1
    have e9 : c.1 9 g 8 = nI L := h.1.2.1.1
    rw [c2R, lvR, e9, nI_clamp (by omega)]
    by_cases x : k < L
    · rw [if_pos ((nI_ltI (by omega) (by omega)).mpr x), if_pos x]
      have hlk := h.2.2.2.2.2 k x
      unfold lvT lvS
      by_cases c28 : c.1 43 g k = 28
      · rw [if_pos c28, if_pos ((LN_28 hlk).1.mp c28)]
        obtain ⟨h1, h2, h3⟩ := ee_ok h x c28
        rw [h2]
        exact lv_ok f _ _ _ h1 h3
      · rw [if_neg c28, if_neg (fun z => c28 ((LN_28 hlk).1.mpr z))]
        obtain ⟨st, hs, es⟩ := h.2.1.2.2.2.2
        have e2 : c.1 2 0 2 = nI st := h.2.2.2.1.trans es
        rw [e2, es]
        by_cases c300 : st = 300
        · rw [if_pos (by rw [c300]; decide), if_pos (by rw [c300]; rfl)]
          obtain ⟨hc, hM, hC, hst, hl, hn⟩ := h
          refine ⟨LVc_s hc (LQ_R (Or.inr rfl) (LQ_r hc)), LV_70 hM, ⟨?_, hC.2.1, hC.2.2.1, fun j hj => ?_⟩, hst, hl, hn⟩
          · show AG (abV (mRow c 21 0 _) g) _ ns nm nt
            rw [abV_R (by decide)]
            exact hC.1
          · show upd (c.1 21 0) 4 1 j = upd (M.1 70 0) 4 1 j
            by_cases y : j = 4
            · rw [y, upd_eq, upd_eq]
            · rw [upd_ne y, upd_ne y, hC.2.2.2 j hj]
        · have n300 : ¬ nI st = 300 := fun z => c300 (nI_inj (by omega) (by decide) z)
          rw [if_neg (fun z => c300 (by rw [show (300 : Int32) = nI 300 from rfl, nI_leI (by omega) (by omega)] at z; omega)), if_neg n300, ← e2]
          by_cases c29 : c.1 43 g k = 29
          · rw [if_pos ((LN_28 hlk).2.1.mp c29), c29, c2Q_29]
            obtain ⟨hc, hM, hC, hst, hl, hn⟩ := h
            show LRo (c2R g f (mI c 2 0 2 (c.1 2 0 2 + 1)) (c.1 9 g 8)) (stI M) g ns nm nt L
            rw [e9]
            have hS : c2R g f (mI c 2 0 2 (c.1 2 0 2 + 1)) (nI L) = mI c 2 0 2 (c.1 2 0 2 + 1) := by
              cases f with
              | zero => rfl
              | succ f =>
                rw [c2R]
                refine if_neg ?_
                show ¬ nI L < c.1 9 g 8
                rw [e9]
                exact Int32.lt_irrefl
            rw [hS]
            refine ⟨?_, ⟨hM.1, hM.2.1, hM.2.2.1, hM.2.2.2.1, st + 1, by omega, ?_⟩, ⟨?_, hC.2.1, hC.2.2.1, hC.2.2.2⟩, ?_, hl, hn⟩
            · refine LVc_s hc ⟨SML_R (by decide) (SML_r c), DDo_c (DDo_of hc.1) rfl rfl rfl, ?_⟩
              obtain ⟨d, hd, ed⟩ := hc.2.2.2
              exact ⟨d, hd, ed⟩
            · show M.1 12 0 35 + 1 = _
              rw [es, nI_1]
            · show AG (abV (mRow c 2 0 _) g) _ ns nm nt
              rw [abV_R (by decide)]
              exact hC.1
            · show c.1 2 0 2 + 1 = M.1 12 0 35 + 1
              rw [hst]
          · rw [if_neg (fun z => c29 ((LN_28 hlk).2.1.mpr z))]
            obtain ⟨h1, h2, h3⟩ := ss_ok h x c28 (by rw [es]; exact n300) c29
            rw [h2]
            exact lv_ok f _ _ _ h1 h3
    · rw [if_neg (fun z => x ((nI_ltI (by omega) (by omega)).mp z)), if_neg x]
      exact h
theorem zrR_at (o : Nat → Int32) (j : Nat) (hj : j < 5) : zrR o 0 5 j = 0 := if_pos ⟨Nat.zero_le j, by omega⟩
/-- a whole life -/
theorem life_ok {c M : MM} {g ns nm nt L d : Nat} (hc : VC2 c g ns nm nt) (h9 : c.1 9 g 8 = nI L) (hL : L ≤ 60) (hyc : ∀ k, k < L → YLc c g ns nm nt L k) (hA : AG (abV c g) (M.1 54 0) ns nm nt) (hS : VSo (M.1 54 0) ns nm nt) (hY : YP (M.1 54 0) ns nm nt L) (hLP : LPo M) (hl : LLo c M) (hn : ∀ k, k < L → LNo c g (M.1 54 0) k) (hd : d < 65536) : LRo (c2M c g (nI d)) (liM M (nI d)) g ns nm nt L := by
  unfold c2M liM
  rw [hY.1, nI_clamp (by omega), show (0 : Int32) = nI 0 from rfl]
  have hs : SML c (c20 c (nI d)) := SML_R (k := 2) (by decide) (SML_R (k := 2) (by decide) (SML_R (k := 21) (by decide) (SML_r c)))
  refine lv_ok 100000 _ _ 0 ⟨?_, ⟨hS.1, hY, hLP, ⟨d, rfl, hd⟩, 0, by omega, rfl⟩, ⟨?_, hS, rfl, fun j hj => ?_⟩, rfl, hl, hn⟩ (by omega)
  · exact ⟨VC2_d hc hs (DDo_c (DDo_of hc) rfl rfl rfl), ⟨h9, hL⟩, fun k hk => YLc_s (hyc k hk) hs, d, hd, rfl⟩
  · unfold c20
    rw [abV_R (by decide), abV_R (by decide), abV_R (by decide)]
    exact hA
  · exact (if_pos (show j < alen 21 from hj)).trans (zrR_at _ j hj).symm

end
