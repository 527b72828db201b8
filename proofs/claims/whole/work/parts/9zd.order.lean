/-! PART 9ZD: a STEP's own words are read alike -/

noncomputable section
theorem TKR_c {c c' M : MM} (h : TKR c M) (h4 : c'.1 4 0 = c.1 4 0) (h26 : c'.1 26 0 = c.1 26 0) (l4 : c'.2.1 4 0 = c.2.1 4 0) (l27 : c'.2.1 27 0 = c.2.1 27 0) : TKR c' M := by
  unfold TKR KND POS TBo OWo at *
  rw [h4, h26, l4, l27]
  exact h
theorem RU_rb {c0 M0 c M c' : MM} {A : Nat → Int32} {N : Nat → Int64} (h : RUo c0 M0 A N c M) (h4 : c'.1 4 0 = c.1 4 0) (h26 : c'.1 26 0 = c.1 26 0) (l4 : c'.2.1 4 0 = c.2.1 4 0) (l27 : c'.2.1 27 0 = c.2.1 27 0) : RUo c' M0 A N c' M := by
  obtain ⟨h1, h2, h3, hr⟩ := h
  exact ⟨TKR_c h1 h4 h26 l4 l27, SMo_r c', by rw [h4]; exact h3, hr⟩
theorem RB_cP {I : Int32 → MM → MM → Prop} {J : MM → MM → Prop} {k g L : Nat} {p : Int32 × MM} {q : PR} (hk : 43 ≤ k ∧ k ≤ 48) (hp : RI2 I p q) (hJ : ∀ v c M, I v c M → J (mRow c k g (upd (c.1 k g) L v)) M) : RB2 J (c10P k g L p) q := by
  rcases hp with ⟨h1, h2, h3⟩ | ⟨h1, h2, h3⟩
  · rw [c10P_t h1]
    exact Or.inl ⟨rfl, h2, hJ _ _ _ h3⟩
  · rw [c10P_f h1]
    refine Or.inr ⟨rfl, h2, ?_⟩
    obtain ⟨⟨x, x1, x2, x3, x4⟩, x5⟩ := h3
    have e : (mRow p.2 k g (upd (p.2.1 k g) L p.1)).1 4 0 = p.2.1 4 0 := if_neg (fun z => by omega)
    exact ⟨⟨x, x1, x2, by rw [e]; exact x3, x4⟩, by rw [e]; exact x5⟩
/-- what a STEP's words can move in the class -/
def CHo (g L : Nat) (m m' : MM) : Prop := (∀ k j, k ≠ 4 → ¬ (43 ≤ k ∧ k ≤ 48) → m'.1 k j = m.1 k j) ∧ (∀ k i, 43 ≤ k → k ≤ 48 → i ≠ L → m'.1 k g i = m.1 k g i) ∧ (∀ k j, k ≠ g → 43 ≤ j → j ≤ 48 → m'.1 j k = m.1 j k) ∧ (∀ k j, k ≠ 4 → m'.2.1 k j = m.2.1 k j) ∧ m'.2.2 = m.2.2
theorem CH_r (g L : Nat) (m : MM) : CHo g L m m := ⟨fun _ _ _ _ => rfl, fun _ _ _ _ _ => rfl, fun _ _ _ _ _ => rfl, fun _ _ _ => rfl, rfl⟩
theorem CH_t {g L : Nat} {a b c : MM} (h : CHo g L a b) (h' : CHo g L b c) : CHo g L a c := ⟨fun k j x y => (h'.1 k j x y).trans (h.1 k j x y), fun k i x y z => (h'.2.1 k i x y z).trans (h.2.1 k i x y z), fun k j x y z => (h'.2.2.1 k j x y z).trans (h.2.2.1 k j x y z), fun k j x => (h'.2.2.2.1 k j x).trans (h.2.2.2.1 k j x), h'.2.2.2.2.trans h.2.2.2.2⟩
theorem CH_s {g L : Nat} {a b : MM} (h : SMo a b) : CHo g L a b := ⟨fun k j x _ => h.1 k j x, fun k i x y _ => congrFun (h.1 k g (by omega)) i, fun k j _ y _ => h.1 j k (by omega), fun k j x => h.2.1 k j x, h.2.2⟩
theorem CH_R {g L : Nat} {m : MM} {k : Nat} {v : Int32} (hk : 43 ≤ k ∧ k ≤ 48) : CHo g L m (mRow m k g (upd (m.1 k g) L v)) := by
  refine ⟨fun k' j x y => if_neg (fun z => by omega), fun k' i x y z => ?_, fun k' j x _ _ => if_neg (fun z => x z.2), fun _ _ _ => rfl, rfl⟩
  by_cases e : k' = k
  · rw [e, mRow_row]; exact upd_ne z
  · exact congrFun (if_neg (fun w => e w.1)) i
/-- a line, as both hold it; cl: what it opens is closed -/
def LQo (c : MM) (g : Nat) (A : Nat → Int32) (L k : Nat) (cl : Prop) (ns nm nt : Nat) : Prop :=
  (∃ t, t < nt ∧ ((c.1 43 g k = 16 ∧ A (2186 + 6 * k) = 16) ∨ (c.1 43 g k = 22 ∧ A (2186 + 6 * k) = 17) ∨ (c.1 43 g k = 21 ∧ A (2186 + 6 * k) = 19)) ∧ c.1 44 g k = nI t ∧ A (2187 + 6 * k) = nI t) ∨
  (∃ s, s < ns ∧ c.1 43 g k = 17 ∧ A (2186 + 6 * k) = 18 ∧ c.1 44 g k = nI s ∧ A (2187 + 6 * k) = nI s) ∨
  (c.1 43 g k = 18 ∧ A (2186 + 6 * k) = 20) ∨
  (∃ s d, s < ns ∧ d < nm ∧ c.1 43 g k = 19 ∧ A (2186 + 6 * k) = 21 ∧ c.1 44 g k = nI s ∧ A (2187 + 6 * k) = nI s ∧ c.1 45 g k = nI d ∧ A (2188 + 6 * k) = nI d) ∨
  (∃ s d, s < ns ∧ d < nm ∧ c.1 43 g k = 24 ∧ A (2186 + 6 * k) = 2327 ∧ c.1 44 g k = nI s ∧ A (2187 + 6 * k) = nI s ∧ c.1 45 g k = nI d ∧ A (2188 + 6 * k) = nI d ∧ c.1 47 g k = A (2189 + 6 * k) ∧ (c.1 46 g k = 34 ∧ A (2191 + 6 * k) = 60 ∨ c.1 46 g k = 35 ∧ A (2191 + 6 * k) = 62 ∨ c.1 46 g k = 36 ∧ A (2191 + 6 * k) = 61) ∧ (cl → ∃ e, e < L ∧ c.1 48 g k = nI e ∧ A (2190 + 6 * k) = nI e)) ∨
  (∃ s d, s < ns ∧ d < nm ∧ c.1 43 g k = 25 ∧ A (2186 + 6 * k) = 2328 ∧ c.1 44 g k = nI s ∧ A (2187 + 6 * k) = nI s ∧ c.1 45 g k = nI d ∧ A (2188 + 6 * k) = nI d ∧ (cl → ∃ e, e < L ∧ c.1 48 g k = nI e ∧ A (2190 + 6 * k) = nI e)) ∨
  (∃ s, s < ns ∧ c.1 43 g k = 26 ∧ A (2186 + 6 * k) = 2329 ∧ c.1 44 g k = nI s ∧ A (2187 + 6 * k) = nI s ∧ (cl → ∃ e, e < L ∧ c.1 48 g k = nI e ∧ A (2190 + 6 * k) = nI e)) ∨
  (∃ q, 1 ≤ q ∧ q ≤ 99 ∧ c.1 43 g k = 27 ∧ A (2186 + 6 * k) = 24 ∧ c.1 47 g k = nI q ∧ A (2187 + 6 * k) = nI q ∧ (cl → ∃ e, e < L ∧ c.1 48 g k = nI e ∧ A (2190 + 6 * k) = nI e)) ∨
  (∃ o, o < k ∧ c.1 43 g k = 28 ∧ A (2186 + 6 * k) = 25 ∧ c.1 48 g k = nI o ∧ A (2190 + 6 * k) = nI o ∧ (A (2186 + 6 * (o + 1)) = 25 → o + 1 = k)) ∨
  (c.1 43 g k = 29 ∧ A (2186 + 6 * k) = 26)
/-- what stands while the years are read: the valley's counts and names -/
def SVo (c : MM) (v : Nat) (A : Nat → Int32) (N : Nat → Int64) (ns nm nt : Nat) : Prop := (c.1 6 v 13 = nI ns ∧ A 0 = nI ns ∧ ns ≤ 4) ∧ (c.1 6 v 14 = nI nm ∧ A 1 = nI nm ∧ nm ≤ 4) ∧ (c.1 6 v 15 = nI nt ∧ A 2 = nI nt ∧ nt ≤ 12) ∧ NWo c v N 0 ns nm nt
theorem SV_c {c c' : MM} {v g L : Nat} {A A' : Nat → Int32} {N : Nat → Int64} {ns nm nt : Nat} (h : SVo c v A N ns nm nt) (hc : CHo g L c c') (hA : ∀ j, j < 3 → A' j = A j) : SVo c' v A' N ns nm nt := by
  unfold SVo NWo at *
  rw [hc.1 6 v (by decide) (by decide), hc.2.2.2.1 29 v (by decide), hA 0 (by decide), hA 1 (by decide), hA 2 (by decide)]
  exact h
/-- behind a STEP's words -/
def ORo (c1 M1 : MM) (A1 : Nat → Int32) (N : Nat → Int64) (g L ns nm nt : Nat) (c M : MM) : Prop := ∃ A', RUo c M1 A' N c M ∧ CHo g L c1 c ∧ (∀ j, j < 2186 + 6 * L ∨ 2191 + 6 * L < j → A' j = A1 j) ∧ LQo c g A' 0 L False ns nm nt ∧ (c1.1 43 g L = 23 → ¬ A' (2186 + 6 * L) < 2300) ∧ (¬ c1.1 43 g L = 23 → A' (2186 + 6 * L) = A1 (2186 + 6 * L))
/-- a member's number comes to a cell -/
theorem cP_ol {M1 c M : MM} {A : Nat → Int32} {N : Nat → Int64} (h : RUo c M1 A N c M) {k g L v f b n t : Nat} (hk : 43 ≤ k ∧ k ≤ 48) (hn : n ≤ 20) (hN : ∀ i, i < n → RNo (c.2.1 29 v (f + i)) (N (b + i))) : RB2 (fun c' M' => ∃ x, x < n ∧ c'.1 k g L = nI x ∧ RUo c' M1 (upd A t (nI x)) N c' M' ∧ CHo g L c c' ∧ ∀ k', k' ≠ 4 → k' ≠ k → c'.1 k' g = c.1 k' g) (c10P k g L (meC c v f n)) (pOl M b n t) := by
  refine RB_cP hk (me_ol (t := t) h hn hN) (fun x c' M' ⟨y, hy, ey, h'⟩ => ⟨y, hy, ?_, ?_, ?_, fun k' h4 hne => ?_⟩)
  · rw [mRow_row, upd_eq, ey]
  · rw [← ey]
    exact RU_rb h' (if_neg (fun z => by omega)) (if_neg (fun z => by omega)) rfl rfl
  · exact CH_t (CH_s h'.2.1) (CH_R hk)
  · exact (if_neg (fun z => hne z.1)).trans (h'.2.1.1 k' g h4)
theorem RB_w {I J : MM → MM → Prop} {p q : PR} (h : RB2 I p q) (hJ : ∀ c M, I c M → J c M) : RB2 J p q := by
  rcases h with ⟨a, b, c⟩ | z
  · exact Or.inl ⟨a, b, hJ _ _ c⟩
  · exact Or.inr z
/-- no own word is given behind a TEST -/
theorem kM_27 : ∀ i, i < 30 → (kM i < 27 ↔ ¬ (i = 24 ∨ i = 25 ∨ i = 26)) := by decide +kernel
/-- a TEST -/
theorem te_ok {c1 M1 M : MM} {A1 : Nat → Int32} {N : Nat → Int64} {g v L ns nm nt : Nat} (h : RUo c1 M1 A1 N c1 M) (hS : SVo c1 v A1 N ns nm nt) (hL9 : c1.1 9 g 8 = nI L) (hL : L < 60) (h23 : c1.1 43 g L = 23) : RB2 (ORo c1 M1 A1 N g L ns nm nt) (c10t g v c1) (pTe M (2186 + 6 * L)) := by
  have hk := h.1.1
  obtain ⟨⟨c1', a1', n1'⟩, ⟨c2', a2', n2'⟩, ⟨c3', a3', n3'⟩, hN⟩ := id hS
  unfold c10t c10t1 pTe
  rw [hL9, nI_clamp (show L < 2 ^ 31 by omega)]
  have hy := hk.2.2.2.2.2.2.2.2.2.2.2.1
  have cnd : (c1.1 4 0 6 = 24 ∨ c1.1 4 0 6 = 25 ∨ c1.1 4 0 6 = 26) ↔ ¬ kyA M < 27 := by
    have k24 : c1.1 4 0 6 = 24 ↔ kyA M = 27 := hk.1 24 (by decide)
    have k25 : c1.1 4 0 6 = 25 ↔ kyA M = 28 := hk.1 25 (by decide)
    have k26 : c1.1 4 0 6 = 26 ↔ kyA M = 29 := hk.1 26 (by decide)
    rw [k24, k25, k26]
    rcases hy with e | ⟨i, hi, e⟩
    · rw [e]; decide
    · have h1 := kM_27 i hi
      have h2 := kM_lt i hi
      rw [e, show (27 : Int32) = nI 27 from rfl, show (28 : Int32) = nI 28 from rfl, show (29 : Int32) = nI 29 from rfl, nI_ltI (by omega) (by decide), nI_eq (by omega) (by decide), nI_eq (by omega) (by decide), nI_eq (by omega) (by decide)]
      omega
  by_cases x : kyA M < 27
  · rw [if_neg (fun z => (cnd.mp z) x), if_pos x]
    exact Or.inr ⟨rfl, rfl, fa_mi h.1 h.2.2.2.1⟩
  · have tt := cnd.mpr x
    rw [if_pos tt, if_neg x]
    have ek : (c1.1 4 0 6 = 24 ∧ kyA M = 27) ∨ (c1.1 4 0 6 = 25 ∧ kyA M = 28) ∨ (c1.1 4 0 6 = 26 ∧ kyA M = 29) := by
      rcases tt with z | z | z
      · exact Or.inl ⟨z, (hk.1 24 (by decide)).mp z⟩
      · exact Or.inr (Or.inl ⟨z, (hk.1 25 (by decide)).mp z⟩)
      · exact Or.inr (Or.inr ⟨z, (hk.1 26 (by decide)).mp z⟩)
    obtain ⟨K, eK⟩ : ∃ K, K = c1.1 4 0 6 := ⟨_, rfl⟩
    obtain ⟨Y, eY⟩ : ∃ Y, Y = kyA M := ⟨_, rfl⟩
    rw [← eK, ← eY] at ek ⊢
    -- the act, the step
    have h2 : RUo (spM (mRow c1 43 g (upd (c1.1 43 g) L K))) M1 (upd A1 (2186 + 6 * L) (2300 + Y)) N (spM (mRow c1 43 g (upd (c1.1 43 g) L K))) (ahM (mI M 54 0 (2186 + 6 * L) (2300 + Y))) := by
      have q1 := RU_rb (c' := mRow c1 43 g (upd (c1.1 43 g) L K)) h rfl rfl rfl rfl
      exact RU_rb (RU_st (RU_54 q1 (2186 + 6 * L) (2300 + Y))) rfl rfl rfl rfl
    have hC : CHo g L c1 (spM (mRow c1 43 g (upd (c1.1 43 g) L K))) := CH_t (CH_R (by decide)) (CH_s (SMo_sp _))
    have e43 : (spM (mRow c1 43 g (upd (c1.1 43 g) L K))).1 43 g L = K := by
      rw [(SMo_sp _).1 43 g (by decide), mRow_row, upd_eq]
    revert h2 hC e43
    generalize spM (mRow c1 43 g (upd (c1.1 43 g) L K)) = c2
    generalize ahM (mI M 54 0 (2186 + 6 * L) (2300 + Y)) = M2
    intro h2 hC e43
    have hA2 : ∀ j, j ≠ 2186 + 6 * L → upd A1 (2186 + 6 * L) (2300 + Y) j = A1 j := fun j hj => upd_ne hj
    have hA2r : upd A1 (2186 + 6 * L) (2300 + Y) (2186 + 6 * L) = 2300 + Y := upd_eq
    revert h2 hA2 hA2r
    generalize upd A1 (2186 + 6 * L) (2300 + Y) = A2
    intro h2 hA2 hA2r
    have hS2 := SV_c hS hC (A' := A2) (fun j hj => hA2 j (by omega))
    obtain ⟨⟨b1, b2, b3⟩, ⟨d1, d2, d3⟩, ⟨t1, t2, t3⟩, hN2⟩ := id hS2
    unfold c10tA teA pTo
    rw [b1, h2.2.2.2.2.1, b2, nI_clamp (show ns < 2 ^ 31 by omega)]
    have first := cP_ol (k := 44) (g := g) (L := L) (v := v) (f := 0) (b := 0) (n := ns) (t := 2186 + 6 * L + 1) h2 (by decide) (by omega) (fun i hi => by rw [Nat.zero_add]; exact (by have := hN2.1 i hi; rw [Nat.zero_add] at this; exact this))
    by_cases c26 : K = 26
    · have y29 : Y = 29 := by
        rcases ek with z | z | z
        · rw [z.1] at c26; exact absurd c26 (by decide)
        · rw [z.1] at c26; exact absurd c26 (by decide)
        · exact z.2
      rw [if_pos c26]
      have e : teB Y (2186 + 6 * L) = fun m => (true, m) := by funext m; unfold teB; exact if_pos y29
      rw [e]
      have pid : pBd (pOl M2 0 ns (2186 + 6 * L + 1)) (fun m => (true, m)) = pOl M2 0 ns (2186 + 6 * L + 1) := by
        unfold pBd
        by_cases z : (pOl M2 0 ns (2186 + 6 * L + 1)).1 = true
        · rw [if_pos z]; exact Prod.ext z.symm rfl
        · rw [if_neg z]; exact Prod.ext (pr_n z).symm rfl
      rw [pid]
      refine RB_w first (fun c3 M3 ⟨s, hs, e44, h3, hC3, ho⟩ => ⟨_, h3, CH_t hC hC3, fun j hj => ?_, ?_, fun _ => ?_, fun z => absurd h23 z⟩)
      · rw [upd_ne (by omega), hA2 j (by omega)]
      · refine Or.inr (Or.inr (Or.inr (Or.inr (Or.inr (Or.inr (Or.inl ⟨s, hs, ?_, ?_, e44, upd_is (by omega), fun z => z.elim⟩))))))
        · rw [ho 43 (by decide) (by decide), e43, c26]
        · rw [upd_ne (by omega), hA2r, y29]; rfl
      · rw [upd_ne (by omega), hA2r, y29]; decide
    · rw [if_neg c26]
      have n29 : ¬ Y = 29 := fun z => by
        rcases ek with w | w | w
        · rw [w.2] at z; exact absurd z (by decide)
        · rw [w.2] at z; exact absurd z (by decide)
        · exact c26 w.1
      refine RB_bd first (fun c3 M3 ⟨s, hs, e44, h3, hC3, ho⟩ => ?_)
      unfold c10tB teB teB1
      rw [if_neg n29]
      refine RB_bd (sk_ww (i := 11) h3 (by decide)) (fun c4 M4 h4 => ?_)
      have hC4 : CHo g L c1 c4 := CH_t (CH_t hC hC3) (CH_s h4.2.1)
      have h4' := RU_rb h4 (c' := c4) rfl rfl rfl rfl
      have hS4 := SV_c (A' := upd A2 (2186 + 6 * L + 1) (nI s)) hS hC4 (fun j hj => by rw [upd_ne (by omega), hA2 j (by omega)])
      obtain ⟨-, ⟨p1, p2, p3⟩, -, hN4⟩ := id hS4
      unfold c10tD teB2 pMo
      rw [p1, h4'.2.2.2.2.1, p2, nI_clamp (show nm < 2 ^ 31 by omega)]
      have second := cP_ol (k := 45) (g := g) (L := L) (v := v) (f := 4) (b := 4) (n := nm) (t := 2186 + 6 * L + 2) h4' (by decide) (by omega) (fun i hi => by have := hN4.2.1 i hi; rw [show 0 + 4 + i = 4 + i by omega] at this; exact this)
      have e43' : c4.1 43 g L = K := by rw [h4.2.1.1 43 g (by decide), ho 43 (by decide) (by decide), e43]
      have e44' : c4.1 44 g L = nI s := by rw [h4.2.1.1 44 g (by decide), e44]
      by_cases c25 : K = 25
      · have y28 : Y = 28 := by
          rcases ek with z | z | z
          · rw [z.1] at c25; exact absurd c25 (by decide)
          · exact z.2
          · rw [z.1] at c25; exact absurd c25 (by decide)
        rw [if_pos c25]
        have e : teC Y (2186 + 6 * L) = fun m => (true, m) := by funext m; unfold teC; exact if_pos y28
        rw [e]
        have pid : pBd (pOl M4 4 nm (2186 + 6 * L + 2)) (fun m => (true, m)) = pOl M4 4 nm (2186 + 6 * L + 2) := by
          unfold pBd
          by_cases z : (pOl M4 4 nm (2186 + 6 * L + 2)).1 = true
          · rw [if_pos z]; exact Prod.ext z.symm rfl
          · rw [if_neg z]; exact Prod.ext (pr_n z).symm rfl
        rw [pid]
        refine RB_w second (fun c5 M5 ⟨d, hd, e45, h5, hC5, ho5⟩ => ⟨_, h5, CH_t hC4 hC5, fun j hj => ?_, ?_, fun _ => ?_, fun z => absurd h23 z⟩)
        · rw [upd_ne (by omega), upd_ne (by omega), hA2 j (by omega)]
        · refine Or.inr (Or.inr (Or.inr (Or.inr (Or.inr (Or.inl ⟨s, d, hs, hd, ?_, ?_, ?_, ?_, e45, upd_is (by omega), fun z => z.elim⟩)))))
          · rw [ho5 43 (by decide) (by decide), e43', c25]
          · rw [upd_ne (by omega), upd_ne (by omega), hA2r, y28]; rfl
          · rw [ho5 44 (by decide) (by decide), e44']
          · rw [upd_ne (by omega), upd_is (by omega)]
        · rw [upd_ne (by omega), upd_ne (by omega), hA2r, y28]; decide
      · rw [if_neg c25]
        have n28 : ¬ Y = 28 := fun z => by
          rcases ek with w | w | w
          · rw [w.2] at z; exact absurd z (by decide)
          · exact c25 w.1
          · exact c26 w.1
        have k24 : K = 24 ∧ Y = 27 := by
          rcases ek with w | w | w
          · exact w
          · exact absurd w.1 c25
          · exact absurd w.1 c26
        refine RB_bd second (fun c5 M5 ⟨d, hd, e45, h5, hC5, ho5⟩ => ?_)
        unfold c10tE teC teD
        rw [if_neg n28]
        obtain ⟨-, -, -, -, -, s34, s35, s36, -⟩ := h5.1.1
        have cmp : (c5.1 4 0 6 = 34 ∨ c5.1 4 0 6 = 35 ∨ c5.1 4 0 6 = 36) ↔ cmP M5 := by
          unfold cmP
          rw [s34, s35, s36]
        by_cases z : cmP M5
        · rw [if_pos (cmp.mpr z), if_pos z]
          have q1 := RU_rb (c' := mRow c5 46 g (upd (c5.1 46 g) L (c5.1 4 0 6))) h5 rfl rfl rfl rfl
          have h6 := RU_rb (RU_st (RU_54 q1 (2186 + 6 * L + 5) (M5.1 12 0 15))) (c' := spM (mRow c5 46 g (upd (c5.1 46 g) L (c5.1 4 0 6)))) rfl rfl rfl rfl
          have hC6 : CHo g L c1 (spM (mRow c5 46 g (upd (c5.1 46 g) L (c5.1 4 0 6)))) := CH_t (CH_t hC4 hC5) (CH_t (CH_R (by decide)) (CH_s (SMo_sp _)))
          have e46 : (spM (mRow c5 46 g (upd (c5.1 46 g) L (c5.1 4 0 6)))).1 46 g L = c5.1 4 0 6 := by rw [(SMo_sp _).1 46 g (by decide), mRow_row, upd_eq]
          have eo : ∀ k', k' ≠ 4 → k' ≠ 46 → (spM (mRow c5 46 g (upd (c5.1 46 g) L (c5.1 4 0 6)))).1 k' g = c5.1 k' g := fun k' h4 h6 => by
            rw [(SMo_sp _).1 k' g h4]; exact if_neg (fun z => h6 z.1)
          revert h6 hC6 e46 eo
          generalize spM (mRow c5 46 g (upd (c5.1 46 g) L (c5.1 4 0 6))) = c6
          intro h6 hC6 e46 eo
          refine RB_cP (by decide) (am_nu (lo := 0) (hi := 9999) (t := 2186 + 6 * L + 3) h6 (by decide) (by decide)) (fun x c7 M7 ⟨q, _, hq, eq, h7⟩ => ⟨_, RU_rb h7 rfl rfl rfl rfl, CH_t hC6 (CH_t (CH_s h7.2.1) (CH_R (by decide))), fun j hj => ?_, ?_, fun _ => ?_, fun z => absurd h23 z⟩)
          · rw [upd_ne (by omega), upd_ne (by omega), upd_ne (by omega), upd_ne (by omega), hA2 j (by omega)]
          · have r47 : (mRow c7 47 g (upd (c7.1 47 g) L x)).1 47 g L = x := by rw [mRow_row, upd_eq]
            have ro : ∀ k', k' ≠ 4 → k' ≠ 47 → (mRow c7 47 g (upd (c7.1 47 g) L x)).1 k' g = c6.1 k' g := fun k' a b => (if_neg (fun z => b z.1)).trans (h7.2.1.1 k' g a)
            refine Or.inr (Or.inr (Or.inr (Or.inr (Or.inl ⟨s, d, hs, hd, ?_, ?_, ?_, ?_, ?_, ?_, ?_, ?_, fun z => z.elim⟩))))
            · rw [ro 43 (by decide) (by decide), eo 43 (by decide) (by decide), ho5 43 (by decide) (by decide), e43', k24.1]
            · rw [upd_ne (by omega), upd_ne (by omega), upd_ne (by omega), upd_ne (by omega), hA2r, k24.2]; rfl
            · rw [ro 44 (by decide) (by decide), eo 44 (by decide) (by decide), ho5 44 (by decide) (by decide), e44']
            · rw [upd_ne (by omega), upd_ne (by omega), upd_ne (by omega), upd_is (by omega)]
            · rw [ro 45 (by decide) (by decide), eo 45 (by decide) (by decide), e45]
            · rw [upd_ne (by omega), upd_ne (by omega), upd_is (by omega)]
            · rw [r47, upd_is (by omega)]
            · rw [ro 46 (by decide) (by decide), e46, upd_ne (by omega), upd_is (by omega)]
              rcases z with w | w | w
              · exact Or.inl ⟨s34.mpr w, w.2⟩
              · exact Or.inr (Or.inl ⟨s35.mpr w, w.2⟩)
              · exact Or.inr (Or.inr ⟨s36.mpr w, w.2⟩)
          · rw [upd_ne (by omega), upd_ne (by omega), upd_ne (by omega), upd_ne (by omega), hA2r, k24.2]; decide
        · rw [if_neg (fun w => z (cmp.mp w)), if_neg z]
          exact Or.inr ⟨rfl, rfl, fa_mi h5.1 h5.2.2.2.1⟩

end
