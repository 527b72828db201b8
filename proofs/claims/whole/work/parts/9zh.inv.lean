/-! PART 9ZH: what holds of both between calls -/

noncomputable section
theorem VS_AG {a b : Nat → Int32} {ns nm nt : Nat} (h : VSo a ns nm nt) (hA : AG a b ns nm nt) (h7 : b 7 = a 7) : VSo b ns nm nt := by
  obtain ⟨h1, h2, h3, h4, h5, h6⟩ := h
  refine ⟨AG_VA hA h1, AG_BO hA h2, AG_GN hA h3, fun s hs => ?_, fun s d hs hd => ?_, ?_⟩
  · obtain ⟨T, W, e1, e2, q⟩ := h4 s hs
    exact ⟨T, W, by rw [← (AG_s hA hs).2.2.1]; exact e1, by rw [← AG_0 hA (by decide)]; exact e2, q⟩
  · rw [← AG_l hA hs hd]; exact h5 s d hs hd
  · rw [h7, h6]; exact AG_cpF hA ns (Nat.le_refl _)
theorem AG_pt9 {a b : Nat → Int32} {ns nm nt : Nat} (h : ∀ j, j < 144 → b j = a j) (h1 : ns ≤ 4) (h2 : nm ≤ 4) (h3 : nt ≤ 12) : AG a b ns nm nt := ⟨fun j hj => (h j (by omega)).symm, (h 8 (by omega)).symm, (h 9 (by omega)).symm, fun s f hs hf => (h _ (by omega)).symm, fun s f hs hf => (h _ (by omega)).symm, fun s f hs hf => (h _ (by omega)).symm, fun s f hs hf => (h _ (by omega)).symm, fun s f hs hf => (h _ (by omega)).symm⟩
theorem AG_tr {a b c : Nat → Int32} {ns nm nt : Nat} (h : AG a b ns nm nt) (h' : AG b c ns nm nt) : AG a c ns nm nt := ⟨fun j x => (h.1 j x).trans (h'.1 j x), h.2.1.trans h'.2.1, h.2.2.1.trans h'.2.2.1, fun s f x y => (h.2.2.2.1 s f x y).trans (h'.2.2.2.1 s f x y), fun s f x y => (h.2.2.2.2.1 s f x y).trans (h'.2.2.2.2.1 s f x y), fun s f x y => (h.2.2.2.2.2.1 s f x y).trans (h'.2.2.2.2.2.1 s f x y), fun s f x y => (h.2.2.2.2.2.2.1 s f x y).trans (h'.2.2.2.2.2.2.1 s f x y), fun s f x y => (h.2.2.2.2.2.2.2 s f x y).trans (h'.2.2.2.2.2.2.2 s f x y)⟩
theorem YL_a {a b : Nat → Int32} {ns nm nt L k : Nat} (h : YL a ns nm nt L k) (hk : k < 60) (e : ∀ j, 146 ≤ j → j < 510 → b j = a j) : YL b ns nm nt L k := by
  unfold YL at *
  rw [e (146 + 6 * k) (by omega) (by omega), e (147 + 6 * k) (by omega) (by omega), e (148 + 6 * k) (by omega) (by omega), e (150 + 6 * k) (by omega) (by omega)]
  obtain ⟨h1, h2, h3, h4, h5, h6⟩ := h
  refine ⟨h1, h2, h3, h4, fun z => ?_, h6⟩
  obtain ⟨o, ho, eo, q⟩ := h5 z
  exact ⟨o, ho, eo, fun y => q (by rw [← e _ (by omega) (by omega)]; exact y)⟩
theorem YP_a {a b : Nat → Int32} {ns nm nt L : Nat} (h : YP a ns nm nt L) (h10 : b 10 = a 10) (e : ∀ j, 146 ≤ j → j < 510 → b j = a j) : YP b ns nm nt L := ⟨by rw [h10]; exact h.1, h.2.1, fun k hk => YL_a (h.2.2 k hk) (by have := h.2.1; omega) e⟩
theorem LNo_a {c c' : MM} {g g' k : Nat} {a b : Nat → Int32} (h : LNo c g a k) (hk : k < 60) (hc : ∀ x, 43 ≤ x → x ≤ 48 → c'.1 x g' k = c.1 x g k) (e : ∀ j, 146 ≤ j → j < 510 → b j = a j) : LNo c' g' b k := by
  unfold LNo at *
  rw [hc 43 (by decide) (by decide), hc 44 (by decide) (by decide), hc 45 (by decide) (by decide), hc 46 (by decide) (by decide), hc 47 (by decide) (by decide), hc 48 (by decide) (by decide), e (146 + 6 * k) (by omega) (by omega), e (147 + 6 * k) (by omega) (by omega), e (148 + 6 * k) (by omega) (by omega), e (149 + 6 * k) (by omega) (by omega), e (150 + 6 * k) (by omega) (by omega), e (151 + 6 * k) (by omega) (by omega)]
  exact h
/-- the class's cells of a valley agree -/
def GGo (c : MM) (g : Nat) (c' : MM) (g' : Nat) : Prop := abV c' g' = abV c g ∧ (∀ t, t < 12 → c'.1 38 g' t = c.1 38 g t) ∧ (∀ j, 13 ≤ j → j ≤ 19 → c'.1 6 g' j = c.1 6 g j) ∧ (∀ j, 6 ≤ j → j ≤ 8 → c'.1 9 g' j = c.1 9 g j) ∧ (∀ x, 43 ≤ x → x ≤ 48 → ∀ k, k < 60 → c'.1 x g' k = c.1 x g k) ∧ ∀ i, i < 20 → c'.2.1 29 g' i = c.2.1 29 g i
theorem GG_r (c : MM) (g : Nat) : GGo c g c g := ⟨rfl, fun _ _ => rfl, fun _ _ _ => rfl, fun _ _ _ => rfl, fun _ _ _ _ _ => rfl, fun _ _ => rfl⟩
theorem VG_c {c c' : MM} {g g' : Nat} {a b : Nat → Int32} {N N' : Nat → Int64} {ns nm nt : Nat} (h : VGo c g a N ns nm nt) (hG : GGo c g c' g') (ha : ∀ j, j < 510 → b j = a j) (hN : ∀ i, i < 20 → N' i = N i) : VGo c' g' b N' ns nm nt := by
  obtain ⟨h1, h2, h3, ⟨h4, h4'⟩, h5, ⟨n1, n2, n3, n4⟩, ⟨na, m1, m2⟩, h8⟩ := h
  obtain ⟨g1, g2, g3, g4, g5, g6⟩ := hG
  have b1 := h3.1.1.2
  have b2 := h3.1.2.1.2
  have b3 := h3.1.2.2.1.2
  have hAB : AG a b ns nm nt := AG_pt9 (fun j hj => ha j (by omega)) b1 b2 b3
  refine ⟨by unfold VC2; rw [g1]; exact h1, by rw [g1]; exact AG_tr h2 hAB, VS_AG h3 hAB (ha 7 (by omega)), ⟨fun t ht => by rw [g2 t (by omega), g1]; exact h4 t ht, by rw [g3 19 (by decide) (by decide), g1]; exact h4'⟩, fun t ht => by rw [g2 t ht]; exact h5 t ht, ⟨fun i hi => ?_, fun i hi => ?_, fun i hi => ?_, fun i hi z => by rw [g6 i hi]; exact n4 i hi z⟩, ⟨na, by rw [g3 16 (by decide) (by decide)]; exact m1, m2⟩, ?_⟩
  · rw [g6 _ (by omega), hN _ (by omega)]; exact n1 i hi
  · rw [g6 _ (by omega), hN _ (by omega)]; exact n2 i hi
  · rw [g6 _ (by omega), hN _ (by omega)]; exact n3 i hi
  · unfold YRR
    rw [g4 6 (by decide) (by decide), g4 8 (by decide) (by decide), ha 10 (by omega)]
    refine h8.imp id (fun ⟨q, L, q1, q2, q3, q4⟩ => ⟨q, L, q1, YP_a q2 (ha 10 (by omega)) (fun j _ h => ha j h), fun k hk => ?_, fun k hk => LNo_a (q4 k hk) (by have := q2.2.1; omega) (fun x x1 x2 => g5 x x1 x2 k (by have := q2.2.1; omega)) (fun j _ h => ha j h)⟩)
    have := q2.2.1
    have z := q3 k hk
    unfold YLc at *
    rw [g5 43 (by decide) (by decide) k (by omega), g5 44 (by decide) (by decide) k (by omega), g5 45 (by decide) (by decide) k (by omega), g5 48 (by decide) (by decide) k (by omega)]
    exact z
def slA (a : Nat → Int32) (o : Nat) : Nat → Int32 := fun j => a (510 * o + j)
def slN (N : Nat → Int64) (o : Nat) : Nat → Int64 := fun j => N (20 * o + j)
/-- the trays -/
def TRR (m : MM) : Prop := ∀ i, i < 4 → ∃ q, q ≤ 60 ∧ m.1 5 i 3 = nI q ∧ ((m.1 5 i 1 = 0 ∧ m.1 57 0 i = -1) ∨ (m.1 5 i 1 = 1 ∧ m.1 57 0 i = nI q ∧ m.1 56 0 i = m.1 5 i 2 ∧ ∀ p, p < q → m.2.1 58 0 (60 * i + p) = m.2.1 28 i p))
/-- what holds between calls, but for STATUS -/
def RST (m : MM) : Prop := ((m.2.2 0 = 0 ∧ m.2.2 1 = 1) ∨ (m.2.2 0 = 1 ∧ m.2.2 1 = 0)) ∧ (∃ ns nm nt, VGo m (m.2.2 0) (m.1 54 0) (m.2.1 55 0) ns nm nt) ∧ (∃ k, k ≤ 3 ∧ m.1 11 0 14 = nI k ∧ m.1 12 0 40 = nI k ∧ ∀ i, i < k → ∃ ns nm nt, VGo m (2 + i) (slA (m.1 54 0) (i + 1)) (slN (m.2.1 55 0) (i + 1)) ns nm nt) ∧ (∀ g, g < 5 → ZZo m g) ∧ TRR m ∧ (∃ F B, TPo m m F B) ∧ OWo m ∧ (m.2.1 11 0 16 = m.2.1 12 0 3 ∧ m.2.1 11 0 17 = m.2.1 12 0 4) ∧ (m.1 11 0 18 = m.1 12 0 16 ∧ m.1 11 0 19 = m.1 12 0 17) ∧ ((m.1 11 0 11 = 0 ∧ m.1 12 0 39 = 0) ∨ (m.1 11 0 11 = 1 ∧ m.1 12 0 39 = 1)) ∧ (∀ j, j < 5 → m.1 53 0 j = m.1 71 0 j) ∧ LPo m ∧ LLo m m
def INV (m : MM) : Prop := RST m ∧ m.1 11 0 15 = m.1 12 0 2
/-- what RST looks at -/
def kC (k : Nat) : Prop := k = 1 ∨ k = 5 ∨ k = 6 ∨ k = 9 ∨ (16 ≤ k ∧ k ≤ 20) ∨ k = 26 ∨ (30 ≤ k ∧ k ≤ 39) ∨ (43 ≤ k ∧ k ≤ 48) ∨ k = 53 ∨ k = 54 ∨ k = 56 ∨ k = 57 ∨ k = 59 ∨ k = 69 ∨ k = 71
def KP (m m' : MM) : Prop := (∀ k j, kC k → m'.1 k j = m.1 k j) ∧ (m'.1 11 0 11 = m.1 11 0 11 ∧ m'.1 11 0 14 = m.1 11 0 14 ∧ m'.1 11 0 18 = m.1 11 0 18 ∧ m'.1 11 0 19 = m.1 11 0 19 ∧ m'.1 4 0 5 = m.1 4 0 5) ∧ (m'.1 12 0 10 = m.1 12 0 10 ∧ m'.1 12 0 16 = m.1 12 0 16 ∧ m'.1 12 0 17 = m.1 12 0 17 ∧ m'.1 12 0 39 = m.1 12 0 39 ∧ m'.1 12 0 40 = m.1 12 0 40) ∧ (∀ k j, k = 27 ∨ k = 28 ∨ k = 29 ∨ k = 55 ∨ k = 58 → m'.2.1 k j = m.2.1 k j) ∧ (m'.2.1 11 0 16 = m.2.1 11 0 16 ∧ m'.2.1 11 0 17 = m.2.1 11 0 17 ∧ m'.2.1 12 0 3 = m.2.1 12 0 3 ∧ m'.2.1 12 0 4 = m.2.1 12 0 4) ∧ m'.2.2 = m.2.2
theorem KP_r (m : MM) : KP m m := ⟨fun _ _ _ => rfl, ⟨rfl, rfl, rfl, rfl, rfl⟩, ⟨rfl, rfl, rfl, rfl, rfl⟩, fun _ _ _ => rfl, ⟨rfl, rfl, rfl, rfl⟩, rfl⟩
theorem KP_t {a b c : MM} (h : KP a b) (h' : KP b c) : KP a c := by
  obtain ⟨h1, ⟨a1, a2, a3, a4, a5⟩, ⟨b1, b2, b3, b4, b5⟩, h4, ⟨c1, c2, c3, c4⟩, h6⟩ := h
  obtain ⟨i1, ⟨d1, d2, d3, d4, d5⟩, ⟨e1, e2, e3, e4, e5⟩, i4, ⟨f1, f2, f3, f4⟩, i6⟩ := h'
  exact ⟨fun k j x => (i1 k j x).trans (h1 k j x), ⟨d1.trans a1, d2.trans a2, d3.trans a3, d4.trans a4, d5.trans a5⟩, ⟨e1.trans b1, e2.trans b2, e3.trans b3, e4.trans b4, e5.trans b5⟩, fun k j x => (i4 k j x).trans (h4 k j x), ⟨f1.trans c1, f2.trans c2, f3.trans c3, f4.trans c4⟩, i6.trans h6⟩
theorem kC_no {k : Nat} (h : k = 0 ∨ k = 2 ∨ k = 3 ∨ k = 4 ∨ k = 7 ∨ k = 8 ∨ k = 10 ∨ k = 11 ∨ k = 12 ∨ k = 13 ∨ k = 14 ∨ k = 15 ∨ (21 ≤ k ∧ k ≤ 25) ∨ (27 ≤ k ∧ k ≤ 29) ∨ (40 ≤ k ∧ k ≤ 42) ∨ (49 ≤ k ∧ k ≤ 52) ∨ k = 55 ∨ k = 58 ∨ (60 ≤ k ∧ k ≤ 68) ∨ k = 70) : ¬ kC k := by
  unfold kC
  omega
theorem GG_k {m m' : MM} (h : ∀ k j, kC k → m'.1 k j = m.1 k j) (hL : ∀ j, m'.2.1 29 j = m.2.1 29 j) (g : Nat) : GGo m g m' g := by
  have e : ∀ k, kC k → m'.1 k g = m.1 k g := fun k hk => h k g hk
  refine ⟨abV_d (fun k hk => e k (by unfold kC; omega)), fun t _ => by rw [e 38 (by unfold kC; omega)], fun j _ _ => by rw [e 6 (by unfold kC; omega)], fun j _ _ => by rw [e 9 (by unfold kC; omega)], fun x x1 x2 k _ => by rw [e x (by unfold kC; omega)], fun i _ => by rw [hL g]⟩
theorem RST_k {m m' : MM} (h : RST m) (hk : KP m m') : RST m' := by
  obtain ⟨k1, ⟨a1, a2, a3, a4, a5⟩, ⟨b1, b2, b3, b4, b5⟩, k4, ⟨c1, c2, c3, c4⟩, k6⟩ := hk
  obtain ⟨r1, ⟨ns, nm, nt, r2⟩, ⟨k, q1, q2, q3, q4⟩, r4, r5, ⟨F, B, t1, t2, t3, t4, t5⟩, r7, r8, r9, r10, r11, r12, r13⟩ := h
  have hG := fun g => GG_k k1 (fun j => k4 29 j (by omega)) g
  have e54 : m'.1 54 0 = m.1 54 0 := k1 54 0 (by unfold kC; omega)
  have e55 : m'.2.1 55 0 = m.2.1 55 0 := k4 55 0 (by omega)
  refine ⟨by rw [k6]; exact r1, ⟨ns, nm, nt, by rw [k6, e54, e55]; exact VG_c r2 (hG _) (fun _ _ => rfl) (fun _ _ => rfl)⟩, ⟨k, q1, by rw [a2]; exact q2, by rw [b5]; exact q3, fun i hi => ?_⟩, fun g hg => ?_, fun i hi => ?_, ⟨F, B, t1, by rw [a5]; exact t2, by rw [b1]; exact t3, t4, fun j hj => ?_⟩, fun i hi => ?_, by rw [c1, c2, c3, c4]; exact r8, by rw [a3, a4, b2, b3]; exact r9, by rw [a1, b4]; exact r10, fun j hj => ?_, fun o ho => ?_, fun o ho => ?_⟩
  · obtain ⟨n1, n2, n3, z⟩ := q4 i hi
    exact ⟨n1, n2, n3, by rw [e54, e55]; exact VG_c z (hG _) (fun _ _ => rfl) (fun _ _ => rfl)⟩
  · unfold ZZo
    rw [k1 9 g (by unfold kC; omega)]
    exact r4 g hg
  · rw [k1 5 i (by unfold kC; omega), k1 57 0 (by unfold kC; omega), k1 56 0 (by unfold kC; omega), k4 58 0 (by omega), k4 28 i (by omega)]
    exact r5 i hi
  · rw [k1 26 0 (by unfold kC; omega), k1 59 0 (by unfold kC; omega)]
    exact t5 j hj
  · rw [k4 27 0 (by omega)]; exact r7 i hi
  · rw [k1 53 0 (by unfold kC; omega), k1 71 0 (by unfold kC; omega)]; exact r11 j hj
  · rw [k1 69 0 (by unfold kC; omega)]; exact r12 o ho
  · rw [k1 20 0 (by unfold kC; omega), k1 69 0 (by unfold kC; omega)]; exact r13 o ho
/-- a cell that nothing looks at -/
theorem KP_R {m : MM} {k g : Nat} {f : Nat → Int32} (h : k = 0 ∨ k = 2 ∨ k = 3 ∨ k = 7 ∨ k = 8 ∨ k = 10 ∨ k = 13 ∨ k = 14 ∨ k = 15 ∨ (21 ≤ k ∧ k ≤ 25) ∨ (40 ≤ k ∧ k ≤ 42) ∨ (49 ≤ k ∧ k ≤ 52) ∨ (60 ≤ k ∧ k ≤ 68) ∨ k = 70) : KP m (mRow m k g f) := by
  have e : ∀ k' j, k' ≠ k → (mRow m k g f).1 k' j = m.1 k' j := fun k' j hne => if_neg (fun z => hne z.1)
  refine ⟨fun k' j x => e k' j (fun z => kC_no (by omega) (z ▸ x)), ⟨?_, ?_, ?_, ?_, ?_⟩, ⟨?_, ?_, ?_, ?_, ?_⟩, fun _ _ _ => rfl, ⟨rfl, rfl, rfl, rfl⟩, rfl⟩
  all_goals (first | rw [e 11 0 (by omega)] | rw [e 4 0 (by omega)] | rw [e 12 0 (by omega)])
theorem KP_C {m : MM} {x : Int32} : KP m (stC m x) := by
  have e : ∀ k' j, k' ≠ 11 → (stC m x).1 k' j = m.1 k' j := fun k' j hne => if_neg (fun z => hne z.1)
  have e2 : ∀ j, j ≠ 15 → (stC m x).1 11 0 j = m.1 11 0 j := fun j hj => upd_ne hj
  exact ⟨fun k' j x => e k' j (fun z => kC_no (by omega) (z ▸ x)), ⟨e2 11 (by decide), e2 14 (by decide), e2 18 (by decide), e2 19 (by decide), rfl⟩, ⟨rfl, rfl, rfl, rfl, rfl⟩, fun _ _ _ => rfl, ⟨rfl, rfl, rfl, rfl⟩, rfl⟩
theorem KP_M {m : MM} {j : Nat} {x : Int32} (h : j ≠ 10 ∧ j ≠ 16 ∧ j ≠ 17 ∧ j ≠ 39 ∧ j ≠ 40) : KP m (mI m 12 0 j x) := by
  have e : ∀ k' j', k' ≠ 12 → (mI m 12 0 j x).1 k' j' = m.1 k' j' := fun k' j' hne => if_neg (fun z => hne z.1)
  have e2 : ∀ i, i ≠ j → (mI m 12 0 j x).1 12 0 i = m.1 12 0 i := fun i hi => upd_ne hi
  exact ⟨fun k' j x => e k' j (fun z => kC_no (by omega) (z ▸ x)), ⟨rfl, rfl, rfl, rfl, rfl⟩, ⟨e2 10 (by omega), e2 16 (by omega), e2 17 (by omega), e2 39 (by omega), e2 40 (by omega)⟩, fun _ _ _ => rfl, ⟨rfl, rfl, rfl, rfl⟩, rfl⟩
/-- the model's cells stay -/
def MCo (m m' : MM) : Prop := (∀ k j, k = 12 ∨ 54 ≤ k → m'.1 k j = m.1 k j) ∧ ∀ k j, k = 12 ∨ 54 ≤ k → m'.2.1 k j = m.2.1 k j
theorem MC_r (m : MM) : MCo m m := ⟨fun _ _ _ => rfl, fun _ _ _ => rfl⟩
theorem MC_t {a b c : MM} (h : MCo a b) (h' : MCo b c) : MCo a c := ⟨fun k j x => (h'.1 k j x).trans (h.1 k j x), fun k j x => (h'.2 k j x).trans (h.2 k j x)⟩
theorem MC_R {m : MM} {k g : Nat} {f : Nat → Int32} (h : k ≠ 12 ∧ k < 54) : MCo m (mRow m k g f) := ⟨fun k' j x => if_neg (fun z => by omega), fun _ _ _ => rfl⟩
theorem MC_RL {m : MM} {k g : Nat} {f : Nat → Int64} (h : k ≠ 12 ∧ k < 54) : MCo m (mRowL m k g f) := ⟨fun _ _ _ => rfl, fun k' j x => if_neg (fun z => by omega)⟩
theorem MC_D {m : MM} {d x : Nat} : MCo m (mDyn m d x) := ⟨fun _ _ _ => rfl, fun _ _ _ => rfl⟩
theorem MC_C {m : MM} {x : Int32} : MCo m (stC m x) := MC_R (by decide)
/-- how a call is held alike -/
def OKo (m : MM) (rc : Option MV × MM) (fm : MM → Option MV × MM) : Prop := MCo m rc.2 ∧ rc.1 = (fm rc.2).1 ∧ INV (fm rc.2).2
theorem ST_eq {m : MM} {x : Int32} : (stM (stC m x) x).1 11 0 15 = (stM (stC m x) x).1 12 0 2 := by
  show upd (m.1 11 0) 15 x 15 = upd (m.1 12 0) 2 x 2
  rw [upd_eq, upd_eq]
theorem IN_s {m : MM} (h : RST m) (x : Int32) : INV (stM (stC m x) x) := ⟨RST_k h (KP_t KP_C (KP_M (by decide))), ST_eq⟩
/-- one answers as the other -/
theorem OK_2 {m : MM} (h : RST m) {p q : Prop} [Decidable p] [Decidable q] {v w : Int32} (hpq : p ↔ ¬ q) (hv : q → v = w) {fm : MM → Option MV × MM} (hf : ∀ x, fm (stC m x) = if q then gvM (stC m x) w else rfM (stC m x) 1) : OKo m (if p then rfC m 1 else gvC m v) fm := by
  by_cases x : p
  · rw [if_pos x]
    have e := (hf 1).trans (if_neg (hpq.mp x))
    refine ⟨MC_C, ?_, ?_⟩
    · show _ = (fm (stC m 1)).1
      rw [e]; rfl
    · show INV (fm (stC m 1)).2
      rw [e]; exact IN_s h 1
  · have y : q := Decidable.byContradiction (fun z => x (hpq.mpr z))
    have e := (hf 0).trans (if_pos y)
    rw [if_neg x]
    refine ⟨MC_C, ?_, ?_⟩
    · show _ = (fm (stC m 0)).1
      rw [e, ← hv y]; rfl
    · show INV (fm (stC m 0)).2
      rw [e]; exact IN_s h 0
theorem OK_2n {m : MM} (h : RST m) {p q : Prop} [Decidable p] [Decidable q] {v w : Int32} (hpq : p ↔ ¬ q) (hv : q → v = w ∧ (v = -1 ∨ ¬ v < 0)) {fm : MM → Option MV × MM} (hf : ∀ x, fm (stC m x) = if q then onM (stC m x) w else rfM (stC m x) 1) : OKo m (if p then rfC m 1 else onC m v) fm := by
  by_cases x : p
  · rw [if_pos x]
    have e := (hf 1).trans (if_neg (hpq.mp x))
    refine ⟨MC_C, ?_, ?_⟩
    · show _ = (fm (stC m 1)).1
      rw [e]; rfl
    · show INV (fm (stC m 1)).2
      rw [e]; exact IN_s h 1
  · have y : q := Decidable.byContradiction (fun z => x (hpq.mpr z))
    obtain ⟨e1, e2⟩ := hv y
    rw [if_neg x]
    unfold onC
    rcases e2 with z | z
    · have e := (hf 6).trans (if_pos y)
      have n : v < 0 := by rw [z]; decide
      rw [if_pos n, if_pos n]
      unfold onM at e
      rw [← e1, if_pos z] at e
      refine ⟨MC_C, ?_, ?_⟩
      · show _ = (fm (stC m 6)).1
        rw [e, z]
      · show INV (fm (stC m 6)).2
        rw [e]; exact IN_s h 6
    · have e := (hf 0).trans (if_pos y)
      have n1 : ¬ v = -1 := fun w => z (by rw [w]; decide)
      rw [if_neg z, if_neg z]
      unfold onM at e
      rw [← e1, if_neg n1] at e
      refine ⟨MC_C, ?_, ?_⟩
      · show _ = (fm (stC m 0)).1
        rw [e]
      · show INV (fm (stC m 0)).2
        rw [e]; exact IN_s h 0
theorem or_nn {p q : Prop} [Decidable p] [Decidable q] : (p ∨ q) ↔ ¬ (¬ p ∧ ¬ q) := by
  by_cases x : p
  · simp [x]
  · by_cases y : q <;> simp [x, y]
theorem if_if {α : Type} {p q : Prop} [Decidable p] [Decidable q] (a b : α) : (if p then a else if q then a else b) = if p ∨ q then a else b := by
  by_cases x : p
  · simp [x]
  · by_cases y : q <;> simp [x, y]

end
