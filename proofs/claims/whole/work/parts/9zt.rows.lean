/-! PART 9ZT: rows of trays, alike -/

noncomputable section
/-- one row moves -/
theorem RST_row {m Y : MM} (h : RST m) {t q : Nat} (ht : t < 4) (hq : q ≤ 60) (e3 : m.1 5 t 3 = nI q) (y1 : ∀ k j, kC k → Y.1 k j = m.1 k j) (hc : Y.1 11 0 11 = m.1 11 0 11 ∧ Y.1 11 0 14 = m.1 11 0 14 ∧ Y.1 11 0 18 = m.1 11 0 18 ∧ Y.1 11 0 19 = m.1 11 0 19 ∧ Y.1 4 0 5 = m.1 4 0 5) (hm : Y.1 12 0 10 = m.1 12 0 10 ∧ Y.1 12 0 16 = m.1 12 0 16 ∧ Y.1 12 0 17 = m.1 12 0 17 ∧ Y.1 12 0 39 = m.1 12 0 39 ∧ Y.1 12 0 40 = m.1 12 0 40) (hL : ∀ k j, k = 27 ∨ k = 29 ∨ k = 55 ∨ (k = 28 ∧ j ≠ t) → Y.2.1 k j = m.2.1 k j) (hqq : Y.2.1 11 0 16 = m.2.1 11 0 16 ∧ Y.2.1 11 0 17 = m.2.1 11 0 17 ∧ Y.2.1 12 0 3 = m.2.1 12 0 3 ∧ Y.2.1 12 0 4 = m.2.1 12 0 4) (h2 : Y.2.2 = m.2.2) (hr : ∀ p, p < q → Y.2.1 58 0 (60 * t + p) = Y.2.1 28 t p) (ho : ∀ i p, i < 4 → i ≠ t → p < 60 → Y.2.1 58 0 (60 * i + p) = m.2.1 58 0 (60 * i + p)) : RST Y := by
  refine RST_t h (fun k j hk _ _ _ => y1 k j hk) hc hm (fun k j hk => hL k j (by omega)) hqq h2 (fun i hi => ?_)
  obtain ⟨r, r1, r2, r3⟩ := RST_TR h i hi
  rw [y1 5 i (by unfold kC; omega), y1 57 0 (by unfold kC; omega), y1 56 0 (by unfold kC; omega)]
  refine ⟨r, r1, r2, r3.imp id (fun ⟨w1, w2, w3, w4⟩ => ⟨w1, w2, w3, fun p hp => ?_⟩)⟩
  by_cases c : i = t
  · subst c
    have := nI_inj (by omega) (by omega) (r2.symm.trans e3)
    exact hr p (by omega)
  · rw [ho i p hi c (by omega), hL 28 i (by omega)]
    exact w4 p hp
theorem RST_row1 {m : MM} (h : RST m) {t q : Nat} (ht : t < 4) (hq : q ≤ 60) (e3 : m.1 5 t 3 = nI q) {f g : Nat → Int64} {x y : Int32} (hr : ∀ p, p < q → g (60 * t + p) = f p) (ho : ∀ i p, i < 4 → i ≠ t → p < 60 → g (60 * i + p) = m.2.1 58 0 (60 * i + p)) : RST (stM (mRowL (stC (mRowL m 28 t f) x) 58 0 g) y) := by
  refine RST_row h ht hq e3 (fun k j hk => ?_) ?_ ?_ (fun k j hk => ?_) ⟨rfl, rfl, rfl, rfl⟩ rfl (fun p hp => ?_) (fun i p hi hn hp => ?_)
  · unfold kC at hk
    exact (if_neg (fun z => by omega)).trans (if_neg (fun z => by omega))
  · exact ⟨rfl, rfl, rfl, rfl, rfl⟩
  · exact ⟨rfl, rfl, rfl, rfl, rfl⟩
  · exact (if_neg (fun z => by omega)).trans (if_neg (fun z => by omega))
  · have a1 : (stM (mRowL (stC (mRowL m 28 t f) x) 58 0 g) y).2.1 58 0 = g := rfl
    have a2 : (stM (mRowL (stC (mRowL m 28 t f) x) 58 0 g) y).2.1 28 t = f := by
      show (if (28 : Nat) = 58 ∧ t = 0 then g else if (28 : Nat) = 28 ∧ t = t then f else m.2.1 28 t) = f
      rw [if_neg (fun z => absurd z.1 (by decide)), if_pos ⟨rfl, rfl⟩]
    rw [a1, a2]; exact hr p hp
  · have a1 : (stM (mRowL (stC (mRowL m 28 t f) x) 58 0 g) y).2.1 58 0 = g := rfl
    rw [a1]; exact ho i p hi hn hp
theorem st_e {C N : MM} {x y : Int32} (h : N.1 11 0 15 = y) : (stM N y).1 11 0 15 = (stM N y).1 12 0 2 := by
  show N.1 11 0 15 = upd (N.1 12 0) 2 y 2
  rw [upd_eq, h]
theorem MC_L {m : MM} {f : Nat → Int64} {t : Nat} {x : Int32} : MCo m (stC (mRowL m 28 t f) x) := MC_t (MC_RL (by omega)) MC_C
theorem OK_write {m : MM} (h : RST m) (x y : Int32) (v : Int64) : OKo m (cl_write m x y v) (fun m1 => Fn_X12_write m1 [vR 12 0, vI x, vI y, vL v]) := by
  obtain ⟨e1, e2, e3⟩ := TS_ok h x y
  have hw : ∀ M, MCo m M → wpT M x y = cl_ts m x y := fun M hM => by
    rw [← e1]
    unfold wpT
    rw [hM.1 57 0 (by omega)]
  have hf : ∀ M, MCo m M → Fn_X12_write M [vR 12 0, vI x, vI y, vL v] = (some (vI (bI (cl_ts m x y = 0))), stM (mite (cl_ts m x y = 0) (wrM M x y v) M) (cl_ts m x y)) := fun M hM => by
    show (some (vI (bI (wpT M x y = 0))), stM (mite (wpT M x y = 0) (wrM M x y v) M) (wpT M x y)) = _
    rw [hw M hM]
  unfold cl_write
  by_cases c : cl_ts m x y = 0
  · rw [if_pos c]
    obtain ⟨t, q, p, ht, rfl, hq, hp, rfl, f3, f1, f57, f56, f58⟩ := e3 c
    rw [nI_clamp (by omega), nI_clamp (by omega)]
    have hM : MCo m (stC (ptC m t p v) 0) := MC_L
    refine ⟨hM, ?_, ?_⟩
    · show _ = (Fn_X12_write (stC (ptC m t p v) 0) [vR 12 0, vI (nI t), vI (nI p), vL v]).1
      rw [hf _ hM]
      show (some (vI 1) : Option MV) = some (vI (bI (cl_ts m (nI t) (nI p) = 0)))
      rw [bI_t c]
    · show INV (Fn_X12_write (stC (ptC m t p v) 0) [vR 12 0, vI (nI t), vI (nI p), vL v]).2
      rw [hf _ hM]
      show INV (stM (mite (cl_ts m (nI t) (nI p) = 0) (wrM (stC (ptC m t p v) 0) (nI t) (nI p) v) (stC (ptC m t p v) 0)) (cl_ts m (nI t) (nI p)))
      rw [mite_t c, c]
      unfold wrM
      rw [nI_clamp (by omega), nI_clamp (by omega)]
      have ev : cutV v ((stC (ptC m t p v) 0).1 56 0 t) = cuL (m.1 5 t 2) v := by
        show cutV v (m.1 56 0 t) = _
        rw [f56]; rfl
      rw [ev]
      refine ⟨RST_row1 h ht hq f3 (fun p' hp' => ?_) (fun i p' hi hn hp' => ?_), st_e (C := m) (x := 0) ?_⟩
      · show (if 60 * t + p' = 60 * t + p then cuL (m.1 5 t 2) v else m.2.1 58 0 (60 * t + p')) = if p' = p then cuL (m.1 5 t 2) v else m.2.1 28 t p'
        rw [f58 p' hp']
        exact ite_iff (by omega) _ _
      · exact if_neg (by omega)
      · show upd (m.1 11 0) 15 0 15 = 0
        exact upd_eq
  · rw [if_neg c]
    refine OK_dn h (fun X => ?_)
    show Fn_X12_write (stC m X) [vR 12 0, vI x, vI y, vL v] = _
    rw [hf _ MC_C, mite_f c, show bI (cl_ts m x y = 0) = 0 from bI_0.mpr c]
theorem OK_read {m : MM} (h : RST m) (x y : Int32) : OKo m (cl_read m x y) (fun m1 => Fn_X12_read m1 [vR 12 0, vI x, vI y]) := by
  obtain ⟨e1, e2, e3⟩ := TS_ok h x y
  have hw : ∀ X, wpT (stC m X) x y = cl_ts m x y := fun X => e1
  have hf : ∀ X, Fn_X12_read (stC m X) [vR 12 0, vI x, vI y] = (some (vL (if cl_ts m x y ≤ 0 then m.2.1 58 0 (60 * x.toNatClampNeg + y.toNatClampNeg) else -1)), stM (stC m X) (cl_ts m x y)) := fun X => by
    show (some (vL (if wpT (stC m X) x y ≤ 0 then m.2.1 58 0 (60 * x.toNatClampNeg + y.toNatClampNeg) else -1)), stM (stC m X) (wpT (stC m X) x y)) = _
    rw [hw X]
  unfold cl_read
  by_cases c : cl_ts m x y = 0
  · rw [if_pos c]
    obtain ⟨t, q, p, ht, rfl, hq, hp, rfl, f3, f1, f57, f56, f58⟩ := e3 c
    refine ⟨MC_C, ?_, ?_⟩
    · show _ = (Fn_X12_read (stC m 0) [vR 12 0, vI (nI t), vI (nI p)]).1
      rw [hf 0, c]
      show some (vL _) = some (vL (if (0 : Int32) ≤ 0 then _ else _))
      rw [if_pos (by decide), nI_clamp (by omega), nI_clamp (by omega), f58 p hp]
    · show INV (Fn_X12_read (stC m 0) [vR 12 0, vI (nI t), vI (nI p)]).2
      rw [hf 0, c]
      exact IN_s h 0
  · rw [if_neg c]
    have n := e2.resolve_left c
    refine ⟨MC_C, ?_, ?_⟩
    · show _ = (Fn_X12_read (stC m (cl_ts m x y)) [vR 12 0, vI x, vI y]).1
      rw [hf]
      show some (vL _) = some (vL (if cl_ts m x y ≤ 0 then _ else _))
      rw [if_neg n.2]; rfl
    · show INV (Fn_X12_read (stC m (cl_ts m x y)) [vR 12 0, vI x, vI y]).2
      rw [hf]
      exact IN_s h _
theorem po_at (o : Nat → Int64) {f t p q n : Nat} (hp : p + n ≤ 60) (hq : q + n ≤ 60) : ∀ i, i ≤ n → (∀ c, c < i → poR o f t p q n i (60 * t + q + poK p q n c) = o (60 * f + p + poK p q n c)) ∧ ∀ j, (∀ c, c < i → j ≠ 60 * t + q + poK p q n c) → poR o f t p q n i j = o j
  | 0, _ => ⟨fun c hc => absurd hc (by omega), fun _ _ => rfl⟩
  | i + 1, hi => by
    obtain ⟨h1, h2⟩ := po_at o (f := f) (t := t) hp hq i (by omega)
    have src : poR o f t p q n i (60 * f + p + poK p q n i) = o (60 * f + p + poK p q n i) := h2 _ (fun c hc => by
      unfold poK
      split
      · omega
      · omega)
    rw [poR, src]
    refine ⟨fun c hc => ?_, fun j hj => ?_⟩
    · show (if 60 * t + q + poK p q n c = 60 * t + q + poK p q n i then _ else _) = _
      by_cases e : c = i
      · rw [e, if_pos rfl]
      · rw [if_neg (by unfold poK; split <;> omega)]
        exact h1 c (by omega)
    · show (if j = 60 * t + q + poK p q n i then _ else _) = _
      rw [if_neg (hj i (by omega))]
      exact h2 j (fun c hc => hj c (by omega))
theorem po_end (o : Nat → Int64) {f t p q n : Nat} (hp : p + n ≤ 60) (hq : q + n ≤ 60) (j : Nat) : poR o f t p q n n j = if 60 * t + q ≤ j ∧ j < 60 * t + q + n then o (60 * f + p + (j - (60 * t + q))) else o j := by
  obtain ⟨h1, h2⟩ := po_at o (f := f) (t := t) hp hq n (Nat.le_refl _)
  by_cases c : 60 * t + q ≤ j ∧ j < 60 * t + q + n
  · rw [if_pos c]
    by_cases d : p < q
    · have z := h1 (n - 1 - (j - (60 * t + q))) (by omega)
      have e : poK p q n (n - 1 - (j - (60 * t + q))) = j - (60 * t + q) := by unfold poK; rw [if_pos d]; omega
      rw [e, show 60 * t + q + (j - (60 * t + q)) = j by omega] at z
      exact z
    · have z := h1 (j - (60 * t + q)) (by omega)
      have e : poK p q n (j - (60 * t + q)) = j - (60 * t + q) := by unfold poK; rw [if_neg d]
      rw [e, show 60 * t + q + (j - (60 * t + q)) = j by omega] at z
      exact z
  · rw [if_neg c]
    refine h2 j (fun c' hc' => ?_)
    unfold poK
    split
    · omega
    · omega
theorem sb_T {q : Nat} {p : Int32} (hq : q ≤ 60) (hp : ¬ p < 0) : (nI q - p).toInt = (q : Int) - p.toInt := by
  rw [Int32.toInt_sub, nI_tI (by omega)]
  have e0 : (0 : Int32).toInt = 0 := by decide
  rw [Int32.lt_iff_toInt_lt, e0] at hp
  have h2 := Int32.toInt_lt p
  exact Int.bmod_eq_of_le (by omega) (by omega)
theorem po_if {A B : Nat} {p q n : Int32} (hA : A ≤ 60) (hB : B ≤ 60) (hp : ¬ p < 0) (hq : ¬ q < 0) (hn : 0 ≤ n) : (nI A - p < n ∨ nI B - q < n) ↔ (nI A < n ∨ nI A - n < p ∨ nI B < n ∨ ¬ q ≤ nI B - n) := by
  have hn' : ¬ n < 0 := Int32.not_lt.mpr hn
  have e0 : (0 : Int32).toInt = 0 := by decide
  rw [Int32.lt_iff_toInt_lt, Int32.lt_iff_toInt_lt, Int32.lt_iff_toInt_lt, Int32.lt_iff_toInt_lt, Int32.lt_iff_toInt_lt, Int32.le_iff_toInt_le, sb_T hA hp, sb_T hB hq, sb_T hA hn', sb_T hB hn', nI_tI (by omega), nI_tI (by omega)]
  rw [Int32.lt_iff_toInt_lt] at hp hq hn'
  omega

end
