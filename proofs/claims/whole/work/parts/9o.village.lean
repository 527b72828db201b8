/-! PART 9O: the village, by the class and by the model -/

noncomputable section
/-- a valley that the class holds, with all that is known of it -/
def VAL (m : MM) (v ns nm nt : Nat) : Prop := VC2 m v ns nm nt ∧ BO (abV m v) ns nm nt ∧ NEo m v nt ∧ GNo (abV m v) nt ∧ (∀ s, s < ns → ∃ T W, abV m v (14 + 4 * s) = nI T ∧ abV m v 4 = nI W ∧ T ≤ W ∧ W ≤ 9 ∧ 1 ≤ W) ∧ LKo (abV m v)
theorem in_99 {w : Int32} (h : ¬ (w < 0 ∨ 99 < w)) : ∃ k, k ≤ 99 ∧ w = nI k := by
  obtain ⟨k, hk, e⟩ := arg_in (n := 100) (x := w) (fun z => h (Or.inl z)) (fun z => h (Or.inr (Int32.lt_iff_toInt_lt.mpr (by have := Int32.le_iff_toInt_le.mp z; rw [show (nI 100).toInt = 100 from by decide] at this; rw [show (99 : Int32).toInt = 99 from by decide]; omega)))) (by decide)
  exact ⟨k, by omega, e⟩
theorem mk_val {m : MM} {v s d ns nm nt : Nat} {w : Int32} (h : VAL m v ns nm nt) (hs : s < ns) (hd : d < nm) (hw : ¬ (w < 0 ∨ 99 < w)) : PLo (abV m v) s d w (mkM m v s d w) := by
  obtain ⟨hV, hB, hN, hG, hT, -⟩ := h
  obtain ⟨T, W, eT, eW, h1, h2, h3⟩ := hT s hs
  obtain ⟨g, hg, eg⟩ := hV.2.2.2
  obtain ⟨k, hk, rfl⟩ := in_99 hw
  exact mk_ok hV hB hN hG hs hd ⟨h3, h2⟩ eW h1 eT hg eg hk
theorem VAL_c {M m : MM} {v ns nm nt : Nat} (h : abV M v = abV m v) (h2 : M.1 38 v = m.1 38 v) (h3 : M.1 6 v = m.1 6 v) (hV : VAL m v ns nm nt) : VAL M v ns nm nt := by
  unfold VAL NEo at *
  rw [h, h2, h3]
  exact ⟨VC2_c h hV.1, hV.2⟩
/-- what a couple costs, for the class -/
noncomputable def cst (a : Nat → Int32) (w : Int32) (s d : Nat) : Int32 := if ¬ a (15 + 4 * s) = -1 ∨ ¬ a (31 + 4 * d) = -1 then -1 else if plA a s d w 0 = -1 then -1 else wtA a (plA a s d w 0)
theorem n_m1 {v : Nat} (h : v < 2 ^ 31) : ¬ nI v < 0 := by
  rw [Int32.lt_iff_toInt_lt, nI_tI h, show (0 : Int32).toInt = 0 from by decide]
  omega
theorem c1_cst {m M : MM} {v s d ns nm nt : Nat} {w : Int32} (h : VAL m v ns nm nt) (hM : SM8 m M) (hs : s < ns) (hd : d < nm) (hw : ¬ (w < 0 ∨ 99 < w)) : (vgC1 M v s d w).1 = cst (abV m v) w s d := by
  have ea : abV M v = abV m v := abV_8 hM
  have hv : VAL M v ns nm nt := VAL_c ea (hM 38 v (by decide) (by decide) (by decide) (by decide)) (hM 6 v (by decide) (by decide) (by decide) (by decide)) h
  have hP := mk_val hv hs hd hw
  rw [ea] at hP
  unfold vgC1 cst
  rw [ea]
  revert hP
  generalize mkM M v s d w = K
  intro hP
  by_cases c : ¬ abV m v (15 + 4 * s) = -1 ∨ ¬ abV m v (31 + 4 * d) = -1
  · rw [if_pos c, if_pos c]
  · rw [if_neg c, if_neg c]
    unfold vgc
    rcases hP.2 with ⟨e1, e2, -⟩ | ⟨Z, F, S, z1, -, -, e1, -, e3, -, -, -, -, e4, -⟩
    · rw [if_pos e2]
      show (if ¬ K.1 3 0 13 < 0 then K.1 3 0 12 else -1) = -1
      rw [e1, if_neg (by decide)]
    · rw [e4, if_neg (nI_n1 (by omega))]
      show (if ¬ K.1 3 0 13 < 0 then K.1 3 0 12 else -1) = _
      rw [e1, if_pos (n_m1 (by omega)), e3]
theorem vgI_ok {m : MM} {v s ns nm nt : Nat} {w : Int32} (h : VAL m v ns nm nt) (hs : s < ns) (hw : ¬ (w < 0 ∨ 99 < w)) : ∀ k d M, d + k = nm → SM8 m M → (∀ d', d ≤ d' → d' < nm → (vgI v s w k d M).1 40 0 (4 * s + d') = cst (abV m v) w s d') ∧ (∀ j, ¬ (4 * s + d ≤ j ∧ j < 4 * s + nm) → (vgI v s w k d M).1 40 0 j = M.1 40 0 j) ∧ (vgI v s w k d M).1 42 0 = M.1 42 0
  | 0, d, M, hk, _ => ⟨fun d' h1 h2 => absurd h2 (by omega), fun _ _ => rfl, rfl⟩
  | k + 1, d, M, hk, hM => by
    have hc := c1_cst h hM hs (show d < nm by omega) hw
    have hS := SM3_c1 M v s d w
    rw [vgI]
    revert hc hS
    generalize vgC1 M v s d w = q
    intro hc hS
    have h42 : q.2.1 42 0 = M.1 42 0 := hS 42 0 (by decide) (by decide)
    have h40 : q.2.1 40 0 = M.1 40 0 := hS 40 0 (by decide) (by decide)
    obtain ⟨i1, i2, i3⟩ := vgI_ok h hs hw k (d + 1) (mRow q.2 40 0 (upd (q.2.1 40 0) (4 * s + d) q.1)) (by omega) (SM8_R (by decide) (SM8_t hM (SM8_3 hS)))
    refine ⟨fun d' h1 h2 => ?_, fun j hj => ?_, i3.trans h42⟩
    · by_cases c : d' = d
      · rw [c, i2 (4 * s + d) (by omega)]
        exact (upd_eq).trans hc
      · exact i1 d' (by omega) h2
    · rw [i2 j (by omega)]
      refine (upd_ne (by omega)).trans ?_
      rw [h40]
theorem vgO_ok {m : MM} {v ns nm nt : Nat} {w : Int32} (h : VAL m v ns nm nt) (hm4 : nm ≤ 4) (hw : ¬ (w < 0 ∨ 99 < w)) : ∀ k s M, s + k = ns → SM8 m M → (∀ s' d, s ≤ s' → s' < ns → d < nm → (vgO v nm w k s M).1 40 0 (4 * s' + d) = cst (abV m v) w s' d) ∧ (∀ j, j < 4 * s → (vgO v nm w k s M).1 40 0 j = M.1 40 0 j) ∧ (∀ s', s ≤ s' → s' < ns → (vgO v nm w k s M).1 42 0 s' = -1) ∧ ∀ s', s' < s → (vgO v nm w k s M).1 42 0 s' = M.1 42 0 s'
  | 0, s, M, hk, _ => ⟨fun s' d h1 h2 => absurd h2 (by omega), fun _ _ => rfl, fun s' h1 h2 => absurd h2 (by omega), fun _ _ => rfl⟩
  | k + 1, s, M, hk, hM => by
    have hM1 : SM8 m (mRow M 42 0 (upd (M.1 42 0) s (-1))) := SM8_R (by decide) hM
    obtain ⟨j1, j2, j3⟩ := vgI_ok h (show s < ns by omega) hw nm 0 (mRow M 42 0 (upd (M.1 42 0) s (-1))) (by omega) hM1
    have hM2 := SM8_I v s w nm 0 _ hM1
    rw [vgO]
    revert j1 j2 j3 hM2
    generalize vgI v s w nm 0 (mRow M 42 0 (upd (M.1 42 0) s (-1))) = N
    intro j1 j2 j3 hM2
    obtain ⟨i1, i2, i3, i4⟩ := vgO_ok h hm4 hw k (s + 1) N (by omega) hM2
    refine ⟨fun s' d h1 h2 h3 => ?_, fun j hj => ?_, fun s' h1 h2 => ?_, fun s' h1 => ?_⟩
    · by_cases c : s' = s
      · rw [c, i2 _ (by omega)]
        exact j1 d (by omega) h3
      · exact i1 s' d (by omega) h2 h3
    · rw [i2 j (by omega), j2 j (by omega)]
      rfl
    · by_cases c : s' = s
      · rw [c, i4 s (by omega), j3]
        exact upd_eq
      · exact i3 s' (by omega) h2
    · rw [i4 s' (by omega), j3]
      exact upd_ne (by omega)
/-- one way, as the class weighs it: whom it takes and what it costs -/
def wyC (C : Nat → Nat → Int32) (nm : Nat) : Nat → Nat → Nat → Int32 → Option (Nat × Int32)
  | 0, _, T, su => some (T, su)
  | s + 1, r, T, su => if r % (nm + 1) < nm then (if T.testBit (r % (nm + 1)) = true ∨ C s (r % (nm + 1)) < 0 then none else wyC C nm s (r / (nm + 1)) (T ||| 2 ^ (r % (nm + 1))) (su + C s (r % (nm + 1)))) else wyC C nm s (r / (nm + 1)) T su
def dgC (nm q : Nat) : Int32 := if q < nm then nI q else -1
abbrev C40 (m : MM) (s d : Nat) : Int32 := m.1 40 0 (4 * s + d)
theorem vgW_ok {nm : Nat} : ∀ s r T su m, (wyC (C40 m) nm s r T su = none ∧ ∃ f, vgW nm s r T su m = mRow m 41 0 f) ∨ ∃ T' su' f, wyC (C40 m) nm s r T su = some (T', su') ∧ vgW nm s r T su m = vgZ (mRow m 41 0 f) T' su' ∧ (∀ j, j < s → f j = dgC nm (r / (nm + 1) ^ (s - 1 - j) % (nm + 1))) ∧ ∀ j, s ≤ j → f j = m.1 41 0 j
  | 0, r, T, su, m => Or.inr ⟨T, su, m.1 41 0, rfl, by rw [mRow_self]; rfl, fun j hj => absurd hj (by omega), fun _ _ => rfl⟩
  | s + 1, r, T, su, m => by
    have up : ∀ (g : Int32) (M : MM) (f : Nat → Int32), (∀ j, j < s → f j = dgC nm (r / (nm + 1) / (nm + 1) ^ (s - 1 - j) % (nm + 1))) → f s = dgC nm (r % (nm + 1)) → ∀ j, j < s + 1 → f j = dgC nm (r / (nm + 1) ^ (s + 1 - 1 - j) % (nm + 1)) := fun g M f h1 h2 j hj => by
      by_cases c : j = s
      · rw [c, h2, show s + 1 - 1 - s = 0 by omega, Nat.pow_zero, Nat.div_one]
      · rw [h1 j (by omega), Nat.div_div_eq_div_mul, ← Nat.pow_succ', show (s - 1 - j).succ = s + 1 - 1 - j by omega]
    rw [wyC, vgW]
    have e40 : (vgT m s).1 40 0 = m.1 40 0 := rfl
    by_cases c1 : r % (nm + 1) < nm
    · rw [if_pos c1, if_pos c1, e40]
      by_cases c2 : T.testBit (r % (nm + 1)) = true ∨ C40 m s (r % (nm + 1)) < 0
      · rw [if_pos c2, if_pos c2]
        exact Or.inl ⟨rfl, _, rfl⟩
      · rw [if_neg c2, if_neg c2]
        rcases vgW_ok s (r / (nm + 1)) (T ||| 2 ^ (r % (nm + 1))) (su + C40 m s (r % (nm + 1))) (vgU (vgT m s) s (r % (nm + 1))) with ⟨h1, f, h2⟩ | ⟨T', su', f, h1, h2, h3, h4⟩
        · refine Or.inl ⟨h1, f, h2.trans ?_⟩
          unfold vgU vgT
          rw [mRow2, mRow2]
        · refine Or.inr ⟨T', su', f, h1, h2.trans ?_, up 0 m f h3 ?_, fun j hj => ?_⟩
          · unfold vgU vgT
            rw [mRow2, mRow2]
          · rw [h4 s (by omega)]
            refine (upd_eq).trans ?_
            unfold dgC
            rw [if_pos c1]
          · rw [h4 j (by omega)]
            exact (upd_ne (by omega)).trans (upd_ne (by omega))
    · rw [if_neg c1, if_neg c1]
      rcases vgW_ok s (r / (nm + 1)) T su (vgT m s) with ⟨h1, f, h2⟩ | ⟨T', su', f, h1, h2, h3, h4⟩
      · refine Or.inl ⟨h1, f, h2.trans ?_⟩
        unfold vgT
        rw [mRow2]
      · refine Or.inr ⟨T', su', f, h1, h2.trans ?_, up 0 m f h3 ?_, fun j hj => ?_⟩
        · unfold vgT
          rw [mRow2]
        · rw [h4 s (by omega)]
          refine (upd_eq).trans ?_
          unfold dgC
          rw [if_neg c1]
        · rw [h4 j (by omega)]
          exact upd_ne (by omega)

end
