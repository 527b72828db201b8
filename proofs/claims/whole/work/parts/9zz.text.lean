/-! PART 9ZZ: a valley is read alike -/

noncomputable section
theorem RST_x {m Y : MM} {F : Nat} {B : Nat → Nat} (h : RST m) (h2 : (Y.2.2 0 = 0 ∧ Y.2.2 1 = 1) ∨ (Y.2.2 0 = 1 ∧ Y.2.2 1 = 0)) (f1 : ∀ k j, kC k → k ≠ 54 → 2 ≤ j ∨ ¬ (k = 1 ∨ k = 6 ∨ k = 9 ∨ (16 ≤ k ∧ k ≤ 19) ∨ (30 ≤ k ∧ k ≤ 39) ∨ (43 ≤ k ∧ k ≤ 48)) → Y.1 k j = m.1 k j) (hv : ∃ ns nm nt, VGo Y (Y.2.2 0) (Y.1 54 0) (Y.2.1 55 0) ns nm nt) (h14 : Y.1 11 0 14 = m.1 11 0 14 ∧ Y.1 11 0 11 = m.1 11 0 11) (h40 : Y.1 12 0 40 = m.1 12 0 40 ∧ Y.1 12 0 39 = m.1 12 0 39) (hb : ∀ j, 510 ≤ j → j < 2040 → Y.1 54 0 j = m.1 54 0 j) (hN : ∀ j, 20 ≤ j → j < 80 → Y.2.1 55 0 j = m.2.1 55 0 j) (hz : ∀ g, g < 2 → ZZo Y g) (hT : TPo Y Y F B) (fL : ∀ k j, k = 27 ∨ k = 28 ∨ k = 58 ∨ k = 11 ∨ k = 12 → Y.2.1 k j = m.2.1 k j) (f29 : ∀ j, 2 ≤ j → Y.2.1 29 j = m.2.1 29 j) (hf : Y.1 11 0 18 = Y.1 12 0 16 ∧ Y.1 11 0 19 = Y.1 12 0 17) : RST Y := by
  obtain ⟨r1, -, ⟨k, q1, q2, q3, q4⟩, r4, r5, -, r7, r8, -, r10, r11, r12, r13⟩ := h
  refine ⟨h2, hv, ⟨k, q1, by rw [h14.1]; exact q2, by rw [h40.1]; exact q3, fun i hi => ?_⟩, fun g hg => ?_, fun i hi => ?_, ⟨F, B, hT⟩, fun i hi => ?_, by rw [fL 11 0 (by omega), fL 12 0 (by omega)]; exact r8, hf, by rw [h14.2, h40.2]; exact r10, fun j hj => ?_, fun o ho => ?_, fun o ho => ?_⟩
  · obtain ⟨n1, n2, n3, z⟩ := q4 i hi
    refine ⟨n1, n2, n3, VG_c z ⟨abV_d (fun k hk => f1 k _ (by unfold kC; omega) (by omega) (Or.inl (by omega))), fun t _ => by rw [f1 38 _ (by unfold kC; omega) (by omega) (Or.inl (by omega))], fun j _ _ => by rw [f1 6 _ (by unfold kC; omega) (by omega) (Or.inl (by omega))], fun j _ _ => by rw [f1 9 _ (by unfold kC; omega) (by omega) (Or.inl (by omega))], fun x x1 x2 k _ => by rw [f1 x _ (by unfold kC; omega) (by omega) (Or.inl (by omega))], fun i _ => by rw [f29 _ (by omega)]⟩ (fun j hj => ?_) (fun j hj => ?_)⟩
    · exact hb _ (by omega) (by omega)
    · exact hN _ (by omega) (by omega)
  · by_cases c : g < 2
    · exact hz g c
    · unfold ZZo
      rw [f1 9 g (by unfold kC; omega) (by omega) (Or.inl (by omega))]
      exact r4 g hg
  · rw [f1 5 i (by unfold kC; omega) (by omega) (Or.inr (by omega)), f1 57 0 (by unfold kC; omega) (by omega) (Or.inr (by omega)), f1 56 0 (by unfold kC; omega) (by omega) (Or.inr (by omega)), fL 58 0 (by omega), fL 28 i (by omega)]
    exact r5 i hi
  · rw [fL 27 0 (by omega)]; exact r7 i hi
  · rw [f1 53 0 (by unfold kC; omega) (by omega) (Or.inr (by omega)), f1 71 0 (by unfold kC; omega) (by omega) (Or.inr (by omega))]; exact r11 j hj
  · rw [f1 69 0 (by unfold kC; omega) (by omega) (Or.inr (by omega))]; exact r12 o ho
  · rw [f1 20 0 (by unfold kC; omega) (by omega) (Or.inr (by omega)), f1 69 0 (by unfold kC; omega) (by omega) (Or.inr (by omega))]; exact r13 o ho
/-- what the model's reading leaves, from the memory before -/
def ZRo (X Z : MM) : Prop := (∀ k j, k ≠ 12 → k ≠ 54 → k ≠ 60 → k ≠ 61 → Z.1 k j = X.1 k j) ∧ Z.1 12 0 10 = 0 ∧ (∀ j, j = 16 ∨ j = 39 ∨ j = 40 → Z.1 12 0 j = X.1 12 0 j) ∧ (∀ j, 510 ≤ j → j < 2040 → Z.1 54 0 j = X.1 54 0 j) ∧ (∀ k j, k ≠ 55 → Z.2.1 k j = X.2.1 k j) ∧ (∀ j, 20 ≤ j → j < 80 → Z.2.1 55 0 j = X.2.1 55 0 j) ∧ Z.2.2 = X.2.2
theorem MR_Z {X W : MM} (h : MRo (mI X 12 0 10 0) W) : ZRo X W ∧ (∀ j, j < 2040 → W.1 54 0 j = X.1 54 0 j) ∧ ∀ j, j < 80 → W.2.1 55 0 j = X.2.1 55 0 j := by
  obtain ⟨h1, h2, h3, h4, h5, h6⟩ := h
  exact ⟨⟨fun k j a b c d => (h1 k j a b c d).trans (mRow_kk a), (h2 10 (by decide)).trans mI_eq2, fun j hj => (h2 j (by omega)).trans (mI_ne (by omega)), fun j _ hj => h3 j hj, h4, fun j _ hj => h5 j hj, h6⟩, h3, h5⟩
theorem vlB_R {X : MM} {n : Nat} : MRo (mI X 12 0 10 0) (vlB X n) := by
  have hb : MRo (mI X 12 0 10 0) (bgM X n) := MR_bg (MR_r _)
  refine MR_I (by decide) (MR_54 (fun j hj => ?_) hb)
  have e : (bgM X n).1 54 0 j = X.1 54 0 j := (hb.2.2.1 j hj).trans rfl
  rw [e]
  unfold plR
  rw [upd_ne (by omega), upd_ne (by omega), upd_ne (by omega)]
  exact if_neg (by omega)
theorem vlE_c (W : MM) : (W.1 12 0 18 = 0 ∧ vlE W = cp55 (cp54 W)) ∨ (¬ W.1 12 0 18 = 0 ∧ vlE W = W) := by
  unfold vlE
  by_cases c : W.1 12 0 18 = 0
  · exact Or.inl ⟨c, mite_t c⟩
  · exact Or.inr ⟨c, mite_f c⟩
theorem ZR_cp {X W : MM} (h : ZRo X W) : ZRo X (cp55 (cp54 W)) := by
  obtain ⟨h1, h2, h3, h4, h5, h6, h7⟩ := h
  refine ⟨fun k j a b c d => (show (cp54 W).1 k j = W.1 k j from mRow_kk b).trans (h1 k j a b c d), h2, h3, fun j a b => ?_, fun k j a => ?_, fun j a b => ?_, h7⟩
  · exact (show (if j < 510 then W.1 54 0 (2040 + j) else W.1 54 0 j) = W.1 54 0 j from if_neg (by omega)).trans (h4 j a b)
  · exact (show (cp55 (cp54 W)).2.1 k j = W.2.1 k j from if_neg (fun z => a z.1)).trans (h5 k j a)
  · exact (show (if j < 20 then W.2.1 55 0 (80 + j) else W.2.1 55 0 j) = W.2.1 55 0 j from if_neg (by omega)).trans (h6 j a b)
theorem cp_18 (W : MM) : (cp55 (cp54 W)).1 12 0 = W.1 12 0 := rfl
/-- what vlR's reading does, in all -/
theorem VZ_ok (X : MM) (n : Nat) : ZRo X (vlE (vlL 901 (vlB X n))) ∧ (¬ (vlE (vlL 901 (vlB X n))).1 12 0 18 = 0 → (∀ j, j < 2040 → (vlE (vlL 901 (vlB X n))).1 54 0 j = X.1 54 0 j) ∧ ∀ j, j < 80 → (vlE (vlL 901 (vlB X n))).2.1 55 0 j = X.2.1 55 0 j) := by
  have hW := MR_Z (MR_vL 901 _ (vlB_R (X := X) (n := n)))
  revert hW
  generalize vlL 901 (vlB X n) = W
  intro hW
  rcases vlE_c W with ⟨c, e⟩ | ⟨c, e⟩
  · rw [e]
    exact ⟨ZR_cp hW.1, fun z => absurd (show (cp55 (cp54 W)).1 12 0 18 = 0 from c) z⟩
  · rw [e]
    exact ⟨hW.1, fun _ => hW.2⟩
/-- faults told on both sides -/
theorem kf_ok {c Z : MM} (h : (c.1 4 0 9 = 0 ∧ Z.1 12 0 18 = 0 ∧ Z.1 12 0 17 = -1) ∨ FAo c Z) : (kfM c).1 11 0 18 = Z.1 12 0 18 ∧ (kfM c).1 11 0 19 = Z.1 12 0 17 := by
  have e1 : (kfM c).1 11 0 18 = c.1 4 0 9 := by
    unfold kfM
    rw [mI_ne (by decide), mI_eq2]
  have e2 : (kfM c).1 11 0 19 = if c.1 4 0 9 = 0 then -1 else c.1 4 0 10 := by
    unfold kfM
    rw [mI_eq2]
  rw [e1, e2]
  rcases h with ⟨h1, h2, h3⟩ | ⟨⟨k, k1, k9, a1, a2⟩, h2⟩
  · rw [h1, h2, h3]; exact ⟨rfl, rfl⟩
  · rw [a1, a2, ← h2, if_neg (fun z => by have := nI_inj (q := 0) (by omega) (by decide) z; omega)]
    exact ⟨rfl, rfl⟩
theorem TP_0 {Y : MM} (h1 : Y.1 4 0 5 = 0) (h2 : Y.1 12 0 10 = 0) : TPo Y Y 0 (fun _ => 0) := ⟨by decide, h1, h2, fun _ => (show (0 : Nat) < 256 by decide), fun j hj => absurd hj (by omega)⟩

end
