/-! PART 9ZZU: the first memory holds what holds between calls -/

noncomputable section
set_option maxRecDepth 20000 in
theorem VA_f : VA (abV mF 0) 0 0 0 := ⟨⟨by decide +kernel, by decide⟩, ⟨by decide +kernel, by decide⟩, ⟨by decide +kernel, by decide⟩, fun j hj => absurd hj (Nat.not_lt_zero j), ⟨2, by decide, by decide, by decide +kernel⟩, ⟨4, by decide, by decide, by decide +kernel⟩⟩
theorem MD_f : MDo (abV mF 0) := ⟨fun s hs => Or.inl ((by decide +kernel : ∀ s, s < 4 → abV mF 0 (15 + 4 * s) = -1) s hs), fun s hs => Or.inl ((by decide +kernel : ∀ s, s < 4 → abV mF 0 (31 + 4 * s) = -1) s hs), ⟨0, by decide, by decide +kernel⟩⟩
theorem AG_f : AG (abV mF 0) (mF.1 54 0) 0 0 0 := ⟨(by decide +kernel : ∀ j, j ≤ 6 → abV mF 0 j = mF.1 54 0 j), by decide +kernel, by decide +kernel, fun s _ hs => absurd hs (Nat.not_lt_zero s), fun s _ hs => absurd hs (Nat.not_lt_zero s), fun s _ hs => absurd hs (Nat.not_lt_zero s), fun s _ hs => absurd hs (Nat.not_lt_zero s), fun s d hs hd => (by decide +kernel : ∀ s, s < 4 → ∀ d, d < 4 → abV mF 0 (128 + 4 * s + d) = mF.1 54 0 (128 + 4 * s + d)) s hs d hd⟩
theorem VA_g : VA (mF.1 54 0) 0 0 0 := ⟨⟨by decide +kernel, by decide⟩, ⟨by decide +kernel, by decide⟩, ⟨by decide +kernel, by decide⟩, fun j hj => absurd hj (Nat.not_lt_zero j), ⟨2, by decide, by decide, by decide +kernel⟩, ⟨4, by decide, by decide, by decide +kernel⟩⟩
theorem BO_g : BO (mF.1 54 0) 0 0 0 := ⟨fun s hs => absurd hs (Nat.not_lt_zero s), fun s hs => absurd hs (Nat.not_lt_zero s), fun s _ hs => absurd hs (Nat.not_lt_zero s), fun s hs => absurd hs (Nat.not_lt_zero s), ⟨0, by decide, by decide +kernel, fun t h => absurd h (by rw [Nat.zero_testBit]; decide)⟩, ⟨0, by decide, by decide +kernel⟩⟩
theorem VS_g : VSo (mF.1 54 0) 0 0 0 := ⟨VA_g, BO_g, fun t ht => absurd ht (Nat.not_lt_zero t), fun s hs => absurd hs (Nat.not_lt_zero s), fun s d hs hd => ⟨0, by decide, (by decide +kernel : ∀ s, s < 4 → ∀ d, d < 4 → mF.1 54 0 (128 + 4 * s + d) = nI 0) s hs d hd⟩, by decide +kernel⟩
theorem NE_f : NEo mF 0 0 := ⟨fun t ht => absurd ht (Nat.not_lt_zero t), (by decide +kernel : mF.1 6 0 19 = 0)⟩
theorem ND_f : NDo mF 0 := fun t ht => ⟨0, by decide, (by decide +kernel : ∀ t, t < 12 → mF.1 38 0 t = nI 0) t ht⟩
theorem NW_f : NWo mF 0 (mF.2.1 55 0) 0 0 0 0 := ⟨fun t ht => absurd ht (Nat.not_lt_zero t), fun t ht => absurd ht (Nat.not_lt_zero t), fun t ht => absurd ht (Nat.not_lt_zero t), fun i hi _ => (by decide +kernel : ∀ i, i < 20 → mF.2.1 29 0 i = 0) i hi⟩
theorem VG_f : VGo mF 0 (mF.1 54 0) (mF.2.1 55 0) 0 0 0 := ⟨⟨VA_f, MD_f⟩, AG_f, VS_g, NE_f, ND_f, NW_f, ⟨0, by decide +kernel, by decide⟩, Or.inl ⟨by decide +kernel, by decide +kernel⟩⟩
theorem OW_f : OWo mF := fun i hi => (by decide +kernel : ∀ i, i < 30 → mF.2.1 27 0 i = lN (e27 (kwC (kM i)) (kwL (kM i)))) i hi
theorem TR_f : TRR mF := fun i hi => ⟨0, by decide, (by decide +kernel : ∀ i, i < 4 → mF.1 5 i 3 = nI 0) i hi, Or.inl ⟨(by decide +kernel : ∀ i, i < 4 → mF.1 5 i 1 = 0) i hi, (by decide +kernel : ∀ i, i < 4 → mF.1 57 0 i = -1) i hi⟩⟩
theorem RST_f : RST mF := ⟨Or.inl ⟨rfl, rfl⟩, ⟨0, 0, 0, VG_f⟩, ⟨0, by decide, by decide +kernel, by decide +kernel, fun i hi => absurd hi (Nat.not_lt_zero i)⟩, fun g hg => Or.inl ((by decide +kernel : ∀ g, g < 5 → mF.1 9 g 6 = 0) g hg), TR_f, ⟨0, fun _ => 0, by decide, by decide +kernel, by decide +kernel, fun _ => Nat.le_of_ble_eq_true rfl, fun j hj => absurd hj (Nat.not_lt_zero j)⟩, OW_f, ⟨by decide +kernel, by decide +kernel⟩, ⟨by decide +kernel, by decide +kernel⟩, Or.inl ⟨by decide +kernel, by decide +kernel⟩, fun j hj => (by decide +kernel : ∀ j, j < 5 → mF.1 53 0 j = mF.1 71 0 j) j hj, fun o ho => ⟨0, by decide, (by decide +kernel : ∀ o, o < 80 → mF.1 69 0 o = nI 0) o ho⟩, fun o ho => ⟨0, by decide, (by decide +kernel : ∀ o, o < 60 → mF.1 20 0 o = nI 0) o ho, (by decide +kernel : ∀ o, o < 60 → mF.1 69 0 o = nI (0 - 1)) o ho⟩⟩
theorem INV_f : INV mF := ⟨RST_f, by decide +kernel⟩

end
