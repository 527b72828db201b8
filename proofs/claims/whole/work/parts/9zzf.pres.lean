/-! PART 9ZZF: what the calls ask for, holds -/

noncomputable section
theorem AF_of {a : Nat → Int32} {ns nm nt : Nat} (h : BO a ns nm nt) : AFo a nt := fun t ht => by
  obtain ⟨A, hA, eA, -⟩ := h.2.2.2.1 t ht
  unfold ahN
  rw [eA, nI_clamp (by omega)]
  exact ⟨hA, rfl⟩
/-- what the model's calls ask for -/
theorem PM_ok {m M : MM} (h : RST m) (hM : MCo m M) : VM M ∧ HSo (M.1 54 0) ∧ HBo (M.1 54 0) ∧ (∃ ns nm nt, VMx M ns nm nt ∧ AFo (M.1 54 0) nt) ∧ TRo M ∧ MKo M ∧ LPo M ∧ (∃ n, n ≤ 900 ∧ M.1 12 0 10 = nI n) ∧ (∃ ns nm nt, VMx M ns nm nt ∧ YO (M.1 54 0) ns nm nt ∧ WBo (M.1 54 0) nt) := by
  obtain ⟨ns, nm, nt, hG, -⟩ := NOW h
  have hS := hG.2.2.1
  have e : M.1 54 0 = m.1 54 0 := hM.1 54 0 (by omega)
  obtain ⟨F, B, hT⟩ := h.2.2.2.2.2.1
  obtain ⟨q, q1, q2, q3, q4⟩ := h.2.2.1
  have hY : YO (m.1 54 0) ns nm nt := hG.2.2.2.2.2.2.2.elim (fun z => Or.inl z.2) (fun ⟨_, L, _, z, _⟩ => Or.inr ⟨L, z⟩)
  unfold VM VMx
  rw [e]
  refine ⟨⟨ns, nm, nt, hS.1⟩, BO_HS hS.1, BO_HB hS.1 hS.2.1, ⟨ns, nm, nt, hS.1, AF_of hS.2.1⟩, fun t ht => ?_, ⟨q, q1, by rw [hM.1 12 0 (by omega)]; exact q3⟩, fun o ho => by rw [hM.1 69 0 (by omega)]; exact h.2.2.2.2.2.2.2.2.2.2.2.1 o ho, ⟨F, hT.1, by rw [hM.1 12 0 (by omega)]; exact hT.2.2.1⟩, ⟨ns, nm, nt, hS.1, hY, hS.2.1.2.1⟩⟩
  rw [hM.1 57 0 (by omega)]
  obtain ⟨r, r1, -, r3⟩ := RST_TR h t ht
  exact r3.elim (fun z => Or.inl z.2) (fun z => Or.inr ⟨r, r1, z.2.1⟩)
/-- what the class's calls ask for -/
theorem PC_ok {m : MM} (h : RST m) : (∃ ns nm nt, VD m ns nm nt ∧ YRo m (m.2.2 0) ns nm nt ∧ WBo (abV m (m.2.2 0)) nt ∧ ∃ na, VNc m (m.2.2 0) ns nm nt na) ∧ HBo (abV m (m.2.2 0)) ∧ TRc m ∧ (∀ g, g < 5 → ZZo m g) ∧ m.2.2 0 < 2 ∧ m.2.2 0 ≠ m.2.2 1 ∧ (∃ n, m.1 4 0 5 = nI n ∧ n ≤ 900) ∧ ∃ k, k ≤ 3 ∧ m.1 11 0 14 = nI k := by
  obtain ⟨ns, nm, nt, hG, c13, c14, c15, a0, a1, a2, b1, b2, b3⟩ := NOW h
  have hB : BO (abV m (m.2.2 0)) ns nm nt := AG_BO (AG_sy hG.2.1) hG.2.2.1.2.1
  obtain ⟨F, B, hT⟩ := h.2.2.2.2.2.1
  obtain ⟨q, q1, q2, q3, q4⟩ := h.2.2.1
  have hd := h.1
  obtain ⟨na, e16, n12⟩ := hG.2.2.2.2.2.2.1
  refine ⟨⟨ns, nm, nt, ⟨hG.1, hG.2.2.2.2.1⟩, fun z => ?_, hB.2.1, na, ⟨c13, b1⟩, ⟨c14, b2⟩, ⟨c15, b3⟩, e16, n12⟩, BO_HB hG.1.1 hB, fun i hi => ?_, h.2.2.2.1, by omega, by omega, ⟨F, hT.2.1, hT.1⟩, ⟨q, q1, q2⟩⟩
  · rcases hG.2.2.2.2.2.2.2 with y | ⟨-, L, y8, yP, yC, -⟩
    · exact absurd y.1 z
    · exact ⟨L, ⟨y8, yP.2.1⟩, yC⟩
  · obtain ⟨r, r1, r2, -⟩ := RST_TR h i hi
    exact ⟨r, r1, r2⟩
/-- sets of THINGS are small -/
theorem SS_ok {a : Nat → Int32} {nt : Nat} (h2 : a 2 = nI nt) (h12 : nt ≤ 12) (s y : Int32) : ∃ W, W < 4096 ∧ thA a s &&& y = nI W := by
  have hlt : stN (fun j => a (44 + 3 * j) = s) nt < 4096 := Nat.lt_of_lt_of_le (stN_lt _ nt) (Nat.pow_le_pow_right (n := 2) (by omega) h12)
  have e : thA a s = nI (stN (fun j => a (44 + 3 * j) = s) nt) := by
    unfold thA
    rw [h2, nI_clamp (by omega)]
    exact gds_st a s nt (by omega)
  rw [e]
  exact ands hlt y
theorem PS_set {m M : MM} (h : RST m) (hM : MCo m M) (s y : Int32) : (∃ W, W < 4096 ∧ thA (M.1 54 0) s &&& y = nI W) ∧ (∀ j : Nat, ∃ n, n < 4096 ∧ thA ((putA M 9 j).1 54 0) s &&& (putA M 9 j).1 54 0 9 = nI n) ∧ (∀ j : Nat, ∃ n, n < 4096 ∧ thA ((fuM M j).1 54 0) s &&& (fuM M j).1 54 0 9 = nI n) := by
  obtain ⟨ns, nm, nt, hG, c13, c14, c15, a0, a1, a2, b1, b2, b3⟩ := NOW h
  have e : M.1 54 0 = m.1 54 0 := hM.1 54 0 (by omega)
  have e2 : M.1 54 0 2 = nI nt := by rw [e]; exact a2
  refine ⟨SS_ok e2 b3 s y, fun j => SS_ok (nt := nt) ?_ b3 s _, fun j => SS_ok (nt := nt) ?_ b3 s _⟩
  · unfold putA
    rw [mI_ne (by omega), mI_ne (by decide)]; exact e2
  · unfold fuM
    rw [mI_ne (by decide)]; exact e2

end
