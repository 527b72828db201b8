/-! PART 9H: what is kept of the sets that were weighed -/

noncomputable section
/-- at the least worth, then the fewest, then the first -/
def leS (su : Nat → Nat) (Z Y : Nat) : Prop := su Z < su Y ∨ (su Z = su Y ∧ (pcN Z < pcN Y ∨ (pcN Z = pcN Y ∧ Z ≤ Y)))
theorem leS_r (su : Nat → Nat) (Z : Nat) : leS su Z Z := Or.inr ⟨rfl, Or.inr ⟨rfl, Nat.le_refl _⟩⟩
theorem leS_t {su : Nat → Nat} {X Y Z : Nat} (h : leS su X Y) (h' : leS su Y Z) : leS su X Z := by
  unfold leS at h h' ⊢
  omega
theorem leS_n {su : Nat → Nat} {X Y : Nat} (h : ¬ leS su X Y) : leS su Y X := by
  unfold leS at h ⊢
  omega
/-- numbers of a set: worth, heard, weeks; and whether she says yes -/
def NMo (m : MM) (su he wk : Nat → Nat) (ps : Nat → Prop) (Y : Nat) : Prop := Y < 4096 ∧ su Y < 2 ^ 31 ∧ he Y < 2 ^ 31 ∧ wk Y < 2 ^ 31 ∧ wkC3 m (nI (pcN Y)) = nI (wk Y) ∧ (ps Y ↔ ¬ nI (he Y) < m.1 3 0 9 + m.1 3 0 10 * nI (wk Y))
theorem NMo_p {m m' : MM} {su he wk : Nat → Nat} {ps : Nat → Prop} {Y : Nat} (h : NMo m su he wk ps Y) (hp : PMo m m') : NMo m' su he wk ps Y := by
  unfold NMo wkC3
  rw [hp.1 6 (by decide), hp.1 7 (by decide), hp.1 9 (by decide), hp.1 10 (by decide)]
  exact h
/-- what stands behind the sets of l -/
def RSo (l : List Nat) (su he wk : Nat → Nat) (ps : Nat → Prop) (m : MM) : Prop := (∃ M, M < 2 ^ 31 ∧ m.1 3 0 16 = nI M ∧ (∀ Y, Y ∈ l → he Y ≤ M) ∧ (M = 0 ∨ ∃ Y, Y ∈ l ∧ he Y = M)) ∧ ((m.1 3 0 13 = -1 ∧ ∀ Y, Y ∈ l → ¬ ps Y) ∨ ∃ Z F S, Z ∈ l ∧ F ∈ l ∧ S ∈ l ∧ ps Z ∧ ps F ∧ ps S ∧ Z < 4096 ∧ F < 4096 ∧ wk S < 2 ^ 31 ∧ su Z < 2 ^ 31 ∧ m.1 3 0 13 = nI Z ∧ m.1 3 0 11 = nI (pcN Z) ∧ m.1 3 0 12 = nI (su Z) ∧ m.1 3 0 14 = nI (pcN F) ∧ m.1 3 0 15 = nI (wk S) ∧ ∀ Y, Y ∈ l → ps Y → leS su Z Y ∧ pcN F ≤ pcN Y ∧ wk S ≤ wk Y)
theorem mem_one {l : List Nat} {X Y : Nat} : X ∈ l ++ [Y] ↔ X ∈ l ∨ X = Y := by
  rw [List.mem_append, List.mem_singleton]
theorem RS_step {l : List Nat} {su he wk : Nat → Nat} {ps : Nat → Prop} {m : MM} {Y : Nat} (hN : NMo m su he wk ps Y) (h : RSo l su he wk ps m) : RSo (l ++ [Y]) su he wk ps (weX (fun X => nI (su X)) (fun X => nI (he X)) m Y) := by
  obtain ⟨hY, hsu, hhe, hwk, ew, hps⟩ := hN
  obtain ⟨⟨M, hM, eM, hM1, hM2⟩, h2⟩ := h
  have pl := pc_le Y hY
  show RSo (l ++ [Y]) su he wk ps (we1 (we0 m (nI (he Y))) (nI Y) (nI (pcN Y)) (nI (su Y)) (nI (he Y)) (wkC3 (we0 m (nI (he Y))) (nI (pcN Y))))
  -- the most
  obtain ⟨m1, e1⟩ : ∃ m1, m1 = we0 m (nI (he Y)) := ⟨_, rfl⟩
  have c16 : m1.1 3 0 16 = nI (if M < he Y then he Y else M) := by
    rw [e1]
    unfold we0
    rw [mI_eq2, eM]
    by_cases c : M < he Y
    · rw [if_pos c, if_pos (by rw [nI_ltI hM hhe]; exact c)]
    · rw [if_neg c, if_neg (by rw [nI_ltI hM hhe]; exact c)]
  have oth : ∀ j, j ≠ 16 → m1.1 3 0 j = m.1 3 0 j := fun j hj => by
    rw [e1]
    unfold we0
    exact mI_ne hj
  have ew1 : wkC3 m1 (nI (pcN Y)) = nI (wk Y) := by
    unfold wkC3 at ew ⊢
    rw [oth 6 (by decide), oth 7 (by decide)]
    exact ew
  have most : ∀ m' : MM, m'.1 3 0 16 = m1.1 3 0 16 → ∃ M, M < 2 ^ 31 ∧ m'.1 3 0 16 = nI M ∧ (∀ X, X ∈ l ++ [Y] → he X ≤ M) ∧ (M = 0 ∨ ∃ X, X ∈ l ++ [Y] ∧ he X = M) := by
    intro m' e
    rw [e, c16]
    by_cases c : M < he Y
    · rw [if_pos c]
      refine ⟨he Y, hhe, rfl, fun X hX => ?_, Or.inr ⟨Y, mem_one.mpr (Or.inr rfl), rfl⟩⟩
      rcases mem_one.mp hX with q | q
      · have := hM1 X q; omega
      · rw [q]; exact Nat.le_refl _
    · rw [if_neg c]
      refine ⟨M, hM, rfl, fun X hX => ?_, hM2.imp id (fun ⟨X, hX, e⟩ => ⟨X, mem_one.mpr (Or.inl hX), e⟩)⟩
      rcases mem_one.mp hX with q | q
      · exact hM1 X q
      · rw [q]; omega
  rw [← e1, ew1]
  unfold we1
  rw [oth 9 (by decide), oth 10 (by decide)]
  by_cases cp : nI (he Y) < m.1 3 0 9 + m.1 3 0 10 * nI (wk Y)
  · rw [if_pos cp]
    have np : ¬ ps Y := fun z => hps.mp z cp
    refine ⟨most m1 rfl, ?_⟩
    rcases h2 with ⟨g1, g2⟩ | ⟨Z, F, S, a1, a2, a3, a4, a5, a6, a7, a8, a9, a10, b1, b2, b3, b4, b5, b6⟩
    · refine Or.inl ⟨by rw [oth 13 (by decide)]; exact g1, fun X hX => ?_⟩
      rcases mem_one.mp hX with q | q
      · exact g2 X q
      · rw [q]; exact np
    · refine Or.inr ⟨Z, F, S, mem_one.mpr (Or.inl a1), mem_one.mpr (Or.inl a2), mem_one.mpr (Or.inl a3), a4, a5, a6, a7, a8, a9, a10, by rw [oth 13 (by decide)]; exact b1, by rw [oth 11 (by decide)]; exact b2, by rw [oth 12 (by decide)]; exact b3, by rw [oth 14 (by decide)]; exact b4, by rw [oth 15 (by decide)]; exact b5, fun X hX hp => ?_⟩
      rcases mem_one.mp hX with q | q
      · exact b6 X q hp
      · rw [q] at hp; exact absurd hp np
  · rw [if_neg cp]
    have pY : ps Y := hps.mpr cp
    obtain ⟨m2, e2⟩ : ∃ m2, m2 = weA m1 (nI (pcN Y)) := ⟨_, rfl⟩
    have o2 : ∀ j, j ≠ 14 → m2.1 3 0 j = m1.1 3 0 j := fun j hj => by
      rw [e2]
      unfold weA
      exact mI_ne hj
    obtain ⟨m3, e3⟩ : ∃ m3, m3 = weB m2 (nI (wk Y)) := ⟨_, rfl⟩
    have o3 : ∀ j, j ≠ 15 → m3.1 3 0 j = m2.1 3 0 j := fun j hj => by
      rw [e3]
      unfold weB
      exact mI_ne hj
    have q13 : m3.1 3 0 13 = m.1 3 0 13 := by rw [o3 13 (by decide), o2 13 (by decide), oth 13 (by decide)]
    have q11 : m3.1 3 0 11 = m.1 3 0 11 := by rw [o3 11 (by decide), o2 11 (by decide), oth 11 (by decide)]
    have q12 : m3.1 3 0 12 = m.1 3 0 12 := by rw [o3 12 (by decide), o2 12 (by decide), oth 12 (by decide)]
    have q16 : m3.1 3 0 16 = m1.1 3 0 16 := by rw [o3 16 (by decide), o2 16 (by decide)]
    have q14 : m3.1 3 0 14 = (if m.1 3 0 13 < 0 then nI (pcN Y) else if nI (pcN Y) < m.1 3 0 14 then nI (pcN Y) else m.1 3 0 14) := by
      rw [o3 14 (by decide), e2]
      unfold weA
      rw [mI_eq2, oth 13 (by decide), oth 14 (by decide)]
    have q15 : m3.1 3 0 15 = (if m.1 3 0 13 < 0 then nI (wk Y) else if nI (wk Y) < m.1 3 0 15 then nI (wk Y) else m.1 3 0 15) := by
      rw [e3]
      unfold weB
      rw [mI_eq2, o2 13 (by decide), o2 15 (by decide), oth 13 (by decide), oth 15 (by decide)]
    rw [← e2, ← e3]
    obtain ⟨m4, e4⟩ : ∃ m4, m4 = mI (mI (mI m3 3 0 13 (nI Y)) 3 0 11 (nI (pcN Y))) 3 0 12 (nI (su Y)) := ⟨_, rfl⟩
    have r13 : m4.1 3 0 13 = nI Y := by rw [e4, mI_ne (by decide), mI_ne (by decide), mI_eq2]
    have r11 : m4.1 3 0 11 = nI (pcN Y) := by rw [e4, mI_ne (by decide), mI_eq2]
    have r12 : m4.1 3 0 12 = nI (su Y) := by rw [e4, mI_eq2]
    have r14 : m4.1 3 0 14 = m3.1 3 0 14 := by rw [e4, mI_ne (by decide), mI_ne (by decide), mI_ne (by decide)]
    have r15 : m4.1 3 0 15 = m3.1 3 0 15 := by rw [e4, mI_ne (by decide), mI_ne (by decide), mI_ne (by decide)]
    have r16 : m4.1 3 0 16 = m3.1 3 0 16 := by rw [e4, mI_ne (by decide), mI_ne (by decide), mI_ne (by decide)]
    unfold we3
    rw [← e4]
    have inY : Y ∈ l ++ [Y] := mem_one.mpr (Or.inr rfl)
    rcases h2 with ⟨g1, g2⟩ | ⟨Z, F, S, a1, a2, a3, a4, a5, a6, a7, a8, a9, a10, b1, b2, b3, b4, b5, b6⟩
    · have n0 : m.1 3 0 13 < 0 := by rw [g1]; decide
      rw [if_pos (Or.inl (by rw [q13]; exact n0))]
      refine ⟨most m4 (by rw [r16, q16]), Or.inr ⟨Y, Y, Y, inY, inY, inY, pY, pY, pY, hY, hY, hwk, hsu, r13, r11, r12, ?_, ?_, fun X hX hp => ?_⟩⟩
      · rw [r14, q14, if_pos n0]
      · rw [r15, q15, if_pos n0]
      · rcases mem_one.mp hX with q | q
        · exact absurd hp (g2 X q)
        · rw [q]; exact ⟨leS_r su Y, Nat.le_refl _, Nat.le_refl _⟩
    · have n0 : ¬ m.1 3 0 13 < 0 := by rw [b1]; exact nI_pos (by omega)
      have plF := pc_le F a8
      have plZ := pc_le Z a7
      -- the fewest, the soonest
      have f14 : ∃ F', F' ∈ l ++ [Y] ∧ ps F' ∧ F' < 4096 ∧ m3.1 3 0 14 = nI (pcN F') ∧ pcN F' ≤ pcN F ∧ pcN F' ≤ pcN Y := by
        rw [q14, if_neg n0, b4]
        by_cases c : pcN Y < pcN F
        · rw [if_pos (by rw [nI_ltI (by omega) (by omega)]; exact c)]
          exact ⟨Y, inY, pY, hY, rfl, by omega, Nat.le_refl _⟩
        · rw [if_neg (by rw [nI_ltI (by omega) (by omega)]; exact c)]
          exact ⟨F, mem_one.mpr (Or.inl a2), a5, a8, rfl, Nat.le_refl _, by omega⟩
      have f15 : ∃ S', S' ∈ l ++ [Y] ∧ ps S' ∧ wk S' < 2 ^ 31 ∧ m3.1 3 0 15 = nI (wk S') ∧ wk S' ≤ wk S ∧ wk S' ≤ wk Y := by
        rw [q15, if_neg n0, b5]
        by_cases c : wk Y < wk S
        · rw [if_pos (by rw [nI_ltI hwk a9]; exact c)]
          exact ⟨Y, inY, pY, hwk, rfl, by omega, Nat.le_refl _⟩
        · rw [if_neg (by rw [nI_ltI hwk a9]; exact c)]
          exact ⟨S, mem_one.mpr (Or.inl a3), a6, a9, rfl, Nat.le_refl _, by omega⟩
      obtain ⟨F', x1, x2, x3, x4, x5, x6⟩ := f14
      obtain ⟨S', y1, y2, y3, y4, y5, y6⟩ := f15
      have eil : ilC m3 (nI Y) (nI (pcN Y)) (nI (su Y)) ↔ ¬ leS su Z Y := by
        unfold ilC leS
        rw [q12, q11, q13, b1, b2, b3]
        by_cases k1 : su Y = su Z
        · rw [if_pos (by rw [k1])]
          by_cases k2 : pcN Y = pcN Z
          · rw [if_pos (by rw [k2]), nI_ltI (by omega) (by omega)]
            omega
          · rw [if_neg (fun z => k2 (nI_inj (by omega) (by omega) z)), nI_ltI (by omega) (by omega)]
            omega
        · rw [if_neg (fun z => k1 (nI_inj hsu a10 z)), nI_ltI hsu a10]
          omega
      by_cases c : leS su Z Y
      · rw [if_neg (fun z => z.elim (fun y => n0 (by rw [← q13]; exact y)) (fun y => eil.mp y c))]
        refine ⟨most m3 q16, Or.inr ⟨Z, F', S', mem_one.mpr (Or.inl a1), x1, y1, a4, x2, y2, a7, x3, y3, a10, by rw [q13]; exact b1, by rw [q11]; exact b2, by rw [q12]; exact b3, x4, y4, fun X hX hp => ?_⟩⟩
        rcases mem_one.mp hX with q | q
        · obtain ⟨z1, z2, z3⟩ := b6 X q hp
          exact ⟨z1, by omega, by omega⟩
        · rw [q]; exact ⟨c, x6, y6⟩
      · rw [if_pos (Or.inr (eil.mpr c))]
        refine ⟨most m4 (by rw [r16, q16]), Or.inr ⟨Y, F', S', inY, x1, y1, pY, x2, y2, hY, x3, y3, hsu, r13, r11, r12, by rw [r14]; exact x4, by rw [r15]; exact y4, fun X hX hp => ?_⟩⟩
        rcases mem_one.mp hX with q | q
        · obtain ⟨z1, z2, z3⟩ := b6 X q hp
          exact ⟨leS_t (leS_n c) z1, by omega, by omega⟩
        · rw [q]; exact ⟨leS_r su Y, x6, y6⟩
theorem RS_f {su he wk : Nat → Nat} {ps : Nat → Prop} : ∀ (l' l : List Nat) (m : MM), (∀ Y, Y ∈ l' → NMo m su he wk ps Y) → RSo l su he wk ps m → RSo (l ++ l') su he wk ps (l'.foldl (weX (fun X => nI (su X)) (fun X => nI (he X))) m)
  | [], l, m, _, h => by rw [List.append_nil]; exact h
  | Y :: l', l, m, hN, h => by
    have h1 := RS_step (hN Y List.mem_cons_self) h
    have hp : PMo m (weX (fun X => nI (su X)) (fun X => nI (he X)) m Y) := PMo_x m Y
    rw [List.foldl_cons]
    revert h1 hp
    generalize weX (fun X => nI (su X)) (fun X => nI (he X)) m Y = M
    intro h1 hp
    have z := RS_f l' (l ++ [Y]) M (fun X hX => NMo_p (hN X (List.mem_cons_of_mem _ hX)) hp) h1
    rw [List.append_assoc] at z
    exact z

end
