/-! PART 9F: sets that are grown from a row of items: which ones are come by -/

noncomputable section
def smB (n : Nat) : Nat → Nat
  | 0 => 0
  | k + 1 => smB n k + n / 2 ^ k % 2
theorem pcN_sm (n : Nat) : pcN n = smB n 12 := by
  have e : List.range 12 = [0, 1, 2, 3, 4, 5, 6, 7, 8, 9, 10, 11] := by decide
  unfold pcN
  rw [e]
  simp only [List.map_cons, List.map_nil, List.sum_cons, List.sum_nil, smB]
  omega
theorem bit_dm (n i : Nat) : n / 2 ^ i % 2 = if n.testBit i = true then 1 else 0 := by
  rw [Nat.testBit_eq_decide_div_mod_eq]
  by_cases c : n / 2 ^ i % 2 = 1
  · rw [if_pos (decide_eq_true c), c]
  · rw [if_neg (fun z => c (of_decide_eq_true z))]
    omega
theorem smB_or {X t : Nat} (h : X.testBit t = false) : ∀ k, smB (X ||| 2 ^ t) k = smB X k + (if t < k then 1 else 0)
  | 0 => by rw [if_neg (by omega)]; rfl
  | k + 1 => by
    have hb : (X ||| 2 ^ t).testBit k = true ↔ (X.testBit k = true ∨ k = t) := by
      rw [Nat.testBit_or, Bool.or_eq_true, Nat.testBit_two_pow, decide_eq_true_eq]
      exact or_congr Iff.rfl ⟨fun z => z.symm, fun z => z.symm⟩
    rw [smB, smB, smB_or h k, bit_dm, bit_dm]
    by_cases e : k = t
    · rw [if_pos (hb.mpr (Or.inr e)), e, if_neg (show ¬ t < t by omega), if_neg (fun z => by rw [h] at z; exact Bool.noConfusion z), if_pos (show t < t + 1 by omega)]
    · by_cases c : X.testBit k = true
      · rw [if_pos (hb.mpr (Or.inl c)), if_pos c]
        by_cases l : t < k
        · rw [if_pos l, if_pos (show t < k + 1 by omega)]
        · rw [if_neg l, if_neg (show ¬ t < k + 1 by omega)]
      · rw [if_neg (fun z => (hb.mp z).elim c e), if_neg c]
        by_cases l : t < k
        · rw [if_pos l, if_pos (show t < k + 1 by omega)]
        · rw [if_neg l, if_neg (show ¬ t < k + 1 by omega)]
theorem pc_or12 (X : Nat) (_ : X < 4096) (t : Nat) (ht : t < 12) (h : X.testBit t = false) : pcN (X ||| 2 ^ t) = pcN X + 1 := by
  rw [pcN_sm, pcN_sm, smB_or h, if_pos ht]
theorem sub_ex {X Y : Nat} (h : ∀ t, X.testBit t = true → Y.testBit t = true) (hne : X ≠ Y) : ∃ t, Y.testBit t = true ∧ X.testBit t = false := by
  refine Classical.byContradiction (fun z => hne (Nat.eq_of_testBit_eq (fun t => ?_)))
  cases hx : X.testBit t
  · cases hy : Y.testBit t
    · rfl
    · exact absurd ⟨t, hy, hx⟩ z
  · exact (h t hx).symm
theorem or_bt (X t j : Nat) : (X ||| 2 ^ t).testBit j = true ↔ (X.testBit j = true ∨ j = t) := by
  rw [Nat.testBit_or, Bool.or_eq_true, Nat.testBit_two_pow, decide_eq_true_eq]
  exact or_congr Iff.rfl ⟨fun z => z.symm, fun z => z.symm⟩
theorem pc_lt {Y : Nat} (hY : Y < 4096) : ∀ n X, 4096 - X ≤ n → X < 4096 → (∀ t, X.testBit t = true → Y.testBit t = true) → X ≠ Y → pcN X < pcN Y
  | 0, X, hn, hX, _, _ => by omega
  | n + 1, X, hn, hX, h, hne => by
    obtain ⟨t, ht, hx⟩ := sub_ex h hne
    have t12 : t < 12 := lt_bit (n := 12) hY ht
    have e := pc_or12 X hX t t12 hx
    have hlt : X ||| 2 ^ t < 4096 := or_lt (n := 12) hX (Nat.pow_lt_pow_right (by omega) t12)
    by_cases c : X ||| 2 ^ t = Y
    · rw [← c, e]; omega
    · have hgt : X < X ||| 2 ^ t := by
        refine Nat.lt_of_le_of_ne Nat.left_le_or (fun z => ?_)
        have := (or_bt X t t).mpr (Or.inr rfl)
        rw [← z, hx] at this
        exact Bool.noConfusion this
      have := pc_lt hY n (X ||| 2 ^ t) (by omega) hlt (fun j hj => by
        rcases (or_bt X t j).mp hj with q | q
        · exact h j q
        · rw [q]; exact ht) c
      omega
/-- the sets that are come by, in their order -/
def dfs (n : Nat) (it : Nat → Nat) (ok : Nat → Nat → Prop) [∀ j X, Decidable (ok j X)] (R : Nat) : Nat → Nat → Nat → List Nat
  | 0, _, _ => []
  | k + 1, j, X => if j < n then (if ok j X then (X ||| 2 ^ it j) :: (if R ≤ pcN X + 1 then [] else dfs n it ok R k (j + 1) (X ||| 2 ^ it j)) else []) ++ dfs n it ok R k (j + 1) X else []
/-- the first j items as a set -/
def itM (it : Nat → Nat) : Nat → Nat
  | 0 => 0
  | j + 1 => itM it j ||| 2 ^ it j
theorem itM_bit {it : Nat → Nat} : ∀ j t, (itM it j).testBit t = true ↔ ∃ i, i < j ∧ it i = t
  | 0, t => by
    rw [itM, Nat.zero_testBit]
    exact ⟨fun z => Bool.noConfusion z, fun ⟨i, hi, _⟩ => absurd hi (by omega)⟩
  | j + 1, t => by
    rw [itM, or_bt, itM_bit j t]
    constructor
    · rintro (⟨i, hi, e⟩ | e)
      · exact ⟨i, by omega, e⟩
      · exact ⟨j, by omega, e.symm⟩
    · rintro ⟨i, hi, e⟩
      by_cases c : i = j
      · rw [c] at e; exact Or.inr e.symm
      · exact Or.inl ⟨i, by omega, e⟩
/-- what is come by from X on, over the items from j on -/
def DF (n : Nat) (it : Nat → Nat) (ok : Nat → Nat → Prop) (R j X Y : Nat) : Prop := Y ≠ X ∧ (∀ t, X.testBit t = true → Y.testBit t = true) ∧ (∀ t, Y.testBit t = true → X.testBit t = true ∨ ∃ i, j ≤ i ∧ i < n ∧ it i = t) ∧ (∀ i, j ≤ i → i < n → Y.testBit (it i) = true → ok i (Y &&& itM it i)) ∧ pcN Y ≤ R
theorem dfs_mem {n : Nat} {it : Nat → Nat} {ok : Nat → Nat → Prop} [∀ j X, Decidable (ok j X)] {R : Nat} (hn : n ≤ 12) (hit : ∀ i, i < n → it i < 12) (hinj : ∀ i j, i < n → j < n → it i = it j → i = j) : ∀ k j X Y, j + k = 12 → X < 4096 → (∀ t, X.testBit t = true → ∃ i, i < j ∧ i < n ∧ it i = t) → pcN X < R → (Y ∈ dfs n it ok R k j X ↔ DF n it ok R j X Y)
  | 0, j, X, Y, hj, hX, hs, hR => by
    refine ⟨fun z => (List.not_mem_nil z).elim, fun z => ?_⟩
    exfalso
    refine z.1 (Nat.eq_of_testBit_eq (fun t => ?_))
    rw [Bool.eq_iff_iff]
    refine ⟨fun y => (z.2.2.1 t y).elim id (fun ⟨i, h1, h2, _⟩ => absurd h2 (by omega)), z.2.1 t⟩
  | k + 1, j, X, Y, hj, hX, hs, hR => by
    rw [dfs]
    by_cases c : j < n
    · rw [if_pos c]
      have t12 := hit j c
      have hXt : X.testBit (it j) = false := Bool.eq_false_iff.mpr (fun z => by
        obtain ⟨i, h1, h2, h3⟩ := hs _ z
        have := hinj i j h2 c h3
        omega)
      have hX' : X ||| 2 ^ it j < 4096 := or_lt (n := 12) hX (Nat.pow_lt_pow_right (by omega) t12)
      have hpc := pc_or12 X hX (it j) t12 hXt
      have hs' : ∀ t, (X ||| 2 ^ it j).testBit t = true → ∃ i, i < j + 1 ∧ i < n ∧ it i = t := by
        intro t ht
        rcases (or_bt X (it j) t).mp ht with q | q
        · obtain ⟨i, h1, h2, h3⟩ := hs t q
          exact ⟨i, by omega, h2, h3⟩
        · exact ⟨j, by omega, c, q.symm⟩
      have hs2 : ∀ t, X.testBit t = true → ∃ i, i < j + 1 ∧ i < n ∧ it i = t := by
        intro t ht
        obtain ⟨i, h1, h2, h3⟩ := hs t ht
        exact ⟨i, by omega, h2, h3⟩
      have ih2 := dfs_mem (ok := ok) (R := R) hn hit hinj k (j + 1) X Y (by omega) hX hs2 hR
      rw [List.mem_append, ih2]
      by_cases cy : Y.testBit (it j) = true
      · -- the item is in
        have hno : ¬ DF n it ok R (j + 1) X Y := fun z => by
          rcases z.2.2.1 _ cy with q | ⟨i, h1, h2, h3⟩
          · rw [hXt] at q; exact Bool.noConfusion q
          · have := hinj i j h2 c h3
            omega
        have hpre : (∀ t, X.testBit t = true → Y.testBit t = true) → (∀ t, Y.testBit t = true → X.testBit t = true ∨ ∃ i, j ≤ i ∧ i < n ∧ it i = t) → Y &&& itM it j = X := by
          intro h1 h2
          refine Nat.eq_of_testBit_eq (fun t => ?_)
          rw [Bool.eq_iff_iff, Nat.testBit_and, Bool.and_eq_true, itM_bit]
          constructor
          · rintro ⟨y, i, hi, e⟩
            rcases h2 t y with q | ⟨i', g1, g2, g3⟩
            · exact q
            · have := hinj i i' (by omega) g2 (e.trans g3.symm)
              omega
          · intro x
            obtain ⟨i, g1, g2, g3⟩ := hs t x
            exact ⟨h1 t x, i, g1, g3⟩
        constructor
        · rintro (z | z)
          · by_cases co : ok j X
            · rw [if_pos co] at z
              have fin : (∀ t, (X ||| 2 ^ it j).testBit t = true → Y.testBit t = true) → (∀ t, Y.testBit t = true → (X ||| 2 ^ it j).testBit t = true ∨ ∃ i, j + 1 ≤ i ∧ i < n ∧ it i = t) → (∀ i, j + 1 ≤ i → i < n → Y.testBit (it i) = true → ok i (Y &&& itM it i)) → pcN Y ≤ R → DF n it ok R j X Y := by
                intro h1 h2 h3 h4
                have a1 : ∀ t, X.testBit t = true → Y.testBit t = true := fun t ht => h1 t ((or_bt _ _ _).mpr (Or.inl ht))
                have a2 : ∀ t, Y.testBit t = true → X.testBit t = true ∨ ∃ i, j ≤ i ∧ i < n ∧ it i = t := by
                  intro t ht
                  rcases h2 t ht with q | ⟨i, g1, g2, g3⟩
                  · rcases (or_bt _ _ _).mp q with q | q
                    · exact Or.inl q
                    · exact Or.inr ⟨j, Nat.le_refl _, c, q.symm⟩
                  · exact Or.inr ⟨i, by omega, g2, g3⟩
                refine ⟨fun e => ?_, a1, a2, fun i hi hi2 hyi => ?_, h4⟩
                · rw [e, hXt] at cy; exact Bool.noConfusion cy
                · by_cases e : i = j
                  · rw [e, hpre a1 a2]; exact co
                  · exact h3 i (by omega) hi2 hyi
              rcases List.mem_cons.mp z with q | q
              · refine fin (fun t ht => by rw [q]; exact ht) (fun t ht => Or.inl (by rw [← q]; exact ht)) (fun i hi hi2 hyi => ?_) (by rw [q, hpc]; omega)
                exfalso
                rw [q] at hyi
                rcases (or_bt _ _ _).mp hyi with y | y
                · obtain ⟨i', g1, g2, g3⟩ := hs _ y
                  have := hinj i' i g2 hi2 g3
                  omega
                · have := hinj i j hi2 c y
                  omega
              · by_cases cr : R ≤ pcN X + 1
                · rw [if_pos cr] at q; exact (List.not_mem_nil q).elim
                · rw [if_neg cr] at q
                  have d := (dfs_mem (ok := ok) (R := R) hn hit hinj k (j + 1) (X ||| 2 ^ it j) Y (by omega) hX' hs' (by rw [hpc]; omega)).mp q
                  exact fin d.2.1 d.2.2.1 d.2.2.2.1 d.2.2.2.2
            · rw [if_neg co] at z; exact (List.not_mem_nil z).elim
          · exact absurd z hno
        · intro z
          obtain ⟨z1, z2, z3, z4, z5⟩ := z
          have co : ok j X := by
            have := z4 j (Nat.le_refl _) c cy
            rw [hpre z2 z3] at this
            exact this
          refine Or.inl ?_
          rw [if_pos co]
          by_cases e : Y = X ||| 2 ^ it j
          · rw [e]; exact List.mem_cons_self
          · refine List.mem_cons_of_mem _ ?_
            have b1 : ∀ t, (X ||| 2 ^ it j).testBit t = true → Y.testBit t = true := by
              intro t ht
              rcases (or_bt _ _ _).mp ht with q | q
              · exact z2 t q
              · rw [q]; exact cy
            have hY : Y < 4096 := by
              refine Nat.lt_pow_two_of_testBit (n := 12) Y (fun i hi => Bool.eq_false_iff.mpr (fun hy => ?_))
              rcases z3 i hy with q | ⟨i', g1, g2, g3⟩
              · have := lt_bit (n := 12) hX q
                omega
              · have := hit i' g2
                omega
            have hlt := pc_lt hY 4096 (X ||| 2 ^ it j) (by omega) hX' b1 (fun q => e q.symm)
            rw [hpc] at hlt
            rw [if_neg (show ¬ R ≤ pcN X + 1 by omega)]
            refine (dfs_mem (ok := ok) (R := R) hn hit hinj k (j + 1) (X ||| 2 ^ it j) Y (by omega) hX' hs' (by rw [hpc]; omega)).mpr ⟨e, b1, fun t ht => ?_, fun i hi hi2 hyi => z4 i (by omega) hi2 hyi, z5⟩
            rcases z3 t ht with q | ⟨i, g1, g2, g3⟩
            · exact Or.inl ((or_bt _ _ _).mpr (Or.inl q))
            · by_cases ei : i = j
              · rw [ei] at g3
                exact Or.inl ((or_bt _ _ _).mpr (Or.inr g3.symm))
              · exact Or.inr ⟨i, by omega, g2, g3⟩
      · -- the item is out
        constructor
        · rintro (z | z)
          · exfalso
            by_cases co : ok j X
            · rw [if_pos co] at z
              rcases List.mem_cons.mp z with q | q
              · exact cy (by rw [q]; exact (or_bt _ _ _).mpr (Or.inr rfl))
              · by_cases cr : R ≤ pcN X + 1
                · rw [if_pos cr] at q; exact List.not_mem_nil q
                · rw [if_neg cr] at q
                  have d := (dfs_mem (ok := ok) (R := R) hn hit hinj k (j + 1) (X ||| 2 ^ it j) Y (by omega) hX' hs' (by rw [hpc]; omega)).mp q
                  exact cy (d.2.1 _ ((or_bt _ _ _).mpr (Or.inr rfl)))
            · rw [if_neg co] at z; exact List.not_mem_nil z
          · refine ⟨z.1, z.2.1, fun t ht => ?_, fun i hi hi2 hyi => ?_, z.2.2.2.2⟩
            · rcases z.2.2.1 t ht with q | ⟨i, g1, g2, g3⟩
              · exact Or.inl q
              · exact Or.inr ⟨i, by omega, g2, g3⟩
            · by_cases e : i = j
              · rw [e] at hyi; exact absurd hyi cy
              · exact z.2.2.2.1 i (by omega) hi2 hyi
        · intro z
          refine Or.inr ⟨z.1, z.2.1, fun t ht => ?_, fun i hi hi2 hyi => z.2.2.2.1 i (by omega) hi2 hyi, z.2.2.2.2⟩
          rcases z.2.2.1 t ht with q | ⟨i, g1, g2, g3⟩
          · exact Or.inl q
          · by_cases e : i = j
            · rw [e] at g3
              rw [← g3] at ht
              exact absurd ht cy
            · exact Or.inr ⟨i, by omega, g2, g3⟩
    · rw [if_neg c]
      refine ⟨fun z => (List.not_mem_nil z).elim, fun z => ?_⟩
      exfalso
      refine z.1 (Nat.eq_of_testBit_eq (fun t => ?_))
      rw [Bool.eq_iff_iff]
      refine ⟨fun y => (z.2.2.1 t y).elim id (fun ⟨i, h1, h2, _⟩ => absurd h2 (by omega)), z.2.1 t⟩

end
