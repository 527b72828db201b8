/-! PART 9K: the sets that the class weighs are those that the model weighs -/

noncomputable section
/-- the items of a plan, as the class lays them -/
def ITp (a : Nat → Int32) (nt : Nat) (s : Int32) (n : Nat) (it : Nat → Nat) : Prop := n ≤ 12 ∧ (∀ j, j < n → it j < nt ∧ inS (hsA a s) (nI (it j)) ∧ ¬ nvP a nt (it j)) ∧ (∀ i j, i < n → j < n → it i = it j → i = j) ∧ (∀ i j, i ≤ j → j < n → pcN (ndA a nt (it i)) ≤ pcN (ndA a nt (it j))) ∧ ∀ t, t < nt → inS (hsA a s) (nI t) → ¬ nvP a nt t → ∃ j, j < n ∧ it j = t
abbrev okI (a : Nat → Int32) (it : Nat → Nat) (j X : Nat) : Prop := cnO a (it j) X
def plL (a : Nat → Int32) (n : Nat) (it : Nat → Nat) (R : Nat) : List Nat := 0 :: (if R ≤ 0 then [] else dfs n it (okI a it) R 12 0 0)
theorem pl_mem {a : Nat → Int32} {ns nm nt n R H : Nat} {it : Nat → Nat} {s : Int32} (hV : VA a ns nm nt) (hB : BO a ns nm nt) (hG : GNo a nt) (hI : ITp a nt s n it) (hH : H < 4096) (eH : hsA a s = nI H) {Y : Nat} (hY : Y < 4096) : Y ∈ plL a n it R ↔ (ndn Y H = 0 ∧ Cn a nt Y ∧ pcN Y ≤ R) := by
  have h12 := hV.2.2.1.2
  obtain ⟨hn, hi, hinj, hso, hco⟩ := hI
  unfold plL
  rw [List.mem_cons]
  by_cases e : Y = 0
  · rw [e]
    refine ⟨fun _ => ⟨(ndn_0 (by omega)).mpr (fun j hj => by rw [Nat.zero_testBit] at hj; exact Bool.noConfusion hj), Cn_z, by rw [show pcN 0 = 0 from rfl]; exact Nat.zero_le _⟩, fun _ => Or.inl rfl⟩
  · by_cases cR : R ≤ 0
    · rw [if_pos cR]
      refine ⟨fun z => z.elim (fun y => absurd y e) (fun y => (List.not_mem_nil y).elim), fun z => ?_⟩
      have : pcN Y = 0 := by omega
      exact absurd (pc_zero hY this) e
    · rw [if_neg cR]
      have key := dfs_mem (ok := okI a it) (R := R) hn (fun i h => by have := (hi i h).1; omega) hinj 12 0 0 Y (by omega) (by decide) (fun t ht => by rw [Nat.zero_testBit] at ht; exact Bool.noConfusion ht) (by rw [show pcN 0 = 0 from rfl]; omega)
      have hH2 : ∀ t, t < nt → (inS (hsA a s) (nI t) ↔ H.testBit t = true) := fun t ht => by rw [eH]; exact inS_nI (by omega) (by omega)
      have hlo : ∀ i, i < n → itM it i < 4096 := fun i h => itM_lt i (fun i' h' => by have := (hi i' (by omega)).1; omega)
      constructor
      · rintro (z | z)
        · exact absurd z e
        · obtain ⟨-, -, d3, d4, d5⟩ := key.mp z
          have mem : ∀ t, Y.testBit t = true → ∃ i, i < n ∧ it i = t := fun t ht => by
            rcases d3 t ht with q | ⟨i, -, g2, g3⟩
            · rw [Nat.zero_testBit] at q; exact Bool.noConfusion q
            · exact ⟨i, g2, g3⟩
          refine ⟨(ndn_0 (by omega)).mpr (fun t ht => ?_), Cn_of hV hB Y hY (fun t ht => ?_) (fun t ht o ho => ?_) (fun t ht => ?_), d5⟩
          · obtain ⟨i, g1, g2⟩ := mem t ht
            obtain ⟨q1, q2, q3⟩ := hi i g1
            rw [g2] at q1 q2
            exact (hH2 t q1).mp q2
          · obtain ⟨i, g1, g2⟩ := mem t ht
            rw [← g2]; exact (hi i g1).1
          · obtain ⟨i, g1, g2⟩ := mem t ht
            have hok := d4 i (Nat.zero_le _) g1 (by rw [g2]; exact ht)
            have hlt : Y &&& itM it i < 4096 := Nat.lt_of_le_of_lt Nat.and_le_left hY
            have := (cnO_iff hB (hi i g1).1 h12 hlt).mp hok o (by rw [g2]; exact ho)
            refine this.imp id (fun z => ?_)
            rw [Nat.testBit_and, Bool.and_eq_true] at z
            exact z.1
          · obtain ⟨i, g1, g2⟩ := mem t ht
            rw [← g2]; exact (hi i g1).2.2
      · rintro ⟨z1, z2, z3⟩
        obtain ⟨c1, c2, c3⟩ := Cn_to hV hB hG Y hY z2
        have hsub := (ndn_0 (H := H) (show Y < 2 ^ 32 by omega)).mp z1
        have mem : ∀ t, Y.testBit t = true → ∃ i, i < n ∧ it i = t := fun t ht => hco t (c1 t ht) ((hH2 t (c1 t ht)).mpr (hsub t ht)) (c3 t ht)
        refine Or.inr (key.mpr ⟨e, fun t ht => by rw [Nat.zero_testBit] at ht; exact Bool.noConfusion ht, fun t ht => ?_, fun i _ hin hyi => ?_, z3⟩)
        · obtain ⟨i, g1, g2⟩ := mem t ht
          exact Or.inr ⟨i, Nat.zero_le _, g1, g2⟩
        · have hlt : Y &&& itM it i < 4096 := Nat.lt_of_le_of_lt Nat.and_le_left hY
          refine (cnO_iff hB (hi i hin).1 h12 hlt).mpr (fun o ho => ?_)
          refine (c2 _ hyi o ho).imp id (fun z => ?_)
          rw [Nat.testBit_and, Bool.and_eq_true]
          refine ⟨z, (itM_bit i o).mpr ?_⟩
          obtain ⟨j, g1, g2⟩ := mem o z
          refine ⟨j, ?_, g2⟩
          have hless := nd_less hV hB (hi j g1).1 (hi i hin).1 (by rw [g2]; exact ho) (hi j g1).2.2
          refine Nat.lt_of_not_le (fun hle => ?_)
          have := hso i j hle g1
          omega

end
