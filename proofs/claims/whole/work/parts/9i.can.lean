/-! PART 9I: sets that can be given one after the other: closed, and none on a ring -/

noncomputable section
theorem nd_in {a : Nat → Int32} {ns nm nt : Nat} (hV : VA a ns nm nt) (hB : BO a ns nm nt) {t x : Nat} (ht : t < nt) (h : (ahN a t).testBit x = true) : (ndA a nt t).testBit x = true :=
  (nd_Pw hV hB ht x).mpr (Pw_up 12 (by rw [show aN a nt t = ahN a t from if_pos ht]; exact h))
theorem nd_tr {a : Nat → Int32} {ns nm nt : Nat} (hV : VA a ns nm nt) (hB : BO a ns nm nt) {t x y : Nat} (ht : t < nt) (hx : x < nt) (h : (ndA a nt t).testBit x = true) (h' : (ndA a nt x).testBit y = true) : (ndA a nt t).testBit y = true := by
  have h12 := hV.2.2.1.2
  exact (nd_Pw hV hB ht y).mpr (Pw_tr 12 t x y (by omega) ((nd_Pw hV hB ht x).mp h) ((nd_Pw hV hB hx y).mp h'))
theorem nd_mn {a : Nat → Int32} {ns nm nt : Nat} (hV : VA a ns nm nt) (hB : BO a ns nm nt) {S : Nat → Prop} (hc : ∀ j o, j < nt → S j → (ahN a j).testBit o = true → S o) {t : Nat} (ht : t < nt) (h : ∀ x, (ahN a t).testBit x = true → S x) (o : Nat) (ho : (ndA a nt t).testBit o = true) : S o := by
  refine Pw_min (A := aN a nt) (S := S) (fun j x hs hb => ?_) 12 t o (fun x hx => h x (by rw [show aN a nt t = ahN a t from if_pos ht] at hx; exact hx)) ((nd_Pw hV hB ht o).mp ho)
  by_cases hj : j < nt
  · rw [show aN a nt j = ahN a j from if_pos hj] at hb
    exact hc j x hj hs hb
  · rw [show aN a nt j = 0 from if_neg hj, Nat.zero_testBit] at hb
    exact Bool.noConfusion hb
/-- what a THING is after is told, of its own suitor's -/
theorem ah_in {a : Nat → Int32} {ns nm nt : Nat} (hB : BO a ns nm nt) {t x : Nat} (ht : t < nt) (h : (ahN a t).testBit x = true) : x < nt := by
  obtain ⟨A, hA, eA, ho⟩ := hB.2.2.2.1 t ht
  have e : ahN a t = A := by unfold ahN; rw [eA]; exact nI_clamp (by omega)
  rw [e] at h
  exact (ho x h).1
theorem nd_nt {a : Nat → Int32} {ns nm nt : Nat} (hV : VA a ns nm nt) (hB : BO a ns nm nt) {t x : Nat} (ht : t < nt) (h : (ndA a nt t).testBit x = true) : x < nt :=
  nd_mn hV hB (S := fun x => x < nt) (fun _ _ hj _ hb => ah_in hB hj hb) ht (fun _ hx => ah_in hB ht hx) x h
theorem nv_iff {a : Nat → Int32} {nt t : Nat} : nvP a nt t ↔ ∃ o, o < nt ∧ ((ndA a nt t).testBit o = true ∨ o = t) ∧ (ndA a nt o).testBit o = true := by
  unfold nvP
  constructor
  · intro h
    refine Classical.byContradiction (fun z => h (fun o ho y => z ⟨o, ho, (or_bt _ _ _).mp y.1, y.2⟩))
  · rintro ⟨o, ho, h1, h2⟩ z
    exact z o ho ⟨(or_bt _ _ _).mpr h1, h2⟩
/-- no given THING is on a ring or behind one -/
def GNo (a : Nat → Int32) (nt : Nat) : Prop := ∀ t, t < nt → inS (a 8) (nI t) → ¬ nvP a nt t
/-- all that the members of X are after is given or in X -/
def clX (a : Nat → Int32) (X : Nat) : Prop := ∀ t, X.testBit t = true → ∀ o, (ahN a t).testBit o = true → inS (a 8) (nI o) ∨ X.testBit o = true
theorem cnO_iff {a : Nat → Int32} {ns nm nt t X : Nat} (hB : BO a ns nm nt) (ht : t < nt) (hnt : nt ≤ 12) (hX : X < 4096) : cnO a t X ↔ ∀ o, (ahN a t).testBit o = true → inS (a 8) (nI o) ∨ X.testBit o = true := by
  obtain ⟨A, hA, eA, ho⟩ := hB.2.2.2.1 t ht
  obtain ⟨G, hG, eG, hc⟩ := hB.2.2.2.2.1
  have e : ahN a t = A := by unfold ahN; rw [eA]; exact nI_clamp (by omega)
  have h1 : ndn A (G ||| X) < 4096 := by unfold ndn; exact Nat.lt_of_le_of_lt Nat.and_le_left hA
  unfold cnO
  rw [eA, eG, nIor, nI_ndn, nI_z (by omega), ndn_0 (by omega), e]
  refine forall_congr' (fun o => forall_congr' (fun hA' => ?_))
  have := (ho o hA').1
  rw [Nat.testBit_or, Bool.or_eq_true, inS_nI (by omega) (by omega)]
theorem x2_bit {X t j : Nat} (h : X.testBit t = true) : (X ^^^ 2 ^ t).testBit j = true ↔ (X.testBit j = true ∧ j ≠ t) := by
  rw [Nat.testBit_xor, Nat.testBit_two_pow]
  by_cases e : t = j
  · rw [← e, h, decide_eq_true (rfl : t = t)]
    exact ⟨fun z => Bool.noConfusion z, fun z => absurd rfl z.2⟩
  · rw [decide_eq_false e, Bool.xor_false]
    exact ⟨fun z => ⟨z, fun y => e y.symm⟩, fun z => z.1⟩
theorem Cn_to {a : Nat → Int32} {ns nm nt : Nat} (hV : VA a ns nm nt) (hB : BO a ns nm nt) (hG : GNo a nt) : ∀ X, X < 4096 → Cn a nt X → (∀ t, X.testBit t = true → t < nt) ∧ clX a X ∧ ∀ t, X.testBit t = true → ¬ nvP a nt t := by
  have h12 := hV.2.2.1.2
  obtain ⟨G, hG4, eG, hc⟩ := hB.2.2.2.2.1
  have gcl : ∀ j o, j < nt → inS (a 8) (nI j) → (ahN a j).testBit o = true → inS (a 8) (nI o) := by
    intro j o hj hg hb
    obtain ⟨A, hA, eA, ho⟩ := hB.2.2.2.1 j hj
    have e : ahN a j = A := by unfold ahN; rw [eA]; exact nI_clamp (by omega)
    rw [e] at hb
    have := (ho o hb).1
    rw [eG, inS_nI (by omega) (by omega)] at hg ⊢
    exact (hc j hg).2 A hA eA o hb
  intro X
  induction X using Nat.strongRecOn with
  | _ X ih =>
    intro hX h
    rcases Cn_iff.mp h with e | ⟨t, ht, hb, hcn, ho⟩
    · rw [e]
      exact ⟨fun t z => by rw [Nat.zero_testBit] at z; exact Bool.noConfusion z, fun t z => by rw [Nat.zero_testBit] at z; exact Bool.noConfusion z, fun t z => by rw [Nat.zero_testBit] at z; exact Bool.noConfusion z⟩
    · have hlt := xor_lt hb
      obtain ⟨i1, i2, i3⟩ := ih _ hlt (by omega) hcn
      have ho' := (cnO_iff hB ht h12 (by omega)).mp ho
      have mem : ∀ s, X.testBit s = true → s = t ∨ (X ^^^ 2 ^ t).testBit s = true := fun s hs => by
        by_cases e : s = t
        · exact Or.inl e
        · exact Or.inr ((x2_bit hb).mpr ⟨hs, e⟩)
      refine ⟨fun s hs => ?_, fun s hs o hso => ?_, fun s hs => ?_⟩
      · rcases mem s hs with e | e
        · rw [e]; exact ht
        · exact i1 s e
      · rcases mem s hs with e | e
        · rw [e] at hso
          exact (ho' o hso).imp id (fun z => ((x2_bit hb).mp z).1)
        · exact (i2 s e o hso).imp id (fun z => ((x2_bit hb).mp z).1)
      · rcases mem s hs with e | e
        · rw [e]
          intro hn
          obtain ⟨o, hot, h1, h2⟩ := nv_iff.mp hn
          have hS : ∀ x, (ndA a nt t).testBit x = true → inS (a 8) (nI x) ∨ (X ^^^ 2 ^ t).testBit x = true :=
            fun x hx => nd_mn hV hB (S := fun x => inS (a 8) (nI x) ∨ (X ^^^ 2 ^ t).testBit x = true) (fun j x hj hs hb => hs.elim (fun z => Or.inl (gcl j x hj z hb)) (fun z => i2 j z x hb)) ht ho' x hx
          rcases h1 with h1 | h1
          · rcases hS o h1 with z | z
            · exact hG o hot z (nv_iff.mpr ⟨o, hot, Or.inr rfl, h2⟩)
            · exact i3 o z (nv_iff.mpr ⟨o, hot, Or.inr rfl, h2⟩)
          · rw [h1] at h2
            rcases hS t h2 with z | z
            · exact hG t ht z hn
            · exact ((x2_bit hb).mp z).2 rfl
        · exact i3 s e
/-- one that needs the most -/
theorem mx_ex {f : Nat → Nat} {X : Nat} : ∀ n, (∀ s, X.testBit s = true → f s ≤ n) → (∃ t, X.testBit t = true) → ∃ t, X.testBit t = true ∧ ∀ s, X.testBit s = true → f s ≤ f t
  | 0, h, ⟨t, ht⟩ => ⟨t, ht, fun s hs => by have := h s hs; omega⟩
  | n + 1, h, hex => by
    by_cases c : ∃ t, X.testBit t = true ∧ f t = n + 1
    · obtain ⟨t, ht, e⟩ := c
      exact ⟨t, ht, fun s hs => by rw [e]; exact h s hs⟩
    · exact mx_ex n (fun s hs => by
        have := h s hs
        have : f s ≠ n + 1 := fun z => c ⟨s, hs, z⟩
        omega) hex
/-- what is needed by what is needed is less -/
theorem nd_less {a : Nat → Int32} {ns nm nt : Nat} (hV : VA a ns nm nt) (hB : BO a ns nm nt) {t s : Nat} (ht : t < nt) (hs : s < nt) (h : (ahN a s).testBit t = true) (hn : ¬ nvP a nt t) : pcN (ndA a nt t) < pcN (ndA a nt s) := by
  refine pc_lt (nd_lt hV hB hs) 4096 _ (by omega) (nd_lt hV hB ht) (fun x hx => nd_tr hV hB hs ht (nd_in hV hB hs h) hx) (fun e => ?_)
  have h1 := nd_in hV hB hs h
  rw [← e] at h1
  exact hn (nv_iff.mpr ⟨t, ht, Or.inr rfl, h1⟩)
theorem Cn_of {a : Nat → Int32} {ns nm nt : Nat} (hV : VA a ns nm nt) (hB : BO a ns nm nt) : ∀ X, X < 4096 → (∀ t, X.testBit t = true → t < nt) → clX a X → (∀ t, X.testBit t = true → ¬ nvP a nt t) → Cn a nt X := by
  have h12 := hV.2.2.1.2
  intro X
  induction X using Nat.strongRecOn with
  | _ X ih =>
    intro hX h1 h2 h3
    by_cases e : X = 0
    · exact Cn_iff.mpr (Or.inl e)
    · have hex : ∃ t, X.testBit t = true := by
        refine Classical.byContradiction (fun z => e (bits_0 (fun t => Bool.eq_false_iff.mpr (fun y => z ⟨t, y⟩))))
      obtain ⟨t, ht, hmax⟩ := mx_ex (f := fun s => pcN (ndA a nt s)) (X := X) 12 (fun s hs => pc_le _ (nd_lt hV hB (h1 s hs))) hex
      have htn := h1 t ht
      have hlt := xor_lt ht
      have hno : ∀ s, X.testBit s = true → ¬ (ahN a s).testBit t = true := by
        intro s hs hb
        have := nd_less hV hB htn (h1 s hs) hb (h3 t ht)
        have := hmax s hs
        omega
      have sub : ∀ s, X.testBit s = true → ∀ o, (ahN a s).testBit o = true → inS (a 8) (nI o) ∨ (X ^^^ 2 ^ t).testBit o = true := by
        intro s hs o ho
        refine (h2 s hs o ho).imp id (fun z => (x2_bit ht).mpr ⟨z, fun y => ?_⟩)
        rw [y] at ho
        exact hno s hs ho
      refine Cn_iff.mpr (Or.inr ⟨t, htn, ht, ih _ hlt (by omega) (fun s hs => h1 s ((x2_bit ht).mp hs).1) (fun s hs => sub s ((x2_bit ht).mp hs).1) (fun s hs => h3 s ((x2_bit ht).mp hs).1), ?_⟩)
      exact (cnO_iff hB htn h12 (by omega)).mpr (sub t ht)

end
