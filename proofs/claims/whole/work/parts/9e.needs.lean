/-! PART 9E: what is needed: the class's row by row, and the model's closure -/

noncomputable section
theorem ndS_bit {f : Nat → Nat} {s o : Nat} : ∀ n, (ndS f s n).testBit o = true ↔ (s.testBit o = true ∨ ∃ j, j < n ∧ s.testBit j = true ∧ (f j).testBit o = true)
  | 0 => ⟨fun z => Or.inl z, fun z => z.elim id (fun ⟨j, hj, _⟩ => absurd hj (by omega))⟩
  | n + 1 => by
    have ih := ndS_bit (f := f) (s := s) (o := o) n
    rw [ndS]
    by_cases c : s.testBit n = true
    · rw [if_pos c, Nat.testBit_or, Bool.or_eq_true, ih]
      constructor
      · rintro ((z | ⟨j, hj, h1, h2⟩) | z)
        · exact Or.inl z
        · exact Or.inr ⟨j, by omega, h1, h2⟩
        · exact Or.inr ⟨n, by omega, c, z⟩
      · rintro (z | ⟨j, hj, h1, h2⟩)
        · exact Or.inl (Or.inl z)
        · by_cases e : j = n
          · rw [e] at h2; exact Or.inr h2
          · exact Or.inl (Or.inr ⟨j, by omega, h1, h2⟩)
    · rw [if_neg c, ih]
      constructor
      · rintro (z | ⟨j, hj, h1, h2⟩)
        · exact Or.inl z
        · exact Or.inr ⟨j, by omega, h1, h2⟩
      · rintro (z | ⟨j, hj, h1, h2⟩)
        · exact Or.inl z
        · by_cases e : j = n
          · rw [e] at h1; exact absurd h1 c
          · exact Or.inr ⟨j, by omega, h1, h2⟩
theorem itr_suc {α : Type} (g : α → α) : ∀ k x, itr g (k + 1) x = g (itr g k x)
  | 0, _ => rfl
  | k + 1, x => by
    show itr g (k + 1) (g x) = g (itr g k (g x))
    exact itr_suc g k (g x)
theorem clo_cl {f : Nat → Nat} {nt s : Nat} (hf : ∀ j, j < nt → f j < 4096) (hs : s < 4096) : ndS f (clo f nt s) nt = clo f nt s := by
  have h1 := clo_stab hf 4096 s (4096 - s) hs (by omega) (by omega)
  have h2 := clo_stab hf 4096 s (4096 - s + 1) hs (by omega) (by omega)
  rw [itr_suc, h1] at h2
  exact h2
theorem clo_in {f : Nat → Nat} {nt o : Nat} : ∀ k s, s.testBit o = true → (itr (fun t => ndS f t nt) k s).testBit o = true
  | 0, _, h => h
  | k + 1, s, h => clo_in k _ ((ndS_bit nt).mpr (Or.inl h))
theorem clo_min {f : Nat → Nat} {nt : Nat} {S : Nat → Prop} (hc : ∀ j o, j < nt → S j → (f j).testBit o = true → S o) : ∀ k s, (∀ o, s.testBit o = true → S o) → ∀ o, (itr (fun t => ndS f t nt) k s).testBit o = true → S o
  | 0, _, h => h
  | k + 1, s, h => clo_min hc k _ (fun o ho => by
      rcases (ndS_bit nt).mp ho with z | ⟨j, hj, h1, h2⟩
      · exact h o z
      · exact hc j o hj (h j h1) h2)
/-- a way from one to another by less than m between -/
def Pw (A : Nat → Nat) : Nat → Nat → Nat → Prop
  | 0, t, o => (A t).testBit o = true
  | m + 1, t, o => Pw A m t o ∨ (Pw A m t m ∧ Pw A m m o)
theorem Pw_up {A : Nat → Nat} {t o : Nat} : ∀ m, (A t).testBit o = true → Pw A m t o
  | 0, h => h
  | m + 1, h => Or.inl (Pw_up m h)
theorem Pw_tr {A : Nat → Nat} : ∀ m t x o, x < m → Pw A m t x → Pw A m x o → Pw A m t o
  | 0, _, _, _, hx, _, _ => absurd hx (by omega)
  | m + 1, t, x, o, hx, h1, h2 => by
    by_cases e : x = m
    · subst e
      have q1 : Pw A x t x := h1.elim id (fun z => z.1)
      have q2 : Pw A x x o := h2.elim id (fun z => z.2)
      exact Or.inr ⟨q1, q2⟩
    · have hx2 : x < m := by omega
      rcases h1 with a | ⟨a, b⟩ <;> rcases h2 with c | ⟨c, d⟩
      · exact Or.inl (Pw_tr m t x o hx2 a c)
      · exact Or.inr ⟨Pw_tr m t x m hx2 a c, d⟩
      · exact Or.inr ⟨a, Pw_tr m m x o hx2 b c⟩
      · exact Or.inr ⟨a, d⟩
theorem Pw_min {A : Nat → Nat} {S : Nat → Prop} (hc : ∀ j o, S j → (A j).testBit o = true → S o) : ∀ m t o, (∀ x, (A t).testBit x = true → S x) → Pw A m t o → S o
  | 0, _, o, h, hp => h o hp
  | m + 1, t, o, h, hp => by
    rcases hp with z | ⟨z1, z2⟩
    · exact Pw_min hc m t o h z
    · have hm := Pw_min hc m t m h z1
      exact Pw_min hc m m o (fun x hx => hc m x hm hx) z2
/-- the row of a THING tells a way -/
def RWo (f : Nat → Int32) (P : Nat → Nat → Prop) (t : Nat) : Prop := ∃ r, r < 4096 ∧ f t = nI r ∧ ∀ o, r.testBit o = true ↔ P t o
theorem fnI_rw {f : Nat → Int32} {P : Nat → Nat → Prop} {md : Nat} (hmd : md < 12) (h : ∀ t, t < 12 → RWo f P t) : ∀ n, n ≤ 12 → ∀ t, t < 12 → RWo (fnI f md n) (fun x o => P x o ∨ (x < n ∧ P x md ∧ P md o)) t
  | 0, _, t, ht => by
    obtain ⟨r, hr, e, hb⟩ := h t ht
    exact ⟨r, hr, e, fun o => (hb o).trans ⟨Or.inl, fun z => z.elim id (fun y => absurd y.1 (by omega))⟩⟩
  | n + 1, hn, t, ht => by
    have ih := fnI_rw hmd h n (by omega)
    obtain ⟨r, hr, e, hb⟩ := ih n (by omega)
    obtain ⟨r2, hr2, e2, hb2⟩ := ih md hmd
    have hmd2 : ∀ o, r2.testBit o = true ↔ P md o := fun o => (hb2 o).trans ⟨fun z => z.elim id (fun y => y.2.2), Or.inl⟩
    have hn2 : ∀ o, r.testBit o = true ↔ P n o := fun o => (hb o).trans ⟨fun z => z.elim id (fun y => absurd y.1 (by omega)), Or.inl⟩
    rw [fnI]
    have ce : inS (fnI f md n n) (nI md) ↔ P n md := by
      rw [e, inS_nI (by omega) (by omega)]
      exact hn2 md
    by_cases c : inS (fnI f md n n) (nI md)
    · rw [if_pos c]
      have hc := ce.mp c
      by_cases et : t = n
      · refine ⟨r ||| r2, or_lt (n := 12) hr hr2, ?_, fun o => ?_⟩
        · rw [et, upd_eq, e, e2, nIor]
        · rw [Nat.testBit_or, Bool.or_eq_true, hn2 o, hmd2 o, et]
          exact ⟨fun z => z.elim Or.inl (fun y => Or.inr ⟨by omega, hc, y⟩), fun z => z.elim Or.inl (fun y => Or.inr y.2.2)⟩
      · obtain ⟨r3, hr3, e3, hb3⟩ := ih t ht
        refine ⟨r3, hr3, ?_, fun o => (hb3 o).trans ?_⟩
        · rw [upd_ne et]; exact e3
        · exact ⟨fun z => z.elim Or.inl (fun y => Or.inr ⟨by omega, y.2⟩), fun z => z.elim Or.inl (fun y => Or.inr ⟨by omega, y.2⟩)⟩
    · rw [if_neg c]
      have hc : ¬ P n md := fun z => c (ce.mpr z)
      obtain ⟨r3, hr3, e3, hb3⟩ := ih t ht
      refine ⟨r3, hr3, e3, fun o => (hb3 o).trans ?_⟩
      constructor
      · exact fun z => z.elim Or.inl (fun y => Or.inr ⟨by omega, y.2⟩)
      · rintro (z | ⟨z1, z2, z3⟩)
        · exact Or.inl z
        · by_cases et : t = n
          · rw [et] at z2; exact absurd z2 hc
          · exact Or.inr ⟨by omega, z2, z3⟩
theorem fnO_rw {f : Nat → Int32} {A : Nat → Nat} (h : ∀ t, t < 12 → A t < 4096 ∧ f t = nI (A t)) : ∀ md, md ≤ 12 → ∀ t, t < 12 → RWo (fnO f md) (Pw A md) t
  | 0, _, t, ht => ⟨A t, (h t ht).1, (h t ht).2, fun _ => Iff.rfl⟩
  | md + 1, hm, t, ht => by
    have z := fnI_rw (md := md) (by omega) (fnO_rw h md (by omega)) 12 (Nat.le_refl _) t ht
    obtain ⟨r, hr, e, hb⟩ := z
    exact ⟨r, hr, e, fun o => (hb o).trans ⟨fun z => z.elim Or.inl (fun y => Or.inr y.2), fun z => z.elim Or.inl (fun y => Or.inr ⟨ht, y⟩)⟩⟩
/-- what a thing is after, none for what is not counted -/
def aN (a : Nat → Int32) (nt t : Nat) : Nat := if t < nt then ahN a t else 0
theorem nd_Pw {a : Nat → Int32} {ns nm nt : Nat} (hV : VA a ns nm nt) (hB : BO a ns nm nt) {t : Nat} (ht : t < nt) (o : Nat) : (ndA a nt t).testBit o = true ↔ Pw (aN a nt) 12 t o := by
  have h12 := hV.2.2.1.2
  have hA : ∀ j, j < nt → ahN a j < 4096 ∧ a (46 + 3 * j) = nI (ahN a j) ∧ ∀ x, (ahN a j).testBit x = true → x < nt := by
    intro j hj
    obtain ⟨A, hA, eA, ho⟩ := hB.2.2.2.1 j hj
    have e : ahN a j = A := by unfold ahN; rw [eA]; exact nI_clamp (by omega)
    rw [e]
    exact ⟨hA, eA, fun x hx => (ho x hx).1⟩
  have hf : ∀ j, j < nt → ahN a j < 4096 := fun j hj => (hA j hj).1
  have ea : aN a nt t = ahN a t := if_pos ht
  unfold ndA
  constructor
  · refine clo_min (S := fun x => Pw (aN a nt) 12 t x) (fun j x hj hs hb => ?_) _ _ (fun x hx => Pw_up 12 (by rw [ea]; exact hx)) o
    refine Pw_tr 12 t j x (by omega) hs (Pw_up 12 ?_)
    rw [show aN a nt j = ahN a j from if_pos hj]
    exact hb
  · intro hp
    refine Pw_min (A := aN a nt) (S := fun x => (clo (ahN a) nt (ahN a t)).testBit x = true) (fun j x hs hb => ?_) 12 t o (fun x hx => clo_in _ _ (by rw [ea] at hx; exact hx)) hp
    by_cases hj : j < nt
    · rw [show aN a nt j = ahN a j from if_pos hj] at hb
      rw [← clo_cl hf (hf t ht)]
      exact (ndS_bit nt).mpr (Or.inr ⟨j, hj, hs, hb⟩)
    · rw [show aN a nt j = 0 from if_neg hj, Nat.zero_testBit] at hb
      exact Bool.noConfusion hb
theorem nd_lt {a : Nat → Int32} {ns nm nt : Nat} (hV : VA a ns nm nt) (hB : BO a ns nm nt) {t : Nat} (ht : t < nt) : ndA a nt t < 4096 := by
  have hf : ∀ j, j < nt → ahN a j < 4096 := by
    intro j hj
    obtain ⟨A, hA, eA, ho⟩ := hB.2.2.2.1 j hj
    have e : ahN a j = A := by unfold ahN; rw [eA]; exact nI_clamp (by omega)
    rw [e]; exact hA
  exact clo_lt hf _ _ (hf t ht)
/-- the class finds what the model finds -/
theorem fn_nd {a f : Nat → Int32} {ns nm nt : Nat} (hV : VA a ns nm nt) (hB : BO a ns nm nt) (h : ∀ t, t < 12 → f t = nI (aN a nt t)) : (∀ t, t < nt → fnO f 12 t = nI (ndA a nt t)) ∧ ∀ t, t < 12 → ∃ r, r < 4096 ∧ fnO f 12 t = nI r := by
  have hA : ∀ t, t < 12 → aN a nt t < 4096 ∧ f t = nI (aN a nt t) := by
    intro t ht
    refine ⟨?_, h t ht⟩
    unfold aN
    split
    · rename_i hj
      obtain ⟨A, hA, eA, ho⟩ := hB.2.2.2.1 t hj
      have e : ahN a t = A := by unfold ahN; rw [eA]; exact nI_clamp (by omega)
      rw [e]; exact hA
    · decide
  have h12 := hV.2.2.1.2
  refine ⟨fun t ht => ?_, fun t ht => ?_⟩
  · obtain ⟨r, hr, e, hb⟩ := fnO_rw hA 12 (Nat.le_refl _) t (by omega)
    rw [e]
    refine congrArg nI (Nat.eq_of_testBit_eq (fun o => ?_))
    rw [Bool.eq_iff_iff, hb o, nd_Pw hV hB ht]
  · obtain ⟨r, hr, e, -⟩ := fnO_rw hA 12 (Nat.le_refl _) t ht
    exact ⟨r, hr, e⟩
/-- the hopeless: the class's set and the model's word -/
theorem hp_nv {a f : Nat → Int32} {ns nm nt : Nat} (hV : VA a ns nm nt) (hB : BO a ns nm nt) (h : ∀ t, t < nt → f t = nI (ndA a nt t)) {t : Nat} (ht : t < nt) : hpP f t nt ↔ nvP a nt t := by
  have h12 := hV.2.2.1.2
  unfold hpP nvP
  refine not_congr (forall_congr' (fun o => forall_congr' (fun ho => not_congr ?_)))
  have hl := nd_lt hV hB ht
  have hl2 := nd_lt hV hB ho
  have h2t : 2 ^ t < 2 ^ 12 := Nat.pow_lt_pow_right (by omega) (by omega)
  have h3 := or_lt (n := 12) hl h2t
  have q1 : inS (nI (ndA a nt t ||| 2 ^ t)) (nI o) ↔ (ndA a nt t ||| 2 ^ t).testBit o = true := inS_nI (by omega) (by omega)
  have q2 : inS (nI (ndA a nt o)) (nI o) ↔ (ndA a nt o).testBit o = true := inS_nI (by omega) (by omega)
  have q3 : (1 : Int32) <<< (nI t &&& 31) = nI (2 ^ t) := nIbit (by omega)
  rw [h t ht, h o ho, q3, nIor, q1, q2]
theorem hpS_st (f : Nat → Int32) (n : Nat) : ∀ t, t ≤ 31 → hpS 0 f n t = nI (stN (fun j => hpP f j n) t)
  | 0, _ => rfl
  | t + 1, h => st_or _ (hpS_st f n t (by omega)) (by omega)
theorem nvS_st (a : Nat → Int32) (nt : Nat) (s : Int32) : ∀ n, n ≤ 31 → nvS a nt s n = nI (stN (fun j => a (44 + 3 * j) = s ∧ nvP a nt j) n)
  | 0, _ => rfl
  | n + 1, h => st_or _ (nvS_st a nt s n (by omega)) (by omega)
/-- never: a suitor's hopeless THINGS -/
theorem nv_th {a : Nat → Int32} {ns nm nt : Nat} (hV : VA a ns nm nt) (s : Int32) {H : Int32} (hH : H = nI (stN (fun j => nvP a nt j) nt)) : thA a s &&& H = nvS a nt s nt := by
  have h12 := hV.2.2.1.2
  rw [(th_st hV s).1, hH, nIand, nvS_st _ _ _ _ (by omega)]
  refine congrArg nI (Nat.eq_of_testBit_eq (fun j => ?_))
  rw [Bool.eq_iff_iff, Nat.testBit_and, Bool.and_eq_true, stN_bit, stN_bit, stN_bit]
  exact ⟨fun z => ⟨z.1.1, z.1.2, z.2.2⟩, fun z => ⟨⟨z.1, z.2.1⟩, z.1, z.2.2⟩⟩

end
