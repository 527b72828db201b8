/-! PART 98: the class: a valley is copied; means -/

noncomputable section
theorem mI_nx {m : MM} {k g h i j : Nat} {x : Int32} (e : i ≠ j) : (mI m k g j x).1 k h i = m.1 k h i := by
  by_cases c : h = g
  · rw [c]; exact mI_ne e
  · rw [mRow_ne c]
theorem cp_at {α : Type} {s d : Nat → α} {n i : Nat} (h : i < n) : va_cpy s d 0 0 n i = s i := by
  unfold va_cpy
  rw [if_pos ⟨Nat.zero_le _, by omega⟩]
  congr 1
  omega
theorem vc_30 (m : MM) (g h : Nat) : (vcM m g h).1 30 g = va_cpy (m.1 30 h) (m.1 30 g) 0 0 4 := if_pos ⟨rfl, rfl⟩
theorem vc_31 (m : MM) (g h : Nat) : (vcM m g h).1 31 g = va_cpy (m.1 31 h) (m.1 31 g) 0 0 16 := if_pos ⟨rfl, rfl⟩
theorem vc_32 (m : MM) (g h : Nat) : (vcM m g h).1 32 g = va_cpy (m.1 32 h) (m.1 32 g) 0 0 4 := if_pos ⟨rfl, rfl⟩
theorem vc_33 (m : MM) (g h : Nat) : (vcM m g h).1 33 g = va_cpy (m.1 33 h) (m.1 33 g) 0 0 4 := if_pos ⟨rfl, rfl⟩
theorem vc_34 (m : MM) (g h : Nat) : (vcM m g h).1 34 g = va_cpy (m.1 34 h) (m.1 34 g) 0 0 4 := if_pos ⟨rfl, rfl⟩
theorem vc_35 (m : MM) (g h : Nat) : (vcM m g h).1 35 g = va_cpy (m.1 35 h) (m.1 35 g) 0 0 12 := if_pos ⟨rfl, rfl⟩
theorem vc_36 (m : MM) (g h : Nat) : (vcM m g h).1 36 g = va_cpy (m.1 36 h) (m.1 36 g) 0 0 12 := if_pos ⟨rfl, rfl⟩
theorem vc_37 (m : MM) (g h : Nat) : (vcM m g h).1 37 g = va_cpy (m.1 37 h) (m.1 37 g) 0 0 12 := if_pos ⟨rfl, rfl⟩
theorem vc_38 (m : MM) (g h : Nat) : (vcM m g h).1 38 g = va_cpy (m.1 38 h) (m.1 38 g) 0 0 12 := if_pos ⟨rfl, rfl⟩
theorem vc_39 (m : MM) (g h : Nat) : (vcM m g h).1 39 g = va_cpy (m.1 39 h) (m.1 39 g) 0 0 48 := if_pos ⟨rfl, rfl⟩
theorem vc_16 (m : MM) (g h : Nat) : (vcM m g h).1 16 g = va_cpy (m.1 16 h) (m.1 16 g) 0 0 4 := if_pos ⟨rfl, rfl⟩
theorem vc_17 (m : MM) (g h : Nat) : (vcM m g h).1 17 g = va_cpy (m.1 17 h) (m.1 17 g) 0 0 4 := if_pos ⟨rfl, rfl⟩
theorem vc_18 (m : MM) (g h : Nat) : (vcM m g h).1 18 g = va_cpy (m.1 18 h) (m.1 18 g) 0 0 4 := if_pos ⟨rfl, rfl⟩
theorem vc_19 (m : MM) (g h : Nat) : (vcM m g h).1 19 g = va_cpy (m.1 19 h) (m.1 19 g) 0 0 4 := if_pos ⟨rfl, rfl⟩
theorem vc_43 (m : MM) (g h : Nat) : (vcM m g h).1 43 g = va_cpy (m.1 43 h) (m.1 43 g) 0 0 60 := if_pos ⟨rfl, rfl⟩
theorem vc_44 (m : MM) (g h : Nat) : (vcM m g h).1 44 g = va_cpy (m.1 44 h) (m.1 44 g) 0 0 60 := if_pos ⟨rfl, rfl⟩
theorem vc_45 (m : MM) (g h : Nat) : (vcM m g h).1 45 g = va_cpy (m.1 45 h) (m.1 45 g) 0 0 60 := if_pos ⟨rfl, rfl⟩
theorem vc_46 (m : MM) (g h : Nat) : (vcM m g h).1 46 g = va_cpy (m.1 46 h) (m.1 46 g) 0 0 60 := if_pos ⟨rfl, rfl⟩
theorem vc_47 (m : MM) (g h : Nat) : (vcM m g h).1 47 g = va_cpy (m.1 47 h) (m.1 47 g) 0 0 60 := if_pos ⟨rfl, rfl⟩
theorem vc_48 (m : MM) (g h : Nat) : (vcM m g h).1 48 g = va_cpy (m.1 48 h) (m.1 48 g) 0 0 60 := if_pos ⟨rfl, rfl⟩
theorem vc_29 (m : MM) (g h : Nat) : (vcM m g h).2.1 29 g = va_cpy (m.2.1 29 h) (m.2.1 29 g) 0 0 20 := if_pos ⟨rfl, rfl⟩
theorem cpI_at (m : MM) (k g h j : Nat) : (cpI m k g h j).1 k g j = m.1 k h j := mI_eq2
theorem cpI_nx {m : MM} {k g h h' i j : Nat} (e : i ≠ j) : (cpI m k g h j).1 k h' i = m.1 k h' i := mI_nx e
/-- the numbers of a valley are copied -/
theorem vc_6 (m : MM) (g h j : Nat) (hj : 13 ≤ j ∧ j ≤ 19) : (vcM m g h).1 6 g j = m.1 6 h j := by
  have e0 : ∀ j', (ycM (dcM (vcM1 m g h) g h) g h).1 6 h j' = m.1 6 h j' := fun _ => rfl
  unfold vcM vcM2
  rcases (show j = 13 ∨ j = 14 ∨ j = 15 ∨ j = 16 ∨ j = 17 ∨ j = 18 ∨ j = 19 by omega) with rfl | rfl | rfl | rfl | rfl | rfl | rfl
  · rw [cpI_nx (by decide), cpI_nx (by decide), cpI_nx (by decide), cpI_nx (by decide), cpI_nx (by decide), cpI_nx (by decide), cpI_at, e0]
  · rw [cpI_nx (by decide), cpI_nx (by decide), cpI_nx (by decide), cpI_nx (by decide), cpI_nx (by decide), cpI_at, cpI_nx (by decide), e0]
  · rw [cpI_nx (by decide), cpI_nx (by decide), cpI_nx (by decide), cpI_nx (by decide), cpI_at, cpI_nx (by decide), cpI_nx (by decide), e0]
  · rw [cpI_nx (by decide), cpI_nx (by decide), cpI_nx (by decide), cpI_at, cpI_nx (by decide), cpI_nx (by decide), cpI_nx (by decide), e0]
  · rw [cpI_nx (by decide), cpI_nx (by decide), cpI_at, cpI_nx (by decide), cpI_nx (by decide), cpI_nx (by decide), cpI_nx (by decide), e0]
  · rw [cpI_nx (by decide), cpI_at, cpI_nx (by decide), cpI_nx (by decide), cpI_nx (by decide), cpI_nx (by decide), cpI_nx (by decide), e0]
  · rw [cpI_at, cpI_nx (by decide), cpI_nx (by decide), cpI_nx (by decide), cpI_nx (by decide), cpI_nx (by decide), cpI_nx (by decide), e0]
theorem vc_1 (m : MM) (g h j : Nat) (hj : 4 ≤ j ∧ j ≤ 6) : (vcM m g h).1 1 g j = m.1 1 h j := by
  have e1 : (vcM m g h).1 1 g = (dcM (vcM1 m g h) g h).1 1 g := rfl
  rw [e1]
  unfold dcM
  rcases (show j = 4 ∨ j = 5 ∨ j = 6 by omega) with rfl | rfl | rfl
  · rw [cpI_nx (by decide), cpI_nx (by decide), cpI_at]; rfl
  · rw [cpI_nx (by decide), cpI_at, cpI_nx (by decide)]; rfl
  · rw [cpI_at, cpI_nx (by decide), cpI_nx (by decide)]; rfl
theorem vc_9 (m : MM) (g h j : Nat) (hj : 6 ≤ j ∧ j ≤ 8) : (vcM m g h).1 9 g j = m.1 9 h j := by
  have e1 : (vcM m g h).1 9 g = (ycM (dcM (vcM1 m g h) g h) g h).1 9 g := rfl
  rw [e1]
  unfold ycM
  rcases (show j = 6 ∨ j = 7 ∨ j = 8 by omega) with rfl | rfl | rfl
  · rw [cpI_nx (by decide), cpI_nx (by decide), cpI_at]; rfl
  · rw [cpI_nx (by decide), cpI_at, cpI_nx (by decide)]; rfl
  · rw [cpI_at, cpI_nx (by decide), cpI_nx (by decide)]; rfl
theorem vc_su (m : MM) (g h : Nat) {s : Nat} (hs : s < 4) : ∀ f, suF (vcM m g h) g f s = suF m h f s
  | 0 => by show (vcM m g h).1 30 g s = m.1 30 h s; rw [vc_30]; exact cp_at hs
  | 1 => by show (vcM m g h).1 16 g s = m.1 16 h s; rw [vc_16]; exact cp_at hs
  | 2 => by show (vcM m g h).1 17 g s = m.1 17 h s; rw [vc_17]; exact cp_at hs
  | _ + 3 => by show (vcM m g h).1 18 g s = m.1 18 h s; rw [vc_18]; exact cp_at hs
theorem vc_ma (m : MM) (g h : Nat) {s : Nat} (hs : s < 4) : ∀ f, maF (vcM m g h) g f s = maF m h f s
  | 0 => by show (vcM m g h).1 32 g s = m.1 32 h s; rw [vc_32]; exact cp_at hs
  | 1 => by show (vcM m g h).1 33 g s = m.1 33 h s; rw [vc_33]; exact cp_at hs
  | 2 => by show (vcM m g h).1 34 g s = m.1 34 h s; rw [vc_34]; exact cp_at hs
  | _ + 3 => by show (vcM m g h).1 19 g s = m.1 19 h s; rw [vc_19]; exact cp_at hs
theorem vc_th (m : MM) (g h : Nat) {s : Nat} (hs : s < 12) : ∀ f, thF (vcM m g h) g f s = thF m h f s
  | 0 => by show (vcM m g h).1 35 g s = m.1 35 h s; rw [vc_35]; exact cp_at hs
  | 1 => by show (vcM m g h).1 36 g s = m.1 36 h s; rw [vc_36]; exact cp_at hs
  | _ + 2 => by show (vcM m g h).1 37 g s = m.1 37 h s; rw [vc_37]; exact cp_at hs
theorem mRow_no {m : MM} {k0 k g g' : Nat} {f : Nat → Int32} (e : g' ≠ g) : (mRow m k0 g f).1 k g' = m.1 k g' := if_neg (fun z => e z.2)
/-- what is copied is the same valley -/
theorem vc_ab (m : MM) (g h : Nat) : abV (vcM m g h) g = abV m h := by
  funext j
  unfold abV lay
  by_cases h1 : j < 12
  · rw [if_pos h1, if_pos h1]
    unfold fldF
    split
    · exact vc_6 m g h 13 (by decide)
    · exact vc_6 m g h 14 (by decide)
    · exact vc_6 m g h 15 (by decide)
    · exact vc_6 m g h 16 (by decide)
    · exact vc_6 m g h 17 (by decide)
    · exact vc_6 m g h 18 (by decide)
    · exact vc_1 m g h 4 (by decide)
    · exact vc_1 m g h 5 (by decide)
    · exact vc_1 m g h 6 (by decide)
    · rfl
  rw [if_neg h1, if_neg h1]
  by_cases h2 : j < 28
  · rw [if_pos h2, if_pos h2]
    exact vc_su m g h (by omega) _
  rw [if_neg h2, if_neg h2]
  by_cases h3 : j < 44
  · rw [if_pos h3, if_pos h3]
    exact vc_ma m g h (by omega) _
  rw [if_neg h3, if_neg h3]
  by_cases h4 : j < 80
  · rw [if_pos h4, if_pos h4]
    exact vc_th m g h (by omega) _
  rw [if_neg h4, if_neg h4]
  by_cases h5 : j < 128
  · rw [if_pos h5, if_pos h5, vc_39]
    exact cp_at (by omega)
  rw [if_neg h5, if_neg h5]
  by_cases h6 : j < 144
  · rw [if_pos h6, if_pos h6, vc_31]
    exact cp_at (by omega)
  rw [if_neg h6, if_neg h6]
theorem vc_VC2 {m : MM} {g h ns nm nt : Nat} (hV : VC2 m h ns nm nt) : VC2 (vcM m g h) g ns nm nt := by
  unfold VC2
  rw [vc_ab]
  exact hV
theorem vc_YL {m : MM} {g h ns nm nt L k : Nat} (hk : k < 60) (hY : YLc m h ns nm nt L k) : YLc (vcM m g h) g ns nm nt L k := by
  unfold YLc
  rw [vc_43, vc_44, vc_45, vc_48, cp_at hk, cp_at hk, cp_at hk, cp_at hk]
  exact hY
theorem vc_2 (m : MM) (g h : Nat) : (vcM m g h).2.2 = m.2.2 := rfl
/-- nothing but one valley moved -/
theorem vc_o {m : MM} {g h g' k : Nat} (e : g' ≠ g) : (vcM m g h).1 k g' = m.1 k g' := by
  unfold vcM vcM2 ycM dcM vcM1 cpI cpF2 cpF3
  simp only [mI, mRow_no e]
  rfl


end
