/-! PART 73: the class: a valley's text -/

theorem c7m_ok {m : MM} {g : Nat} (h : CJx m g) (t : (c7mC g m).1 = true) : CJx (c7mC g m).2 g := by
  obtain ⟨ns, nm, nt, na, h⟩ := h
  unfold c7mC at t ⊢
  by_cases c : m.1 6 g 14 < 4
  · rw [if_pos c] at t ⊢
    have e1 := pBl_in t
    rw [e1.2] at t ⊢
    have e2 := pBd_in t
    unfold c7mA at t ⊢
    rw [e2.2] at t ⊢
    have e3 := pBi_in t
    unfold c7mB at t ⊢
    rw [e3.2] at t ⊢
    have e4 := pBi_in t
    unfold c7mD at t ⊢
    rw [e4.2] at t ⊢
    have e5 := pBi_in t
    unfold c7mE at t ⊢
    rw [e5.2] at t ⊢
    have e6 := pBd_in t
    unfold c7mF at t ⊢
    rw [e6.2] at t ⊢
    exact ⟨_, _, _, _, CJ_i14 (CJ_sk (CJ_op (CJ_op (CJ_am (CJ_sk (CJ_nw (CJ_sp h))))))) (c7_lt h.2.2.1.1 h.2.2.1.2 (by decide) c)⟩
  · rw [if_neg c] at t
    exact absurd t Bool.false_ne_true
theorem c7t_ok {m : MM} {g : Nat} (h : CJx m g) (t : (c7tC g m).1 = true) : CJx (c7tC g m).2 g := by
  obtain ⟨ns, nm, nt, na, h⟩ := h
  unfold c7tC at t ⊢
  by_cases c : m.1 6 g 15 < 12
  · rw [if_pos c] at t ⊢
    have e1 := pBl_in t
    rw [e1.2] at t ⊢
    have e2 := pBd_in t
    unfold c7tA at t ⊢
    rw [e2.2] at t ⊢
    have e3 := pBi_in t
    unfold c7tB at t ⊢
    rw [e3.2] at t ⊢
    have e4 := pBd_in t
    unfold c7tD at t ⊢
    rw [e4.2] at t ⊢
    have e5 := pBi_in t
    unfold c7tE at t ⊢
    rw [e5.2] at t ⊢
    have e6 := pBd_in t
    unfold c7tF at t ⊢
    rw [e6.2] at t ⊢
    exact ⟨_, _, _, _, CJ_i15 (CJ_sk (CJ_am (CJ_sk (CJ_me (CJ_sk (CJ_nw (CJ_sp h))))))) (c7_lt h.2.2.2.1.1 h.2.2.2.1.2 (by decide) c)⟩
  · rw [if_neg c] at t
    exact absurd t Bool.false_ne_true
theorem CJ_row {m : MM} {k g' : Nat} {f : Nat → Int32} {g ns nm nt na : Nat} (hk : k ≠ 4 ∧ k ≠ 6) (h : CJ m g ns nm nt na) : CJ (mRow m k g' f) g ns nm nt na := by
  have r4 : (mRow m k g' f).1 4 0 = m.1 4 0 := if_neg (fun z => hk.1 z.1.symm)
  have r6 : (mRow m k g' f).1 6 g = m.1 6 g := if_neg (fun z => hk.2 z.1.symm)
  unfold CJ
  rw [r6]
  exact ⟨TXp_mk h.1 (by rw [r4]) (by rw [r4]), h.2⟩
theorem c7y_ok {m : MM} {g : Nat} (h : CJx m g) (t : (c7yC g m).1 = true) : CJx (c7yC g m).2 g := by
  obtain ⟨ns, nm, nt, na, h⟩ := h
  unfold c7yC at t ⊢
  have e1 := pBi_in t
  rw [e1.2] at t ⊢
  have e2 := pBd_in t
  unfold c7yA at t ⊢
  rw [e2.2] at t ⊢
  have e3 := pBi_in t
  unfold c7yB at t ⊢
  rw [e3.2] at t ⊢
  have e4 := pBi_in t
  unfold c7yD at t ⊢
  rw [e4.2] at t ⊢
  have e5 := pBd_in t
  unfold c7yE at t ⊢
  rw [e5.2] at t ⊢
  exact ⟨_, _, _, _, CJ_row (by decide) (CJ_sk (CJ_am (CJ_me (CJ_sk (CJ_me (CJ_sp h))))))⟩
theorem c7l_ok {m : MM} {g : Nat} (h : CJx m g) (t : (c7lC g m).1 = true) : CJx (c7lC g m).2 g := by
  obtain ⟨ns, nm, nt, na, h⟩ := h
  unfold c7lC at t ⊢
  have e1 := pBi_in t
  rw [e1.2] at t ⊢
  have e3 := pBi_in t
  unfold c7lB at t ⊢
  rw [e3.2] at t ⊢
  have e4 := pBi_in t
  unfold c7lD at t ⊢
  rw [e4.2] at t ⊢
  have e5 := pBd_in t
  unfold c7lE at t ⊢
  rw [e5.2] at t ⊢
  exact ⟨_, _, _, _, CJ_row (by decide) (CJ_sk (CJ_am (CJ_me (CJ_me (CJ_sp h)))))⟩
theorem c7a_ok {m : MM} {g : Nat} (h : CJx m g) (t : (c7aC g m).1 = true) : CJx (c7aC g m).2 g := by
  obtain ⟨ns, nm, nt, na, h⟩ := h
  unfold c7aC at t ⊢
  by_cases c : m.1 6 g 16 < 12
  · rw [if_pos c] at t ⊢
    have e1 := pBi_in t
    rw [e1.2] at t ⊢
    have e2 := pBi_in t
    unfold c7aA at t ⊢
    rw [e2.2] at t ⊢
    have hM := CJ_fd (f := 8) (n := ((meC (spM m) g 8 ((spM m).1 6 g 15).toNatClampNeg).2.1 6 g 15).toNatClampNeg) (CJ_me (f := 8) (n := ((spM m).1 6 g 15).toNatClampNeg) (CJ_sp h))
    generalize (fdC (meC (spM m) g 8 ((spM m).1 6 g 15).toNatClampNeg).2 g 8 ((meC (spM m) g 8 ((spM m).1 6 g 15).toNatClampNeg).2.1 6 g 15).toNatClampNeg).2 = M at t hM ⊢
    unfold c7aB at t ⊢
    split at t
    · exact absurd t Bool.false_ne_true
    · rename_i c2
      rw [if_neg c2]
      have e3 := pBd_in t
      rw [e3.2]
      exact ⟨_, _, _, _, CJ_i16 (CJ_sk (CJ_sp hM)) (c7_lt h.2.2.2.2.1 h.2.2.2.2.2 (by decide) c)⟩
  · rw [if_neg c] at t
    exact absurd t Bool.false_ne_true
theorem CJ_w {m : MM} {g ns nm nt na i j : Nat} {x y : Int32} (hi : 16 < i) (h : CJ m g ns nm nt na) : CJ (mI (mI m 6 g i x) 7 0 j y) g ns nm nt na :=
  CJ_row (by decide) ⟨TXp_mk h.1 rfl rfl, ⟨(mI_ne (by omega)).trans h.2.1.1, h.2.1.2⟩, ⟨(mI_ne (by omega)).trans h.2.2.1.1, h.2.2.1.2⟩, ⟨(mI_ne (by omega)).trans h.2.2.2.1.1, h.2.2.2.1.2⟩, ⟨(mI_ne (by omega)).trans h.2.2.2.2.1, h.2.2.2.2.2⟩⟩
theorem c7w_ok {m : MM} {g : Nat} (h : CJx m g) (t : (c7wC g m).1 = true) : CJx (c7wC g m).2 g := by
  obtain ⟨ns, nm, nt, na, h⟩ := h
  unfold c7wC at t ⊢
  by_cases c : m.1 7 0 1 = 0
  · rw [if_pos c] at t ⊢
    have e1 := pBi_in t
    rw [e1.2] at t ⊢
    have e2 := pBd_in t
    unfold c7wA at t ⊢
    rw [e2.2] at t ⊢
    exact ⟨_, _, _, _, CJ_w (by decide) (CJ_sk (CJ_am (CJ_sp h)))⟩
  · rw [if_neg c] at t
    exact absurd t Bool.false_ne_true
theorem c7f_ok {m : MM} {g : Nat} (h : CJx m g) (t : (c7fC g m).1 = true) : CJx (c7fC g m).2 g := by
  obtain ⟨ns, nm, nt, na, h⟩ := h
  unfold c7fC at t ⊢
  by_cases c : m.1 7 0 2 = 0
  · rw [if_pos c] at t ⊢
    have e1 := pBi_in t
    rw [e1.2] at t ⊢
    have e2 := pBd_in t
    unfold c7fA at t ⊢
    rw [e2.2] at t ⊢
    exact ⟨_, _, _, _, CJ_w (by decide) (CJ_sk (CJ_am (CJ_sp h)))⟩
  · rw [if_neg c] at t
    exact absurd t Bool.false_ne_true

