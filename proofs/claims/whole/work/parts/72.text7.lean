/-! PART 72: the class: what a part that was read leaves -/

theorem pBd_in {p : PR} {q : MM → PR} (t : (pBd p q).1 = true) : p.1 = true ∧ pBd p q = q p.2 := by
  by_cases h : p.1 = true
  · exact ⟨h, pBd_t h⟩
  · rw [pBd_f h] at t
    exact absurd t Bool.false_ne_true
theorem pBi_in {p : Int32 × MM} {q : Int32 → MM → PR} (t : (pBi p q).1 = true) : ¬ p.1 < 0 ∧ pBi p q = q p.1 p.2 := by
  by_cases h : p.1 < 0
  · rw [pBi_f h] at t
    exact absurd t Bool.false_ne_true
  · exact ⟨h, pBi_t h⟩
theorem pBl_in {p : Int64 × MM} {q : Int64 → MM → PR} (t : (pBl p q).1 = true) : ¬ p.1 = 0 ∧ pBl p q = q p.1 p.2 := by
  by_cases h : p.1 = 0
  · rw [pBl_f h] at t
    exact absurd t Bool.false_ne_true
  · exact ⟨h, pBl_t h⟩
def CJx (m : MM) (g : Nat) : Prop := ∃ ns nm nt na, CJ m g ns nm nt na
theorem CJ_i13 {m : MM} {g ns nm nt na : Nat} {x : Int64} {a c : Int32} (h : CJ m g ns nm nt na) (hl : ns < 4) : CJ (c7sM m g x a c) g (ns + 1) nm nt na :=
  ⟨TXp_mk h.1 rfl rfl, ⟨(mI_eq2).trans (by rw [h.2.1.1, nI_1]), hl⟩, ⟨(mI_ne (by decide)).trans h.2.2.1.1, h.2.2.1.2⟩, ⟨(mI_ne (by decide)).trans h.2.2.2.1.1, h.2.2.2.1.2⟩, ⟨(mI_ne (by decide)).trans h.2.2.2.2.1, h.2.2.2.2.2⟩⟩
theorem CJ_i14 {m : MM} {g ns nm nt na : Nat} {x : Int64} {a b c : Int32} (h : CJ m g ns nm nt na) (hl : nm < 4) : CJ (c7mM m g x a b c) g ns (nm + 1) nt na :=
  ⟨TXp_mk h.1 rfl rfl, ⟨(mI_ne (by decide)).trans h.2.1.1, h.2.1.2⟩, ⟨(mI_eq2).trans (by rw [h.2.2.1.1, nI_1]), hl⟩, ⟨(mI_ne (by decide)).trans h.2.2.2.1.1, h.2.2.2.1.2⟩, ⟨(mI_ne (by decide)).trans h.2.2.2.2.1, h.2.2.2.2.2⟩⟩
theorem CJ_i15 {m : MM} {g ns nm nt na : Nat} {x : Int64} {a b : Int32} (h : CJ m g ns nm nt na) (hl : nt < 12) : CJ (adM m g x a b) g ns nm (nt + 1) na :=
  ⟨TXp_mk h.1 rfl rfl, ⟨(mI_ne (by decide)).trans h.2.1.1, h.2.1.2⟩, ⟨(mI_ne (by decide)).trans h.2.2.1.1, h.2.2.1.2⟩, ⟨(mI_eq2).trans (by rw [h.2.2.2.1.1, nI_1]), hl⟩, ⟨(mI_ne (by decide)).trans h.2.2.2.2.1, h.2.2.2.2.2⟩⟩
theorem CJ_i16 {m : MM} {g ns nm nt na : Nat} {l s : Int32} (h : CJ m g ns nm nt na) (hl : na < 12) : CJ (c7aM m g l s) g ns nm nt (na + 1) :=
  ⟨TXp_mk h.1 rfl rfl, ⟨(mI_ne (by decide)).trans h.2.1.1, h.2.1.2⟩, ⟨(mI_ne (by decide)).trans h.2.2.1.1, h.2.2.1.2⟩, ⟨(mI_ne (by decide)).trans h.2.2.2.1.1, h.2.2.2.1.2⟩, ⟨(mI_eq2).trans (by rw [h.2.2.2.2.1, nI_1]), hl⟩⟩
theorem c7_lt {x : Int32} {n k : Nat} (e : x = nI n) (hn : n ≤ k) (hk : k < 2 ^ 31) (h : x < nI k) : n < k := by
  rw [e, nI_ltI (by omega) (by omega)] at h
  exact h
theorem c7s_ok {m : MM} {g : Nat} (h : CJx m g) (t : (c7sC g m).1 = true) : CJx (c7sC g m).2 g := by
  obtain ⟨ns, nm, nt, na, h⟩ := h
  unfold c7sC at t ⊢
  by_cases c : m.1 6 g 13 < 4
  · rw [if_pos c] at t ⊢
    have e1 := pBl_in t
    rw [e1.2] at t ⊢
    have e2 := pBi_in t
    unfold c7sA at t ⊢
    rw [e2.2] at t ⊢
    have e3 := pBi_in t
    unfold c7sB at t ⊢
    rw [e3.2] at t ⊢
    have e4 := pBd_in t
    unfold c7sD at t ⊢
    rw [e4.2] at t ⊢
    exact ⟨_, _, _, _, CJ_i13 (CJ_sk (CJ_op (CJ_op (CJ_nw (CJ_sp h))))) (c7_lt h.2.1.1 h.2.1.2 (by decide) c)⟩
  · rw [if_neg c] at t
    exact absurd t Bool.false_ne_true

