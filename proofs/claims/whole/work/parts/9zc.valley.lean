/-! PART 9ZC: valley(): the class and the model -/

noncomputable section
theorem SMo_b1 (m : MM) (n : Int32) : SMo m (bg1 m n) := ⟨fun k g h => (if_neg (fun z => h z.1)).trans ((if_neg (fun z => h z.1)).trans ((if_neg (fun z => h z.1)).trans ((if_neg (fun z => h z.1)).trans (if_neg (fun z => h z.1))))), fun _ _ _ => rfl, rfl⟩
theorem SMo_bg (m : MM) (n : Int32) : SMo m (bgC m n) := SMo_t (SMo_b1 m n) (SMo_sp _)
theorem VL_0 {c M : MM} {g F n : Nat} {B : Nat → Nat} (h : TPo c M F B) (hn : n ≤ F) (hO : OWo c) : VLo g (c7v0 g c (nI n)) (vlB M n) := by
  have hT : TPo (mI (mI (vlM3 c g) 7 0 1 0) 7 0 2 0) M F B := h
  have hO' : OWo (mI (mI (vlM3 c g) 7 0 1 0) 7 0 2 0) := hO
  have hK := bg_lx hT hn hO'
  have hS := SMo_bg (mI (mI (vlM3 c g) 7 0 1 0) 7 0 2 0) (nI n)
  have hV : VRo (mI (mI (vlM3 c g) 7 0 1 0) 7 0 2 0) g (plR (M.1 54 0) 2040) (M.2.1 55 0) 0 0 0 0 := VR_0 c g (M.1 54 0) (M.2.1 55 0)
  refine ⟨hK, ?_, ?_, ⟨0, 0, 0, 0, VR_s hV hS⟩, Or.inl ⟨?_, ?_, rfl⟩, ?_⟩
  · show (spM (bg1 _ _)).1 4 0 9 = 0
    rw [sp_9]
    rfl
  · show (ahM (bgF (bgT M n))).1 12 0 18 = 0
    rw [ah_hi (by decide)]
    rfl
  · show (bgC _ _).1 7 0 1 = 0
    rw [hS.1 7 0 (by decide)]
    rfl
  · show (bgC _ _).1 7 0 2 = 0
    rw [hS.1 7 0 (by decide)]
    rfl
  · show (ahM (bgF (bgT M n))).1 12 0 17 = -1
    rw [ah_hi (by decide)]
    rfl
theorem vt_ok {c M : MM} {g F n : Nat} {B : Nat → Nat} (h : TPo c M F B) (hn : n ≤ F) (hO : OWo c) : ((c7vC g c (nI n)).1 = true ∧ (vlE (vlL 901 (vlB M n))).1 12 0 18 = 0 ∧ (vlE (vlL 901 (vlB M n))).1 12 0 17 = -1 ∧ (c7vC g c (nI n)).2.1 4 0 9 = 0 ∧ ∃ ns nm nt, VGo (c7vC g c (nI n)).2 g ((vlE (vlL 901 (vlB M n))).1 54 0) ((vlE (vlL 901 (vlB M n))).2.1 55 0) ns nm nt) ∨ ((c7vC g c (nI n)).1 = false ∧ FAo (c7vC g c (nI n)).2 (vlE (vlL 901 (vlB M n)))) := by
  have h9 := h.1
  have hL := vl_lp (g := g) 900 _ _ (VL_0 h hn hO) ⟨0, 0, 0, PJ_vlB (show n ≤ 900 by omega)⟩ (TKo_vlB (by omega)) (by omega)
  unfold c7vC c7vE
  revert hL
  generalize c7vL g 900 (c7v0 g c (nI n)) = p
  generalize vlL (900 + 1) (vlB M n) = q
  intro hL
  rcases hL with ⟨a1, a2, a3⟩ | ⟨a1, a2, a3⟩
  · have z18 : q.1 12 0 18 = 0 := of_decide_eq_true a2
    obtain ⟨-, b2, -, ⟨ns, nm, nt, na, b4⟩, -, b6⟩ := a3
    have eE : vlE q = cp55 (cp54 q) := mite_t z18
    rw [if_pos a1, eE]
    refine Or.inl ⟨a1, z18, b6, ?_, ns, nm, nt, ?_⟩
    · rw [co_k (by decide) (by decide) (by decide)]; exact b2
    · exact VR_fin b4 (fun j hj => if_pos hj) (fun i hi => if_pos hi)
  · have n18 : ¬ q.1 12 0 18 = 0 := of_decide_eq_false a2
    have eE : vlE q = q := mite_f n18
    rw [if_neg (by rw [a1]; exact Bool.false_ne_true), eE]
    exact Or.inr ⟨a1, a3⟩

end
