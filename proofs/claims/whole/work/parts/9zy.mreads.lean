/-! PART 9ZY: what the model's reading leaves alone -/

noncomputable section
def MRo (m m' : MM) : Prop := (∀ k j, k ≠ 12 → k ≠ 54 → k ≠ 60 → k ≠ 61 → m'.1 k j = m.1 k j) ∧ (∀ j, j = 10 ∨ j = 16 ∨ j = 39 ∨ j = 40 → m'.1 12 0 j = m.1 12 0 j) ∧ (∀ j, j < 2040 → m'.1 54 0 j = m.1 54 0 j) ∧ (∀ k j, k ≠ 55 → m'.2.1 k j = m.2.1 k j) ∧ (∀ j, j < 80 → m'.2.1 55 0 j = m.2.1 55 0 j) ∧ m'.2.2 = m.2.2
theorem MR_r (m : MM) : MRo m m := ⟨fun _ _ _ _ _ _ => rfl, fun _ _ => rfl, fun _ _ => rfl, fun _ _ _ => rfl, fun _ _ => rfl, rfl⟩
theorem MR_t {a b c : MM} (h : MRo a b) (h' : MRo b c) : MRo a c := ⟨fun k j x y z w => (h'.1 k j x y z w).trans (h.1 k j x y z w), fun j x => (h'.2.1 j x).trans (h.2.1 j x), fun j x => (h'.2.2.1 j x).trans (h.2.2.1 j x), fun k j x => (h'.2.2.2.1 k j x).trans (h.2.2.2.1 k j x), fun j x => (h'.2.2.2.2.1 j x).trans (h.2.2.2.2.1 j x), h'.2.2.2.2.2.trans h.2.2.2.2.2⟩
/-- a row of the model's -/
theorem MR_1 {c m : MM} {k j : Nat} {f : Nat → Int32} (hk : k = 60 ∨ k = 61) (h : MRo c m) : MRo c (mRow m k j f) := MR_t h ⟨fun k' j' x y z w => if_neg (fun q => by omega), fun i _ => congrFun (show (mRow m k j f).1 12 0 = m.1 12 0 from if_neg (fun q => by omega)) i, fun i _ => congrFun (show (mRow m k j f).1 54 0 = m.1 54 0 from if_neg (fun q => by omega)) i, fun _ _ _ => rfl, fun _ _ => rfl, rfl⟩
theorem MR_12 {c m : MM} {f : Nat → Int32} (hf : ∀ j, j = 10 ∨ j = 16 ∨ j = 39 ∨ j = 40 → f j = m.1 12 0 j) (h : MRo c m) : MRo c (mRow m 12 0 f) := MR_t h ⟨fun k' j' x y z w => if_neg (fun q => x q.1), hf, fun i _ => congrFun (mRow_kk (by decide)) i, fun _ _ _ => rfl, fun _ _ => rfl, rfl⟩
theorem MR_54 {c m : MM} {f : Nat → Int32} (hf : ∀ j, j < 2040 → f j = m.1 54 0 j) (h : MRo c m) : MRo c (mRow m 54 0 f) := MR_t h ⟨fun k' j' x y z w => if_neg (fun q => y q.1), fun i _ => congrFun (mRow_kk (by decide)) i, hf, fun _ _ _ => rfl, fun _ _ => rfl, rfl⟩
theorem MR_55 {c m : MM} {f : Nat → Int64} (hf : ∀ j, j < 80 → f j = m.2.1 55 0 j) (h : MRo c m) : MRo c (mRowL m 55 0 f) := MR_t h ⟨fun _ _ _ _ _ _ => rfl, fun _ _ => rfl, fun _ _ => rfl, fun k j x => if_neg (fun q => x q.1), hf, rfl⟩
theorem MR_I {c m : MM} {j : Nat} {x : Int32} (hj : j ≠ 10 ∧ j ≠ 16 ∧ j ≠ 39 ∧ j ≠ 40) (h : MRo c m) : MRo c (mI m 12 0 j x) := MR_12 (fun i hi => upd_ne (by omega)) h
theorem MR_J {c m : MM} {j : Nat} {x : Int32} (hj : 2040 ≤ j) (h : MRo c m) : MRo c (mI m 54 0 j x) := MR_54 (fun i hi => upd_ne (by omega)) h
theorem MR_ah {c m : MM} (h : MRo c m) : MRo c (ahM m) := by
  refine MR_12 (fun j hj => ?_) h
  unfold tkR
  rw [if_neg (by omega), if_neg (by omega), if_neg (by omega), if_neg (by omega)]
theorem MR_mi {p : Prop} [Decidable p] {c a b : MM} (ha : MRo c a) (hb : MRo c b) : MRo c (mite p a b) := by
  unfold mite
  split
  · exact ha
  · exact hb
theorem MR_fa {c m : MM} {k : Int32} (h : MRo c m) : MRo c (faM m k) := MR_mi (MR_I (by decide) (MR_I (by decide) h)) h
theorem MR_if {c : MM} {p : Prop} [Decidable p] {x y : PR} (hx : MRo c x.2) (hy : MRo c y.2) : MRo c (if p then x else y).2 := by
  split
  · exact hx
  · exact hy
theorem MR_pB {c : MM} {p : PR} {q : MM → PR} (h : MRo c p.2) (hq : ∀ M, MRo c M → MRo c (q M).2) : MRo c (pBd p q).2 := MR_if (hq _ h) h
theorem MR_Sg {c m : MM} {x : Int32} (h : MRo c m) : MRo c (pSg m x).2 := MR_if (MR_ah h) (MR_fa h)
theorem MR_WW {c m : MM} {x : Int32} (h : MRo c m) : MRo c (pWW m x).2 := MR_if (MR_ah h) (MR_fa h)
theorem MR_Th {c m : MM} {x : Int32} (h : MRo c m) : MRo c (pTh m x).2 := MR_if (MR_ah h) h
theorem MR_Nu {c m : MM} {t : Nat} {lo hi : Int32} (ht : 2040 ≤ t) (h : MRo c m) : MRo c (pNu m t lo hi).2 := MR_if (MR_if (MR_fa h) (MR_ah (MR_J ht h))) (MR_fa h)
theorem MR_Ol {c m : MM} {b k t : Nat} (ht : 2040 ≤ t) (h : MRo c m) : MRo c (pOl m b k t).2 := MR_if (MR_if (MR_fa (MR_J ht h)) (MR_ah (MR_J ht h))) (MR_fa h)
theorem MR_Nw {c m : MM} {q k : Nat} {most : Int32} (h : MRo c m) : MRo c (pNw m q most k).2 := by
  refine MR_if (MR_fa h) (MR_if (MR_if (MR_ah (MR_55 (fun j hj => ?_) (MR_ah h))) (MR_fa (MR_ah h))) (MR_fa (MR_ah h)))
  exact if_neg (by omega)
theorem MR_Op {c m : MM} {k lo hi : Int32} {t : Nat} (ht : 2040 ≤ t) (h : MRo c m) : MRo c (pOp m k t lo hi).2 := MR_if (MR_Nu ht (MR_Th h)) (MR_Th h)
theorem MR_Su {c m : MM} (h : MRo c m) : MRo c (pSu m).2 :=
  MR_pB (MR_Nw h) (fun _ h => MR_pB (MR_Op (by omega) (MR_J (by omega) (MR_J (by omega) h))) (fun _ h => MR_pB (MR_Op (by omega) h) (fun _ h => MR_J (by omega) h)))
theorem MR_Ma {c m : MM} (h : MRo c m) : MRo c (pMa m).2 :=
  MR_pB (MR_Nw h) (fun _ h => MR_pB (MR_WW h) (fun _ h => MR_pB (MR_Nu (by omega) h) (fun _ h => MR_pB (MR_Op (by omega) (MR_J (by omega) h)) (fun _ h => MR_pB (MR_Op (by omega) h) (fun _ h => MR_J (by omega) (MR_54 (fun j hj => mtR_lo _ _ _ j (by omega)) h))))))
theorem MR_Tg {c m : MM} (h : MRo c m) : MRo c (pTg m).2 :=
  MR_pB (MR_Nw h) (fun _ h => MR_pB (MR_WW h) (fun _ h => MR_pB (MR_Ol (by omega) h) (fun _ h => MR_pB (MR_WW h) (fun _ h => MR_pB (MR_Nu (by omega) h) (fun _ h => MR_J (by omega) (MR_54 (fun j hj => thR_lo _ _ _ j (by omega)) h))))))
theorem MR_Sy {c m : MM} (h : MRo c m) : MRo c (pSy m).2 :=
  MR_pB (MR_Ol (by omega) (MR_ah h)) (fun _ h => MR_pB (MR_WW h) (fun _ h => MR_pB (MR_Ol (by omega) h) (fun _ h => MR_Nu (by omega) h)))
theorem MR_Lk {c m : MM} (h : MRo c m) : MRo c (pLk m).2 :=
  MR_pB (MR_Ol (by omega) (MR_ah h)) (fun _ h => MR_pB (MR_Ol (by omega) h) (fun _ h => MR_Nu (by omega) h))
theorem MR_Af {c m : MM} (h : MRo c m) : MRo c (pAf m).2 :=
  MR_if (MR_fa h) (MR_pB (MR_Ol (by omega) (MR_ah h)) (fun _ h => MR_if (MR_fa h) (MR_pB (MR_Ol (by omega) h) (fun _ h => MR_J (by omega) (MR_J (by omega) h)))))
theorem MR_On {c m : MM} {k : Int32} (h : MRo c m) : MRo c (pOn m k).2 :=
  MR_if (MR_fa h) (MR_if (MR_Nu (by omega) (MR_ah (MR_I (by decide) h))) (MR_Nu (by omega) (MR_ah (MR_I (by decide) h))))
theorem MR_Vp {c m : MM} (h : MRo c m) : MRo c (pVp m).2 := by
  have s : ∀ M, MRo c M → MRo c (sgE M).2 := fun _ h => MR_Sg h
  exact MR_if (MR_pB (MR_Su h) s) (MR_if (MR_pB (MR_Ma h) s) (MR_if (MR_pB (MR_Tg h) s) (MR_if (MR_pB (MR_Sy h) s) (MR_if (MR_pB (MR_Af h) s) (MR_if (MR_pB (MR_Lk h) s) (MR_if (MR_pB (MR_On h) s) (MR_if (MR_pB (MR_On h) s) (MR_fa h))))))))
theorem MR_vL {c : MM} : ∀ f m, MRo c m → MRo c (vlL f m)
  | 0, _, h => h
  | f + 1, m, h => by
    rw [vlL]
    split
    · exact h
    · split
      · exact MR_vL f _ (MR_Vp h)
      · exact MR_Vp h
/-- the text begun on the model's side: its tape is empty -/
theorem MR_bg {c m : MM} {k : Nat} (h : MRo (mI c 12 0 10 0) (mI m 12 0 10 0)) : MRo (mI c 12 0 10 0) (bgM m k) := by
  have e : bgF (bgT m k) = mI (mI (mI (mI (mI (mRow (mI m 12 0 11 (nI k)) 60 0 (cpB (m.1 60 0) (m.1 59 0) k)) 12 0 10 0) 12 0 18 0) 12 0 17 (-1)) 12 0 14 0) 12 0 19 0 := rfl
  refine MR_ah ?_
  rw [e]
  refine MR_I (by decide) (MR_I (by decide) (MR_I (by decide) (MR_I (by decide) ?_)))
  obtain ⟨h1, h2, h3, h4, h5, h6⟩ := h
  refine ⟨fun k j x y z w => ?_, fun j hj => ?_, h3, h4, h5, h6⟩
  · refine ((if_neg (fun q => x q.1)).trans ((if_neg (fun q => z q.1)).trans (if_neg (fun q => x q.1)))).trans ((if_neg (fun q => x q.1)).symm.trans (h1 k j x y z w))
  · have z := h2 j hj
    refine Eq.trans ?_ z
    show upd (upd (m.1 12 0) 11 (nI _)) 10 0 j = upd (m.1 12 0) 10 0 j
    by_cases c : j = 10
    · rw [c, upd_eq, upd_eq]
    · rw [upd_ne c, upd_ne c, upd_ne (by omega)]
/-! years -/
theorem MR_Te {c m : MM} {r : Nat} (hr : 2040 ≤ r) (h : MRo c m) : MRo c (pTe m r).2 :=
  MR_if (MR_fa h) (MR_pB (MR_Ol (by omega) (MR_ah (MR_J hr h))) (fun _ h => MR_if h (MR_pB (MR_WW h) (fun _ h => MR_pB (MR_Ol (by omega) h) (fun _ h => MR_if h (MR_if (MR_Nu (by omega) (MR_ah (MR_J (by omega) h))) (MR_fa h)))))))
theorem MR_Yo {c m : MM} {k : Int32} {r : Nat} (hr : 2040 ≤ r) (h : MRo c m) : MRo c (pYo m k r).2 :=
  MR_if (MR_Ol (by omega) h) (MR_if (MR_Ol (by omega) h) (MR_if (MR_Ol (by omega) h) (MR_if (MR_Ol (by omega) h) (MR_if (MR_pB (MR_Ol (by omega) h) (fun _ h => MR_pB (MR_WW h) (fun _ h => MR_Ol (by omega) h))) (MR_if (MR_Te hr h) (MR_if (MR_Nu (by omega) h) h))))))
theorem MR_Ys {c m : MM} (h : MRo c m) : MRo c (pYs m).2 := by
  have hl : ∀ k r, 2040 ≤ r → MRo c (lnM m k r) := fun k r hr => by
    refine MR_54 (fun j hj => ?_) (MR_I (by decide) h)
    rw [upd_ne (by omega)]
    show (if r + 1 ≤ j ∧ j < r + 1 + 5 then 0 else upd (m.1 54 0) r k j) = m.1 54 0 j
    rw [if_neg (by omega), upd_ne (by omega)]
  refine MR_if (MR_fa h) (MR_if (MR_fa h) (MR_if (MR_fa h) (MR_pB (MR_Yo (by omega) (MR_ah (hl _ _ (by omega)))) (fun _ h => MR_Sg (MR_mi ?_ ?_)))))
  · exact MR_J (by omega) (MR_J (by omega) (MR_I (by decide) (MR_mi (MR_I (by decide) (MR_1 (by decide) h)) h)))
  · exact MR_mi (MR_I (by decide) (MR_1 (by decide) h)) h
theorem MR_yL {c : MM} : ∀ f m, MRo c m → MRo c (yrL f m)
  | 0, _, h => h
  | f + 1, m, h => by
    rw [yrL]
    split
    · exact h
    · split
      · exact MR_yL f _ (MR_Ys h)
      · exact MR_Ys h

end
