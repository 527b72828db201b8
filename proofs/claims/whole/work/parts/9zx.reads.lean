/-! PART 9ZX: what the class's reading leaves alone -/

noncomputable section
def CRo (g : Nat) (m m' : MM) : Prop := (∀ k j, ¬ (k = 4 ∨ k = 7 ∨ k = 10 ∨ k = 49) → ¬ (j = g ∧ (k = 1 ∨ k = 6 ∨ k = 9 ∨ (16 ≤ k ∧ k ≤ 19) ∨ (30 ≤ k ∧ k ≤ 39) ∨ (43 ≤ k ∧ k ≤ 48))) → m'.1 k j = m.1 k j) ∧ m'.1 4 0 5 = m.1 4 0 5 ∧ (∀ k j, k ≠ 4 → ¬ (k = 29 ∧ j = g) → m'.2.1 k j = m.2.1 k j) ∧ m'.2.2 = m.2.2
theorem CR_r (g : Nat) (m : MM) : CRo g m m := ⟨fun _ _ _ _ => rfl, rfl, fun _ _ _ _ => rfl, rfl⟩
theorem CR_t {g : Nat} {a b c : MM} (h : CRo g a b) (h' : CRo g b c) : CRo g a c := ⟨fun k j x y => (h'.1 k j x y).trans (h.1 k j x y), h'.2.1.trans h.2.1, fun k j x y => (h'.2.2.1 k j x y).trans (h.2.2.1 k j x y), h'.2.2.2.trans h.2.2.2⟩
theorem CR_o {g : Nat} {a b : MM} (h : SMo a b) (h5 : b.1 4 0 5 = a.1 4 0 5) : CRo g a b := ⟨fun k j x _ => h.1 k j (fun z => x (Or.inl z)), h5, fun k j x _ => h.2.1 k j x, h.2.2⟩
theorem CR_R {g : Nat} {c m : MM} {k j : Nat} {f : Nat → Int32} (hk : k = 7 ∨ k = 10 ∨ k = 49 ∨ (j = g ∧ (k = 1 ∨ k = 6 ∨ k = 9 ∨ (16 ≤ k ∧ k ≤ 19) ∨ (30 ≤ k ∧ k ≤ 39) ∨ (43 ≤ k ∧ k ≤ 48)))) (h : CRo g c m) : CRo g c (mRow m k j f) := CR_t h ⟨fun k' j' x y => if_neg (fun z => by omega), congrFun (show (mRow m k j f).1 4 0 = m.1 4 0 from if_neg (fun z => by omega)) 5, fun _ _ _ _ => rfl, rfl⟩
theorem CR_N {g : Nat} {c m : MM} {f : Nat → Int64} (h : CRo g c m) : CRo g c (mRowL m 29 g f) := CR_t h ⟨fun _ _ _ _ => rfl, rfl, fun k' j' x y => if_neg (fun z => y z), rfl⟩
theorem sp_5 (m : MM) : (spM m).1 4 0 5 = m.1 4 0 5 := by
  unfold spM sp2
  split
  · rfl
  split
  · rfl
  split
  · rfl
  · rfl
theorem CR_sp {g : Nat} {c m : MM} (h : CRo g c m) : CRo g c (spM m) := CR_t h (CR_o (SMo_sp m) (sp_5 m))
theorem CR_fa {g : Nat} {c m : MM} {x : Int32} (h : CRo g c m) : CRo g c (faC m x) := CR_t h (CR_o (SMo_fa m x) rfl)
theorem CR_mi {g : Nat} {c m : MM} (h : CRo g c m) : CRo g c (miC m) := CR_fa h
theorem CR_if {g : Nat} {c : MM} {p : Prop} [Decidable p] {x y : PR} (hx : CRo g c x.2) (hy : CRo g c y.2) : CRo g c (if p then x else y).2 := by
  split
  · exact hx
  · exact hy
theorem CR_sk {g : Nat} {c m : MM} {k : Int32} (h : CRo g c m) : CRo g c (skC m k).2 := CR_if (CR_sp h) (CR_mi h)
theorem CR_am {g : Nat} {c m : MM} {lo hi : Int32} (h : CRo g c m) : CRo g c (amC m lo hi).2 := by
  unfold amC
  split
  · split
    · exact CR_fa h
    · exact CR_sp h
  · exact CR_mi h
theorem CR_op {g : Nat} {c m : MM} {k w hi : Int32} (h : CRo g c m) : CRo g c (opC m k w hi).2 := by
  unfold opC
  split
  · exact CR_am (CR_sp h)
  · exact h
theorem CR_fd {g : Nat} {c m : MM} {v f n : Nat} (h : CRo g c m) : CRo g c (fdC m v f n).2 := by
  unfold fdC
  split
  · show CRo g c (if _ then faC m 3 else m)
    split
    · exact CR_fa h
    · exact h
  · exact CR_mi h
theorem CR_me {g : Nat} {c m : MM} {v f n : Nat} (h : CRo g c m) : CRo g c (meC m v f n).2 := by
  unfold meC
  split
  · exact CR_sp (CR_fd h)
  · exact CR_fd h
theorem CR_nw {g : Nat} {c m : MM} {v : Nat} (h : CRo g c m) : CRo g c (nwC m v).2 := by
  unfold nwC
  split
  · split
    · exact CR_sp h
    · exact CR_fa h
  · exact CR_mi h
theorem CR_pB {g : Nat} {c : MM} {p : PR} {q : MM → PR} (h : CRo g c p.2) (hq : ∀ M, CRo g c M → CRo g c (q M).2) : CRo g c (pBd p q).2 := CR_if (hq _ h) h
theorem CR_pI {g : Nat} {c : MM} {p : Int32 × MM} {q : Int32 → MM → PR} (h : CRo g c p.2) (hq : ∀ x M, CRo g c M → CRo g c (q x M).2) : CRo g c (pBi p q).2 := CR_if h (hq _ _ h)
theorem CR_pL {g : Nat} {c : MM} {p : Int64 × MM} {q : Int64 → MM → PR} (h : CRo g c p.2) (hq : ∀ x M, CRo g c M → CRo g c (q x M).2) : CRo g c (pBl p q).2 := CR_if h (hq _ _ h)
theorem CR_7s {g : Nat} {c m : MM} (h : CRo g c m) : CRo g c (c7sC g m).2 := by
  refine CR_if (CR_pL (CR_nw (CR_sp h)) (fun _ _ h => CR_pI (CR_op h) (fun _ _ h => CR_pI (CR_op h) (fun _ _ h => CR_pB (CR_sk h) (fun _ h => ?_))))) (CR_fa h)
  exact CR_R (by omega) (CR_R (by omega) (CR_R (by omega) (CR_N h)))
theorem CR_7m {g : Nat} {c m : MM} (h : CRo g c m) : CRo g c (c7mC g m).2 := by
  refine CR_if (CR_pL (CR_nw (CR_sp h)) (fun _ _ h => CR_pB (CR_sk h) (fun _ h => CR_pI (CR_am h) (fun _ _ h => CR_pI (CR_op h) (fun _ _ h => CR_pI (CR_op h) (fun _ _ h => CR_pB (CR_sk h) (fun _ h => ?_))))))) (CR_fa h)
  exact CR_R (by omega) (CR_R (by omega) (CR_R (by omega) (CR_R (by omega) (CR_N h))))
theorem CR_7t {g : Nat} {c m : MM} (h : CRo g c m) : CRo g c (c7tC g m).2 := by
  refine CR_if (CR_pL (CR_nw (CR_sp h)) (fun _ _ h => CR_pB (CR_sk h) (fun _ h => CR_pI (CR_me h) (fun _ _ h => CR_pB (CR_sk h) (fun _ h => CR_pI (CR_am h) (fun _ _ h => CR_pB (CR_sk h) (fun _ h => ?_))))))) (CR_fa h)
  exact CR_R (by omega) (CR_R (by omega) (CR_R (by omega) (CR_N h)))
theorem CR_7y {g : Nat} {c m : MM} (h : CRo g c m) : CRo g c (c7yC g m).2 :=
  CR_pI (CR_me (CR_sp h)) (fun _ _ h => CR_pB (CR_sk h) (fun _ h => CR_pI (CR_me h) (fun _ _ h => CR_pI (CR_am h) (fun _ _ h => CR_pB (CR_sk h) (fun _ h => CR_R (by omega) h)))))
theorem CR_7a {g : Nat} {c m : MM} (h : CRo g c m) : CRo g c (c7aC g m).2 :=
  CR_if (CR_pI (CR_me (CR_sp h)) (fun _ _ h => CR_pI (CR_fd h) (fun _ _ h => CR_if (CR_fa h) (CR_pB (CR_sk (CR_sp h)) (fun _ h => CR_R (by omega) (CR_R (by omega) h)))))) (CR_fa h)
theorem CR_7l {g : Nat} {c m : MM} (h : CRo g c m) : CRo g c (c7lC g m).2 :=
  CR_pI (CR_me (CR_sp h)) (fun _ _ h => CR_pI (CR_me h) (fun _ _ h => CR_pI (CR_am h) (fun _ _ h => CR_pB (CR_sk h) (fun _ h => CR_R (by omega) h))))
theorem CR_7w {g : Nat} {c m : MM} (h : CRo g c m) : CRo g c (c7wC g m).2 :=
  CR_if (CR_pI (CR_am (CR_sp h)) (fun _ _ h => CR_pB (CR_sk h) (fun _ h => CR_R (by omega) (CR_R (by omega) h)))) (CR_fa h)
theorem CR_7f {g : Nat} {c m : MM} (h : CRo g c m) : CRo g c (c7fC g m).2 :=
  CR_if (CR_pI (CR_am (CR_sp h)) (fun _ _ h => CR_pB (CR_sk h) (fun _ h => CR_R (by omega) (CR_R (by omega) h)))) (CR_fa h)
theorem CR_71 {g : Nat} {c m : MM} (h : CRo g c m) : CRo g c (c7v1 g m).2 :=
  CR_if (CR_7s h) (CR_if (CR_7m h) (CR_if (CR_7t h) (CR_if (CR_7y h) (CR_if (CR_7a h) (CR_if (CR_7l h) (CR_if (CR_7w h) (CR_if (CR_7f h) (CR_mi h))))))))
theorem CR_7L {g : Nat} {c : MM} : ∀ f m, CRo g c m → CRo g c (c7vL g f m).2
  | 0, _, h => h
  | f + 1, m, h => by
    rw [c7vL]
    exact CR_if h (CR_pB (CR_71 h) (fun M h => CR_7L f M h))
/-- the text begun: the tape is empty, all else stays -/
def C5o (g : Nat) (m m' : MM) : Prop := CRo g (mI m 4 0 5 0) m'
theorem CR_bg {g : Nat} {c m : MM} {n : Int32} (h : CRo g c m) : C5o g c (bgC m n) := by
  refine CR_sp ?_
  obtain ⟨h1, h2, h3, h4⟩ := h
  refine ⟨fun k j x y => ?_, ?_, h3, h4⟩
  · have hk : k ≠ 4 := fun z => x (Or.inl z)
    have r : ∀ (M : MM) (f : Nat → Int32), (mRow M 4 0 f).1 k j = M.1 k j := fun M f => if_neg (fun z => hk z.1)
    exact ((r _ _).trans ((r _ _).trans ((r _ _).trans ((r _ _).trans (r _ _))))).trans ((h1 k j x y).trans (r _ _).symm)
  · rfl
theorem CR_co {g : Nat} {c m : MM} (h : CRo g c m) : CRo g c (coM m g) := CR_R (by omega) (CR_R (by omega) (CR_R (by omega) h))
theorem CR_vl {g : Nat} {c m : MM} (h : CRo g c m) : CRo g c (vlM3 m g) := by
  unfold vlM3 vlM2 ylM dlM vlM1
  iterate 21 refine CR_R (by omega) ?_
  exact CR_N h
theorem CR_7 {g : Nat} {m : MM} {n : Int32} : C5o g m (c7vC g m n).2 := by
  unfold c7vC c7vE c7v0
  have h0 : C5o g m (bgC (mI (mI (vlM3 m g) 7 0 1 0) 7 0 2 0) n) := CR_bg (CR_R (by omega) (CR_R (by omega) (CR_vl (CR_r g m))))
  have h1 := CR_7L 900 _ h0
  show CRo g (mI m 4 0 5 0) (if _ then coM _ g else _)
  split
  · exact CR_co h1
  · exact h1
/-! years -/
theorem CR_P {g : Nat} {c : MM} {k L : Nat} {p : Int32 × MM} (hk : 43 ≤ k ∧ k ≤ 48) (h : CRo g c p.2) : CRo g c (c10P k g L p).2 := CR_R (by omega) h
theorem CR_10d {g v : Nat} {c m : MM} (h : CRo g c m) : CRo g c (c10d g v m).2 :=
  CR_if (CR_P (by decide) (CR_me h)) (CR_if (CR_P (by decide) (CR_me h)) (CR_if (CR_pB (CR_P (by decide) (CR_me h)) (fun _ h => CR_pB (CR_sk h) (fun _ h => CR_P (by decide) (CR_me h)))) (CR_if (CR_P (by decide) (CR_am h)) h)))
theorem CR_10t {g v : Nat} {c m : MM} (h : CRo g c m) : CRo g c (c10t g v m).2 := by
  have hE : ∀ L M, CRo g c M → CRo g c (c10tE g L M).2 := fun L M h => CR_if (CR_P (by decide) (CR_am (CR_sp (CR_R (by omega) h)))) (CR_mi h)
  have hD : ∀ L t M, CRo g c M → CRo g c (c10tD g v L t M).2 := fun L t M h => CR_if (CR_P (by decide) (CR_me h)) (CR_pB (CR_P (by decide) (CR_me h)) (hE L))
  have hB : ∀ L t M, CRo g c M → CRo g c (c10tB g v L t M).2 := fun L t M h => CR_pB (CR_sk h) (hD L t)
  have hA : ∀ L t M, CRo g c M → CRo g c (c10tA g v L t M).2 := fun L t M h => CR_if (CR_P (by decide) (CR_me h)) (CR_pB (CR_P (by decide) (CR_me h)) (hB L t))
  exact CR_if (hA _ _ _ (CR_sp (CR_R (by omega) h))) (CR_mi h)
theorem CR_10z {g : Nat} {b : Int32} {c m : MM} (h : CRo g c m) : CRo g c (c10z g b m).2 := by
  refine CR_R (by omega) (CR_R (by omega) ?_)
  split
  · exact h
  · exact CR_R (by omega) (CR_R (by omega) h)
theorem CR_10s {g v : Nat} {c m : MM} (h : CRo g c m) : CRo g c (c10s g v m).2 := by
  unfold c10s c10s1 c10s2
  refine CR_if (CR_if (CR_if (CR_fa h) (CR_pB ?_ (fun _ h => CR_pB (CR_sk h) (fun _ h => CR_10z h)))) (CR_fa h)) (CR_mi h)
  exact CR_if (CR_10t (CR_sp (CR_R (by omega) h))) (CR_10d (CR_sp (CR_R (by omega) h)))
theorem CR_10e {g : Nat} {c m : MM} (h : CRo g c m) : CRo g c (c10e g m).2 :=
  CR_if (CR_pB (CR_sk (CR_sp h)) (fun _ h => CR_R (by omega) (CR_R (by omega) (CR_R (by omega) (CR_R (by omega) (CR_R (by omega) h)))))) (CR_mi h)
theorem CR_10L {g v : Nat} {c : MM} : ∀ f m, CRo g c m → CRo g c (c10vL g v f m).2
  | 0, _, h => h
  | f + 1, m, h => by
    rw [c10vL]
    exact CR_if h (CR_pB (CR_if (CR_10e h) (CR_10s h)) (fun M h => CR_10L f M h))
theorem CR_10 {g v : Nat} {m : MM} {n : Int32} : C5o g m (c10vC g v m n).2 := by
  unfold c10vC c10vE c10vF c10v0
  have h0 : C5o g m (bgC (mI (ylM m g) 10 0 2 0) n) := CR_bg (CR_R (by omega) (CR_R (by omega) (CR_R (by omega) (CR_R (by omega) (CR_r g m)))))
  have h1 := CR_10L (v := v) 61 _ h0
  refine CR_R (by omega) ?_
  exact CR_if (CR_mi h1) h1

end
