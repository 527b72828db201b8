/-! PART 9ZX: what the class's reading leaves alone -/

noncomputable section
def CRo (u g : Nat) (m m' : MM) : Prop := (∀ k j, ¬ (k = 4 ∨ k = 7 ∨ k = 10 ∨ k = 49) → ¬ (j = g ∧ (k = 1 ∨ k = 6 ∨ (k = 9 ∧ u = 1) ∨ (16 ≤ k ∧ k ≤ 19) ∨ (30 ≤ k ∧ k ≤ 39) ∨ (43 ≤ k ∧ k ≤ 48))) → m'.1 k j = m.1 k j) ∧ m'.1 4 0 5 = m.1 4 0 5 ∧ (∀ k j, k ≠ 4 → ¬ (k = 29 ∧ j = g) → m'.2.1 k j = m.2.1 k j) ∧ m'.2.2 = m.2.2
theorem CR_r (u g : Nat) (m : MM) : CRo u g m m := ⟨fun _ _ _ _ => rfl, rfl, fun _ _ _ _ => rfl, rfl⟩
theorem CR_t {u g : Nat} {a b c : MM} (h : CRo u g a b) (h' : CRo u g b c) : CRo u g a c := ⟨fun k j x y => (h'.1 k j x y).trans (h.1 k j x y), h'.2.1.trans h.2.1, fun k j x y => (h'.2.2.1 k j x y).trans (h.2.2.1 k j x y), h'.2.2.2.trans h.2.2.2⟩
theorem CR_o {u g : Nat} {a b : MM} (h : SMo a b) (h5 : b.1 4 0 5 = a.1 4 0 5) : CRo u g a b := ⟨fun k j x _ => h.1 k j (fun z => x (Or.inl z)), h5, fun k j x _ => h.2.1 k j x, h.2.2⟩
theorem CR_R {u g : Nat} {c m : MM} {k j : Nat} {f : Nat → Int32} (hk : k = 7 ∨ k = 10 ∨ k = 49 ∨ (j = g ∧ (k = 1 ∨ k = 6 ∨ (k = 9 ∧ u = 1) ∨ (16 ≤ k ∧ k ≤ 19) ∨ (30 ≤ k ∧ k ≤ 39) ∨ (43 ≤ k ∧ k ≤ 48)))) (h : CRo u g c m) : CRo u g c (mRow m k j f) := CR_t h ⟨fun k' j' x y => if_neg (fun z => by omega), congrFun (show (mRow m k j f).1 4 0 = m.1 4 0 from if_neg (fun z => by omega)) 5, fun _ _ _ _ => rfl, rfl⟩
theorem CR_N {u g : Nat} {c m : MM} {f : Nat → Int64} (h : CRo u g c m) : CRo u g c (mRowL m 29 g f) := CR_t h ⟨fun _ _ _ _ => rfl, rfl, fun k' j' x y => if_neg (fun z => y z), rfl⟩
theorem sp_5 (m : MM) : (spM m).1 4 0 5 = m.1 4 0 5 := by
  unfold spM sp2
  split
  · rfl
  split
  · rfl
  split
  · rfl
  · rfl
theorem CR_sp {u g : Nat} {c m : MM} (h : CRo u g c m) : CRo u g c (spM m) := CR_t h (CR_o (SMo_sp m) (sp_5 m))
theorem CR_fa {u g : Nat} {c m : MM} {x : Int32} (h : CRo u g c m) : CRo u g c (faC m x) := CR_t h (CR_o (SMo_fa m x) rfl)
theorem CR_mi {u g : Nat} {c m : MM} (h : CRo u g c m) : CRo u g c (miC m) := CR_fa h
theorem CR_if {u g : Nat} {c : MM} {p : Prop} [Decidable p] {x y : PR} (hx : CRo u g c x.2) (hy : CRo u g c y.2) : CRo u g c (if p then x else y).2 := by
  split
  · exact hx
  · exact hy
theorem CR_sk {u g : Nat} {c m : MM} {k : Int32} (h : CRo u g c m) : CRo u g c (skC m k).2 := CR_if (CR_sp h) (CR_mi h)
theorem CR_am {u g : Nat} {c m : MM} {lo hi : Int32} (h : CRo u g c m) : CRo u g c (amC m lo hi).2 := by
  unfold amC
  split
  · split
    · exact CR_fa h
    · exact CR_sp h
  · exact CR_mi h
theorem CR_op {u g : Nat} {c m : MM} {k w hi : Int32} (h : CRo u g c m) : CRo u g c (opC m k w hi).2 := by
  unfold opC
  split
  · exact CR_am (CR_sp h)
  · exact h
theorem CR_fd {u g : Nat} {c m : MM} {v f n : Nat} (h : CRo u g c m) : CRo u g c (fdC m v f n).2 := by
  unfold fdC
  split
  · show CRo u g c (if _ then faC m 3 else m)
    split
    · exact CR_fa h
    · exact h
  · exact CR_mi h
theorem CR_me {u g : Nat} {c m : MM} {v f n : Nat} (h : CRo u g c m) : CRo u g c (meC m v f n).2 := by
  unfold meC
  split
  · exact CR_sp (CR_fd h)
  · exact CR_fd h
theorem CR_nw {u g : Nat} {c m : MM} {v : Nat} (h : CRo u g c m) : CRo u g c (nwC m v).2 := by
  unfold nwC
  split
  · split
    · exact CR_sp h
    · exact CR_fa h
  · exact CR_mi h
theorem CR_pB {u g : Nat} {c : MM} {p : PR} {q : MM → PR} (h : CRo u g c p.2) (hq : ∀ M, CRo u g c M → CRo u g c (q M).2) : CRo u g c (pBd p q).2 := CR_if (hq _ h) h
theorem CR_pI {u g : Nat} {c : MM} {p : Int32 × MM} {q : Int32 → MM → PR} (h : CRo u g c p.2) (hq : ∀ x M, CRo u g c M → CRo u g c (q x M).2) : CRo u g c (pBi p q).2 := CR_if h (hq _ _ h)
theorem CR_pL {u g : Nat} {c : MM} {p : Int64 × MM} {q : Int64 → MM → PR} (h : CRo u g c p.2) (hq : ∀ x M, CRo u g c M → CRo u g c (q x M).2) : CRo u g c (pBl p q).2 := CR_if h (hq _ _ h)
theorem CR_7s {u g : Nat} {c m : MM} (h : CRo u g c m) : CRo u g c (c7sC g m).2 := by
  refine CR_if (CR_pL (CR_nw (CR_sp h)) (fun _ _ h => CR_pI (CR_op h) (fun _ _ h => CR_pI (CR_op h) (fun _ _ h => CR_pB (CR_sk h) (fun _ h => ?_))))) (CR_fa h)
  exact CR_R (by omega) (CR_R (by omega) (CR_R (by omega) (CR_N h)))
theorem CR_7m {u g : Nat} {c m : MM} (h : CRo u g c m) : CRo u g c (c7mC g m).2 := by
  refine CR_if (CR_pL (CR_nw (CR_sp h)) (fun _ _ h => CR_pB (CR_sk h) (fun _ h => CR_pI (CR_am h) (fun _ _ h => CR_pI (CR_op h) (fun _ _ h => CR_pI (CR_op h) (fun _ _ h => CR_pB (CR_sk h) (fun _ h => ?_))))))) (CR_fa h)
  exact CR_R (by omega) (CR_R (by omega) (CR_R (by omega) (CR_R (by omega) (CR_N h))))
theorem CR_7t {u g : Nat} {c m : MM} (h : CRo u g c m) : CRo u g c (c7tC g m).2 := by
  refine CR_if (CR_pL (CR_nw (CR_sp h)) (fun _ _ h => CR_pB (CR_sk h) (fun _ h => CR_pI (CR_me h) (fun _ _ h => CR_pB (CR_sk h) (fun _ h => CR_pI (CR_am h) (fun _ _ h => CR_pB (CR_sk h) (fun _ h => ?_))))))) (CR_fa h)
  exact CR_R (by omega) (CR_R (by omega) (CR_R (by omega) (CR_N h)))
theorem CR_7y {u g : Nat} {c m : MM} (h : CRo u g c m) : CRo u g c (c7yC g m).2 :=
  CR_pI (CR_me (CR_sp h)) (fun _ _ h => CR_pB (CR_sk h) (fun _ h => CR_pI (CR_me h) (fun _ _ h => CR_pI (CR_am h) (fun _ _ h => CR_pB (CR_sk h) (fun _ h => CR_R (by omega) h)))))
theorem CR_7a {u g : Nat} {c m : MM} (h : CRo u g c m) : CRo u g c (c7aC g m).2 :=
  CR_if (CR_pI (CR_me (CR_sp h)) (fun _ _ h => CR_pI (CR_fd h) (fun _ _ h => CR_if (CR_fa h) (CR_pB (CR_sk (CR_sp h)) (fun _ h => CR_R (by omega) (CR_R (by omega) h)))))) (CR_fa h)
theorem CR_7l {u g : Nat} {c m : MM} (h : CRo u g c m) : CRo u g c (c7lC g m).2 :=
  CR_pI (CR_me (CR_sp h)) (fun _ _ h => CR_pI (CR_me h) (fun _ _ h => CR_pI (CR_am h) (fun _ _ h => CR_pB (CR_sk h) (fun _ h => CR_R (by omega) h))))
theorem CR_7w {u g : Nat} {c m : MM} (h : CRo u g c m) : CRo u g c (c7wC g m).2 :=
  CR_if (CR_pI (CR_am (CR_sp h)) (fun _ _ h => CR_pB (CR_sk h) (fun _ h => CR_R (by omega) (CR_R (by omega) h)))) (CR_fa h)
theorem CR_7f {u g : Nat} {c m : MM} (h : CRo u g c m) : CRo u g c (c7fC g m).2 :=
  CR_if (CR_pI (CR_am (CR_sp h)) (fun _ _ h => CR_pB (CR_sk h) (fun _ h => CR_R (by omega) (CR_R (by omega) h)))) (CR_fa h)
theorem CR_71 {u g : Nat} {c m : MM} (h : CRo u g c m) : CRo u g c (c7v1 g m).2 :=
  CR_if (CR_7s h) (CR_if (CR_7m h) (CR_if (CR_7t h) (CR_if (CR_7y h) (CR_if (CR_7a h) (CR_if (CR_7l h) (CR_if (CR_7w h) (CR_if (CR_7f h) (CR_mi h))))))))
theorem CR_7L {u g : Nat} {c : MM} : ∀ f m, CRo u g c m → CRo u g c (c7vL g f m).2
  | 0, _, h => h
  | f + 1, m, h => by
    rw [c7vL]
    exact CR_if h (CR_pB (CR_71 h) (fun M h => CR_7L f M h))
/-- the text begun: the tape is empty, all else stays -/
def C5o (g : Nat) (m m' : MM) : Prop := CRo 1 g (mI m 4 0 5 0) m'
theorem CR_bg {u g : Nat} {c m : MM} {n : Int32} (h : CRo u g c m) : CRo u g (mI c 4 0 5 0) (bgC m n) := by
  refine CR_sp ?_
  obtain ⟨h1, h2, h3, h4⟩ := h
  refine ⟨fun k j x y => ?_, ?_, h3, h4⟩
  · have hk : k ≠ 4 := fun z => x (Or.inl z)
    have r : ∀ (M : MM) (f : Nat → Int32), (mRow M 4 0 f).1 k j = M.1 k j := fun M f => if_neg (fun z => hk z.1)
    exact ((r _ _).trans ((r _ _).trans ((r _ _).trans ((r _ _).trans (r _ _))))).trans ((h1 k j x y).trans (r _ _).symm)
  · rfl
theorem CR_co {u g : Nat} {c m : MM} (h : CRo u g c m) : CRo u g c (coM m g) := CR_R (by omega) (CR_R (by omega) (CR_R (by omega) h))
theorem CR_vl {g : Nat} {c m : MM} (h : CRo 1 g c m) : CRo 1 g c (vlM3 m g) := by
  unfold vlM3 vlM2 ylM dlM vlM1
  iterate 21 refine CR_R (by omega) ?_
  exact CR_N h
theorem CR_7 {g : Nat} {m : MM} {n : Int32} : C5o g m (c7vC g m n).2 := by
  unfold c7vC c7vE c7v0
  have h0 : C5o g m (bgC (mI (mI (vlM3 m g) 7 0 1 0) 7 0 2 0) n) := CR_bg (CR_R (by omega) (CR_R (by omega) (CR_vl (CR_r 1 g m))))
  have h1 := CR_7L 900 _ h0
  show CRo 1 g (mI m 4 0 5 0) (if _ then coM _ g else _)
  split
  · exact CR_co h1
  · exact h1
theorem c7_9 {g : Nat} {m : MM} {n : Int32} : (c7vC g m n).2.1 9 g 6 = 0 := by
  unfold c7vC c7vE c7v0
  obtain ⟨c0, e0⟩ : ∃ c0, c0 = bgC (mI (mI (vlM3 m g) 7 0 1 0) 7 0 2 0) n := ⟨_, rfl⟩
  have h1 := CR_7L (u := 0) 900 c0 (CR_r 0 g c0)
  have h2 : c0.1 9 g 6 = 0 := by
    rw [e0]
    have r : ∀ (M : MM) (k : Nat) (f : Nat → Int32), k ≠ 9 → ∀ h, (mRow M k h f).1 9 g = M.1 9 g := fun M k f hk h => if_neg (fun z => hk z.1.symm)
    unfold bgC
    rw [sp_1 (by decide)]
    unfold bg1 vlM3 vlM2
    iterate 13 rw [show ∀ (M : MM) (k h j : Nat) (x : Int32), mI M k h j x = mRow M k h (upd (M.1 k h) j x) from fun _ _ _ _ _ => rfl, r _ _ _ (by decide)]
    unfold ylM
    rw [mI_ne (by decide), mI_ne (by decide), mI_eq2]
  rw [← e0]
  have h3 : (c7vL g 900 c0).2.1 9 g 6 = 0 := by rw [h1.1 9 g (by omega) (by omega)]; exact h2
  show (if (c7vL g 900 c0).1 = true then coM (c7vL g 900 c0).2 g else (c7vL g 900 c0).2).1 9 g 6 = 0
  split
  · have z := CR_co (CR_r 0 g (c7vL g 900 c0).2)
    rw [z.1 9 g (by omega) (by omega)]; exact h3
  · exact h3
/-! years -/
theorem CR_P {g : Nat} {c : MM} {k L : Nat} {p : Int32 × MM} (hk : 43 ≤ k ∧ k ≤ 48) (h : CRo 1 g c p.2) : CRo 1 g c (c10P k g L p).2 := CR_R (by omega) h
theorem CR_10d {g v : Nat} {c m : MM} (h : CRo 1 g c m) : CRo 1 g c (c10d g v m).2 :=
  CR_if (CR_P (by decide) (CR_me h)) (CR_if (CR_P (by decide) (CR_me h)) (CR_if (CR_pB (CR_P (by decide) (CR_me h)) (fun _ h => CR_pB (CR_sk h) (fun _ h => CR_P (by decide) (CR_me h)))) (CR_if (CR_P (by decide) (CR_am h)) h)))
theorem CR_10t {g v : Nat} {c m : MM} (h : CRo 1 g c m) : CRo 1 g c (c10t g v m).2 := by
  have hE : ∀ L M, CRo 1 g c M → CRo 1 g c (c10tE g L M).2 := fun L M h => CR_if (CR_P (by decide) (CR_am (CR_sp (CR_R (by omega) h)))) (CR_mi h)
  have hD : ∀ L t M, CRo 1 g c M → CRo 1 g c (c10tD g v L t M).2 := fun L t M h => CR_if (CR_P (by decide) (CR_me h)) (CR_pB (CR_P (by decide) (CR_me h)) (hE L))
  have hB : ∀ L t M, CRo 1 g c M → CRo 1 g c (c10tB g v L t M).2 := fun L t M h => CR_pB (CR_sk h) (hD L t)
  have hA : ∀ L t M, CRo 1 g c M → CRo 1 g c (c10tA g v L t M).2 := fun L t M h => CR_if (CR_P (by decide) (CR_me h)) (CR_pB (CR_P (by decide) (CR_me h)) (hB L t))
  exact CR_if (hA _ _ _ (CR_sp (CR_R (by omega) h))) (CR_mi h)
theorem CR_10z {g : Nat} {b : Int32} {c m : MM} (h : CRo 1 g c m) : CRo 1 g c (c10z g b m).2 := by
  refine CR_R (by omega) (CR_R (by omega) ?_)
  split
  · exact h
  · exact CR_R (by omega) (CR_R (by omega) h)
theorem CR_10s {g v : Nat} {c m : MM} (h : CRo 1 g c m) : CRo 1 g c (c10s g v m).2 := by
  unfold c10s c10s1 c10s2
  refine CR_if (CR_if (CR_if (CR_fa h) (CR_pB ?_ (fun _ h => CR_pB (CR_sk h) (fun _ h => CR_10z h)))) (CR_fa h)) (CR_mi h)
  exact CR_if (CR_10t (CR_sp (CR_R (by omega) h))) (CR_10d (CR_sp (CR_R (by omega) h)))
theorem CR_10e {g : Nat} {c m : MM} (h : CRo 1 g c m) : CRo 1 g c (c10e g m).2 :=
  CR_if (CR_pB (CR_sk (CR_sp h)) (fun _ h => CR_R (by omega) (CR_R (by omega) (CR_R (by omega) (CR_R (by omega) (CR_R (by omega) h)))))) (CR_mi h)
theorem CR_10L {g v : Nat} {c : MM} : ∀ f m, CRo 1 g c m → CRo 1 g c (c10vL g v f m).2
  | 0, _, h => h
  | f + 1, m, h => by
    rw [c10vL]
    exact CR_if h (CR_pB (CR_if (CR_10e h) (CR_10s h)) (fun M h => CR_10L f M h))
theorem CR_10 {g v : Nat} {m : MM} {n : Int32} : C5o g m (c10vC g v m n).2 := by
  unfold c10vC c10vE c10vF c10v0
  have h0 : C5o g m (bgC (mI (ylM m g) 10 0 2 0) n) := CR_bg (CR_R (by omega) (CR_R (by omega) (CR_R (by omega) (CR_R (by omega) (CR_r 1 g m)))))
  have h1 := CR_10L (v := v) 61 _ h0
  refine CR_R (by omega) ?_
  exact CR_if (CR_mi h1) h1

end
