/-! PART 9G: the class's plans are grown over the sets that are come by -/

noncomputable section
/-- what a plan rests on stands -/
def PMo (m m' : MM) : Prop := (∀ j, j ≤ 10 → m'.1 3 0 j = m.1 3 0 j) ∧ m'.1 22 0 = m.1 22 0 ∧ m'.1 23 0 = m.1 23 0 ∧ m'.1 24 0 = m.1 24 0 ∧ m'.1 25 0 = m.1 25 0
theorem PMo_r (m : MM) : PMo m m := ⟨fun _ _ => rfl, rfl, rfl, rfl, rfl⟩
theorem PMo_t {a b c : MM} (h : PMo a b) (h' : PMo b c) : PMo a c := ⟨fun j z => (h'.1 j z).trans (h.1 j z), h'.2.1.trans h.2.1, h'.2.2.1.trans h.2.2.1, h'.2.2.2.1.trans h.2.2.2.1, h'.2.2.2.2.trans h.2.2.2.2⟩
theorem PMo_i {m m' : MM} {j : Nat} {x : Int32} (hj : 10 < j) (h : PMo m m') : PMo m (mI m' 3 0 j x) := ⟨fun i hi => (mI_ne (by omega)).trans (h.1 i hi), h.2.1, h.2.2.1, h.2.2.2.1, h.2.2.2.2⟩
theorem PMo_if {c : Prop} [Decidable c] {m a b : MM} (h : PMo m a) (h' : PMo m b) : PMo m (if c then a else b) := by
  by_cases z : c
  · rw [if_pos z]; exact h
  · rw [if_neg z]; exact h'
theorem PMo_w (m : MM) (ch ma su he : Int32) : PMo m (weM m ch ma su he) := by
  unfold weM
  have h0 : PMo m (we0 m he) := PMo_i (by decide) (PMo_r m)
  revert h0
  generalize we0 m he = M
  intro h0
  unfold we1
  refine PMo_if h0 ?_
  have h1 : PMo m (weA M ma) := PMo_i (by decide) h0
  revert h1
  generalize weA M ma = M1
  intro h1
  have h2 : PMo m (weB M1 (wkC3 M ma)) := PMo_i (by decide) h1
  revert h2
  generalize weB M1 (wkC3 M ma) = M2
  intro h2
  exact PMo_if (PMo_i (by decide) (PMo_i (by decide) (PMo_i (by decide) h2))) h2
/-- the items of a plan, as sets and sums -/
def ITo (m : MM) (n : Nat) (it : Nat → Nat) (ok : Nat → Nat → Prop) (R : Nat) (SU HE : Nat → Int32) : Prop := m.1 3 0 4 = nI n ∧ n ≤ 12 ∧ (∀ j, j < n → m.1 22 0 j = nI (it j) ∧ it j < 12) ∧ (∀ i j, i < n → j < n → it i = it j → i = j) ∧ (m.1 3 0 8 = nI R ∧ R < 2 ^ 31) ∧ (∀ j X, j < n → X < 4096 → (m.1 25 0 j &&& ((m.1 3 0 5 ||| nI X) ^^^ (-1)) = 0 ↔ ok j X)) ∧ (∀ j X, j < n → X < 4096 → X.testBit (it j) = false → SU (X ||| 2 ^ it j) = SU X + m.1 23 0 j ∧ HE (X ||| 2 ^ it j) = HE X + m.1 24 0 j)
theorem ITo_p {m m' : MM} {n : Nat} {it : Nat → Nat} {ok : Nat → Nat → Prop} {R : Nat} {SU HE : Nat → Int32} (h : ITo m n it ok R SU HE) (hp : PMo m m') : ITo m' n it ok R SU HE := by
  unfold ITo
  rw [hp.1 4 (by decide), hp.1 8 (by decide), hp.1 5 (by decide), hp.2.1, hp.2.2.1, hp.2.2.2.1, hp.2.2.2.2]
  exact h
def weX (SU HE : Nat → Int32) (m : MM) (Y : Nat) : MM := weM m (nI Y) (nI (pcN Y)) (SU Y) (HE Y)
theorem PMo_x {SU HE : Nat → Int32} (m : MM) (Y : Nat) : PMo m (weX SU HE m Y) := by
  unfold weX
  exact PMo_w m _ _ _ _
theorem PMo_f {SU HE : Nat → Int32} : ∀ (l : List Nat) (m : MM), PMo m (l.foldl (weX SU HE) m)
  | [], m => PMo_r m
  | Y :: l, m => by
    have h1 : PMo m (weX SU HE m Y) := PMo_x m Y
    rw [List.foldl_cons]
    revert h1
    generalize weX SU HE m Y = M
    intro h1
    exact PMo_t h1 (PMo_f l M)
theorem gr_f {n : Nat} {it : Nat → Nat} {ok : Nat → Nat → Prop} [∀ j X, Decidable (ok j X)] {R : Nat} {SU HE : Nat → Int32} : ∀ k j X m, j + k = 12 → ITo m n it ok R SU HE → X < 4096 → (∀ t, X.testBit t = true → ∃ i, i < j ∧ i < n ∧ it i = t) → grL k j (nI X) (nI (pcN X)) (SU X) (HE X) m = (dfs n it ok R k j X).foldl (weX SU HE) m
  | 0, j, X, m, _, _, _, _ => rfl
  | k + 1, j, X, m, hj, hI, hX, hs => by
    obtain ⟨h4, hn, hit, hinj, ⟨h8, hR⟩, hok, hsu⟩ := id hI
    rw [grL, dfs, h4]
    by_cases c : j < n
    · have t12 := (hit j c).2
      have hXt : X.testBit (it j) = false := Bool.eq_false_iff.mpr (fun z => by
        obtain ⟨i, h1, h2, h3⟩ := hs _ z
        have := hinj i j h2 c h3
        omega)
      have hX' : X ||| 2 ^ it j < 4096 := or_lt (n := 12) hX (Nat.pow_lt_pow_right (by omega) t12)
      have hpc := pc_or12 X hX (it j) t12 hXt
      have hs' : ∀ t, (X ||| 2 ^ it j).testBit t = true → ∃ i, i < j + 1 ∧ i < n ∧ it i = t := by
        intro t ht
        rcases (or_bt X (it j) t).mp ht with q | q
        · obtain ⟨i, h1, h2, h3⟩ := hs t q
          exact ⟨i, by omega, h2, h3⟩
        · exact ⟨j, by omega, c, q.symm⟩
      have hs2 : ∀ t, X.testBit t = true → ∃ i, i < j + 1 ∧ i < n ∧ it i = t := by
        intro t ht
        obtain ⟨i, h1, h2, h3⟩ := hs t ht
        exact ⟨i, by omega, h2, h3⟩
      rw [if_pos (show nI j < nI n by rw [nI_ltI (by omega) (by omega)]; exact c), if_pos c, List.foldl_append]
      have e1 : nI X ||| 1 <<< (m.1 22 0 j &&& 31) = nI (X ||| 2 ^ it j) := by rw [(hit j c).1]; exact or_bit (by omega)
      have e2 : nI (pcN X) + 1 = nI (pcN (X ||| 2 ^ it j)) := by rw [hpc, nI_1]
      obtain ⟨e3, e4⟩ := hsu j X c hX hXt
      rw [e1, e2, ← e3, ← e4]
      have inner : (if m.1 25 0 j &&& ((m.1 3 0 5 ||| nI X) ^^^ (-1)) = 0 then (if (weM m (nI (X ||| 2 ^ it j)) (nI (pcN (X ||| 2 ^ it j))) (SU (X ||| 2 ^ it j)) (HE (X ||| 2 ^ it j))).1 3 0 8 ≤ nI (pcN (X ||| 2 ^ it j)) then weM m (nI (X ||| 2 ^ it j)) (nI (pcN (X ||| 2 ^ it j))) (SU (X ||| 2 ^ it j)) (HE (X ||| 2 ^ it j)) else grL k (j + 1) (nI (X ||| 2 ^ it j)) (nI (pcN (X ||| 2 ^ it j))) (SU (X ||| 2 ^ it j)) (HE (X ||| 2 ^ it j)) (weM m (nI (X ||| 2 ^ it j)) (nI (pcN (X ||| 2 ^ it j))) (SU (X ||| 2 ^ it j)) (HE (X ||| 2 ^ it j)))) else m) = (if ok j X then (X ||| 2 ^ it j) :: (if R ≤ pcN X + 1 then [] else dfs n it ok R k (j + 1) (X ||| 2 ^ it j)) else []).foldl (weX SU HE) m := by
        by_cases co : ok j X
        · rw [if_pos ((hok j X c hX).mpr co), if_pos co, List.foldl_cons]
          have eW : weM m (nI (X ||| 2 ^ it j)) (nI (pcN (X ||| 2 ^ it j))) (SU (X ||| 2 ^ it j)) (HE (X ||| 2 ^ it j)) = weX SU HE m (X ||| 2 ^ it j) := rfl
          have hW : PMo m (weX SU HE m (X ||| 2 ^ it j)) := PMo_x m _
          rw [eW]
          revert hW
          generalize weX SU HE m (X ||| 2 ^ it j) = W
          intro hW
          have pl := pc_le (X ||| 2 ^ it j) hX'
          rw [hW.1 8 (by decide), h8]
          by_cases cr : R ≤ pcN X + 1
          · rw [if_pos cr, if_pos (by rw [nI_leI (by omega) (by omega), hpc]; exact cr)]
            rfl
          · rw [if_neg cr, if_neg (by rw [nI_leI (by omega) (by omega), hpc]; exact cr)]
            exact gr_f k (j + 1) _ W (by omega) (ITo_p hI hW) hX' hs'
        · rw [if_neg (fun z => co ((hok j X c hX).mp z)), if_neg co]
          rfl
      rw [inner]
      exact gr_f k (j + 1) X _ (by omega) (ITo_p hI (PMo_f _ m)) hX hs2
    · rw [if_neg (show ¬ nI j < nI n by rw [nI_ltI (by omega) (by omega)]; exact c), if_neg c]
      rfl
/-- the plan that is grown from nothing -/
theorem gr_z {n : Nat} {it : Nat → Nat} {ok : Nat → Nat → Prop} [∀ j X, Decidable (ok j X)] {R : Nat} {SU HE : Nat → Int32} {m : MM} (hI : ITo m n it ok R SU HE) (h0 : SU 0 = 0) : grM m 0 0 0 0 (HE 0) = (0 :: (if R ≤ 0 then [] else dfs n it ok R 12 0 0)).foldl (weX SU HE) m := by
  have hR := hI.2.2.2.2.1
  have e0 : weM m 0 0 0 (HE 0) = weX SU HE m 0 := by unfold weX; rw [h0]; rfl
  have hW : PMo m (weX SU HE m 0) := PMo_x m 0
  unfold grM
  rw [e0, List.foldl_cons, hW.1 8 (by decide), hR.1]
  by_cases c : R ≤ 0
  · rw [if_pos c, if_pos (show nI R ≤ 0 from (nI_leI (b := 0) hR.2 (by decide)).mpr c)]
    rfl
  · rw [if_neg c, if_neg (show ¬ nI R ≤ 0 from fun z => c ((nI_leI (b := 0) hR.2 (by decide)).mp z))]
    have z := gr_f 12 0 0 (weX SU HE m 0) (by omega) (ITo_p hI hW) (by decide) (fun t ht => by rw [Nat.zero_testBit] at ht; exact Bool.noConfusion ht)
    rw [h0] at z
    exact z

end
