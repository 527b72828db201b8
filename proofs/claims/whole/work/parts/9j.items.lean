/-! PART 9J: the items of a plan: those that need less stand first -/

noncomputable section
theorem itM_cg {f g : Nat → Nat} : ∀ n, (∀ i, i < n → f i = g i) → itM f n = itM g n
  | 0, _ => rfl
  | n + 1, h => by rw [itM, itM, itM_cg n (fun i hi => h i (by omega)), h n (by omega)]
theorem itM_lt {it : Nat → Nat} : ∀ n, (∀ i, i < n → it i < 12) → itM it n < 4096
  | 0, _ => (show 0 < 4096 by decide)
  | n + 1, h => or_lt (n := 12) (itM_lt n (fun i hi => h i (by omega))) (Nat.pow_lt_pow_right (by omega) (h n (by omega)))
def lxB (p i dp t : Nat) : Prop := p < dp ∨ (p = dp ∧ i < t)
/-- what is gathered so far -/
def GIo (m : MM) (v d nt : Nat) (F : Int32) (nd : Nat → Nat) (dp t0 : Nat) (M : MM) (n : Nat) (it : Nat → Nat) : Prop := M.1 3 0 4 = nI n ∧ n ≤ 12 ∧ (∀ j, j < n → M.1 22 0 j = nI (it j) ∧ M.1 23 0 j = m.1 36 v (it j) ∧ M.1 24 0 j = abV m v (80 + 4 * it j + d) ∧ M.1 25 0 j = m.1 37 v (it j)) ∧ (∀ j, j < n → it j < nt ∧ inS F (nI (it j)) ∧ lxB (pcN (nd (it j))) (it j) dp t0) ∧ (∀ i j, i < n → j < n → it i = it j → i = j) ∧ (∀ i j, i ≤ j → j < n → pcN (nd (it i)) ≤ pcN (nd (it j))) ∧ (∀ t, t < nt → inS F (nI t) → lxB (pcN (nd t)) t dp t0 → ∃ j, j < n ∧ it j = t) ∧ pcN (itM it n) = n ∧ SM3 m M ∧ ∀ j, j ≠ 4 → M.1 3 0 j = m.1 3 0 j
theorem lxB_up {p i dp t t' : Nat} (h : lxB p i dp t) (ht : t ≤ t') : lxB p i dp t' := h.imp id (fun z => ⟨z.1, by omega⟩)
/-- twelve items are all -/
theorem GI_all {it : Nat → Nat} (h : ∀ i, i < 12 → it i < 12) (hpc : pcN (itM it 12) = 12) {t : Nat} (ht : t < 12) : ∃ j, j < 12 ∧ it j = t := by
  have hlt := itM_lt 12 h
  refine Classical.byContradiction (fun z => ?_)
  have hmb : (itM it 12).testBit t = false := Bool.eq_false_iff.mpr (fun y => z ((itM_bit 12 t).mp y))
  have e := pc_or12 _ hlt t ht hmb
  have := pc_le (itM it 12 ||| 2 ^ t) (or_lt (n := 12) hlt (Nat.pow_lt_pow_right (by omega) ht))
  omega
theorem ga_add {m : MM} {v d nt : Nat} {F : Int32} {nd : Nat → Nat} (hnt : nt ≤ 12) {dp t : Nat} {M : MM} {n : Nat} {it : Nat → Nat} (ht : t < nt) (hF : inS F (nI t)) (hp : pcN (nd t) = dp) (n12 : n < 12) (h : GIo m v d nt F nd dp t M n it) : GIo m v d nt F nd dp (t + 1) (ga1 M v d t) (n + 1) (fun i => if i = n then t else it i) := by
  obtain ⟨h4, hn, hr, hi, hinj, hso, hco, hpc, hsm, hot⟩ := h
  have enc : (nI n).toNatClampNeg = n := nI_clamp (by omega)
  have hlt := itM_lt n (fun i h => by have := (hi i h).1; omega) (it := it)
  have hnot : ∀ j, j < n → it j ≠ t := by
    intro j hj e
    have hb := (hi j hj).2.2
    rw [e, hp] at hb
    rcases hb with z | z
    · omega
    · omega
  have hmb : (itM it n).testBit t = false := Bool.eq_false_iff.mpr (fun z => by
    obtain ⟨i, g1, g2⟩ := (itM_bit n t).mp z
    exact hnot i g1 g2)
  have eA : abV M v = abV m v := abV_3 hsm
  have e36 : M.1 36 v = m.1 36 v := hsm 36 v (by decide) (by decide)
  have e37 : M.1 37 v = m.1 37 v := hsm 37 v (by decide) (by decide)
  have r22 : (ga1 M v d t).1 22 0 = upd (M.1 22 0) n (nI t) := by
    have : (ga1 M v d t).1 22 0 = upd (M.1 22 0) (M.1 3 0 4).toNatClampNeg (nI t) := rfl
    rw [this, h4, enc]
  have r23 : (ga1 M v d t).1 23 0 = upd (M.1 23 0) n (m.1 36 v t) := by
    have : (ga1 M v d t).1 23 0 = upd (M.1 23 0) (M.1 3 0 4).toNatClampNeg (M.1 36 v t) := rfl
    rw [this, h4, enc, e36]
  have r24 : (ga1 M v d t).1 24 0 = upd (M.1 24 0) n (abV m v (80 + 4 * t + d)) := by
    have : (ga1 M v d t).1 24 0 = upd (M.1 24 0) (M.1 3 0 4).toNatClampNeg (abV M v (80 + 4 * t + d)) := rfl
    rw [this, h4, enc, eA]
  have r25 : (ga1 M v d t).1 25 0 = upd (M.1 25 0) n (m.1 37 v t) := by
    have : (ga1 M v d t).1 25 0 = upd (M.1 25 0) (M.1 3 0 4).toNatClampNeg (M.1 37 v t) := rfl
    rw [this, h4, enc, e37]
  have r3 : (ga1 M v d t).1 3 0 = upd (M.1 3 0) 4 (nI n + 1) := by
    have : (ga1 M v d t).1 3 0 = upd (M.1 3 0) 4 (M.1 3 0 4 + 1) := rfl
    rw [this, h4]
  refine ⟨by rw [r3, upd_eq, nI_1], by omega, fun j hj => ?_, fun j hj => ?_, fun i j hi' hj' => ?_, fun i j hij hj => ?_, fun t' ht' hF' hl => ?_, ?_, SM3_1 hsm, fun j hj => by rw [r3, upd_ne hj]; exact hot j hj⟩
  · rw [r22, r23, r24, r25]
    dsimp only
    by_cases c : j = n
    · rw [if_pos c, c, upd_eq, upd_eq, upd_eq, upd_eq]
      exact ⟨rfl, rfl, rfl, rfl⟩
    · rw [upd_ne c, upd_ne c, upd_ne c, upd_ne c, if_neg c]
      exact hr j (by omega)
  · show (if j = n then t else it j) < nt ∧ inS F (nI (if j = n then t else it j)) ∧ lxB (pcN (nd (if j = n then t else it j))) (if j = n then t else it j) dp (t + 1)
    by_cases c : j = n
    · rw [if_pos c]
      exact ⟨ht, hF, Or.inr ⟨hp, by omega⟩⟩
    · rw [if_neg c]
      obtain ⟨g1, g2, g3⟩ := hi j (by omega)
      exact ⟨g1, g2, lxB_up g3 (by omega)⟩
  · show (if i = n then t else it i) = (if j = n then t else it j) → i = j
    by_cases c : i = n <;> by_cases c' : j = n
    · intro _; omega
    · rw [if_pos c, if_neg c']
      exact fun e => absurd e.symm (hnot j (by omega))
    · rw [if_neg c, if_pos c']
      exact fun e => absurd e (hnot i (by omega))
    · rw [if_neg c, if_neg c']
      exact hinj i j (by omega) (by omega)
  · show pcN (nd (if i = n then t else it i)) ≤ pcN (nd (if j = n then t else it j))
    by_cases c' : j = n
    · rw [if_pos c']
      by_cases c : i = n
      · rw [if_pos c]; exact Nat.le_refl _
      · rw [if_neg c, hp]
        have := (hi i (by omega)).2.2
        unfold lxB at this
        omega
    · rw [if_neg c', if_neg (show ¬ i = n by omega)]
      exact hso i j hij (by omega)
  · by_cases c : t' = t
    · exact ⟨n, by omega, by show (if n = n then t else it n) = t'; rw [if_pos rfl, c]⟩
    · obtain ⟨j, g1, g2⟩ := hco t' ht' hF' (hl.imp id (fun z => ⟨z.1, by omega⟩))
      exact ⟨j, by omega, by show (if j = n then t else it j) = t'; rw [if_neg (by omega)]; exact g2⟩
  · rw [itM, itM_cg n (fun i hi => (show (if i = n then t else it i) = it i from if_neg (by omega)))]
    show pcN (itM it n ||| 2 ^ (if n = n then t else it n)) = n + 1
    rw [if_pos rfl, pc_or12 _ hlt t (by omega) hmb, hpc]
theorem GI_st {m : MM} {v d nt : Nat} {F : Int32} {nd : Nat → Nat} (hnt : nt ≤ 12) (hnd : ∀ t, t < nt → nd t < 4096 ∧ m.1 38 v t = nI (nd t)) {dp : Nat} (hdp : dp < 12) : ∀ k t M n it, t + k = nt → GIo m v d nt F nd dp t M n it → ∃ n' it', GIo m v d nt F nd dp nt (gaI F v d dp k t M) n' it'
  | 0, t, M, n, it, ht, h => by
    have : t = nt := by omega
    rw [gaI]
    rw [this] at h
    exact ⟨n, it, h⟩
  | k + 1, t, M, n, it, ht, h => by
    have htn : t < nt := by omega
    have h' := h
    obtain ⟨h4, hn, hr, hi, hinj, hso, hco, hpc, hsm, hot⟩ := h'
    rw [gaI, h4]
    by_cases c : nI n < 12
    · rw [if_pos c]
      have n12 : n < 12 := (nI_ltI (b := 12) (by omega) (by decide)).mp c
      obtain ⟨q1, q2⟩ := hnd t htn
      have e38 : M.1 38 v = m.1 38 v := hsm 38 v (by decide) (by decide)
      have pl := pc_le _ q1
      rw [e38, q2, nI_clamp (show nd t < 2 ^ 31 by omega)]
      by_cases c2 : inS F (nI t) ∧ nI (pcN (nd t)) = nI dp
      · rw [if_pos c2]
        exact GI_st hnt hnd hdp k (t + 1) _ _ _ (by omega) (ga_add hnt htn c2.1 (nI_inj (by omega) (by omega) c2.2) n12 h)
      · rw [if_neg c2]
        refine GI_st hnt hnd hdp k (t + 1) _ n it (by omega) ⟨h4, hn, hr, fun j hj => ?_, hinj, hso, fun t' ht' hF' hl => ?_, hpc, hsm, hot⟩
        · obtain ⟨g1, g2, g3⟩ := hi j hj
          exact ⟨g1, g2, lxB_up g3 (by omega)⟩
        · rcases hl with z | ⟨z1, z2⟩
          · exact hco t' ht' hF' (Or.inl z)
          · by_cases e : t' = t
            · rw [e] at hF' z1
              exact absurd ⟨hF', by rw [z1]⟩ c2
            · exact hco t' ht' hF' (Or.inr ⟨z1, by omega⟩)
    · rw [if_neg c]
      have n12 : n = 12 := by
        have : ¬ n < 12 := fun z => c ((nI_ltI (b := 12) (by omega) (by decide)).mpr z)
        omega
      refine ⟨n, it, h4, hn, hr, fun j hj => ?_, hinj, hso, fun t' ht' hF' hl => ?_, hpc, hsm, hot⟩
      · obtain ⟨g1, g2, g3⟩ := hi j hj
        exact ⟨g1, g2, lxB_up g3 (by omega)⟩
      · rw [n12] at hi hpc ⊢
        exact GI_all (fun i hi' => by have := (hi i hi').1; omega) hpc (by omega)
theorem GI_o {m : MM} {v d nt : Nat} {F : Int32} {nd : Nat → Nat} (hnt : nt ≤ 12) (hnd : ∀ t, t < nt → nd t < 4096 ∧ m.1 38 v t = nI (nd t)) : ∀ k dp M n it, dp + k = 12 → GIo m v d nt F nd dp 0 M n it → ∃ n' it', GIo m v d nt F nd 12 0 (gaO F v d nt k dp M) n' it'
  | 0, dp, M, n, it, hdp, h => by
    have : dp = 12 := by omega
    rw [gaO]
    rw [this] at h
    exact ⟨n, it, h⟩
  | k + 1, dp, M, n, it, hdp, h => by
    rw [gaO]
    obtain ⟨n', it', h4, hn, hr, hi, hinj, hso, hco, hpc, hsm, hot⟩ := GI_st hnt hnd (by omega) nt 0 M n it (by omega) h
    refine GI_o hnt hnd k (dp + 1) _ n' it' (by omega) ⟨h4, hn, hr, fun j hj => ?_, hinj, hso, fun t' ht' hF' hl => ?_, hpc, hsm, hot⟩
    · obtain ⟨g1, g2, g3⟩ := hi j hj
      refine ⟨g1, g2, Or.inl ?_⟩
      unfold lxB at g3
      omega
    · refine hco t' ht' hF' ?_
      unfold lxB at hl ⊢
      omega
/-- all that is gathered -/
theorem gth_ok {m : MM} {v s d ns nm nt : Nat} {nd : Nat → Nat} (hV : VC2 m v ns nm nt) (hnd : ∀ t, t < nt → nd t < 4096 ∧ m.1 38 v t = nI (nd t)) : ∃ n it, GIo m v d nt (gaF m v s) nd 12 0 (gaM m v s d) n it := by
  have hn : m.1 6 v 15 = nI nt := hV.1.2.2.1.1
  have hnt : nt ≤ 12 := hV.1.2.2.1.2
  unfold gaM
  rw [hn, nI_clamp (by omega)]
  refine GI_o hnt hnd 12 0 _ 0 (fun _ => 0) (by omega) ⟨mI_eq2, by decide, fun j hj => absurd hj (by omega), fun j hj => absurd hj (by omega), fun i j hi => absurd hi (by omega), fun i j _ hj => absurd hj (by omega), fun t ht hF hl => ?_, rfl, SM3_R (by decide) (SM3_r m), fun j hj => mI_ne hj⟩
  unfold lxB at hl
  omega

end
