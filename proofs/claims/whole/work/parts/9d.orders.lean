/-! PART 9D: the orders of a set: the class's row of parts, and the model's recursion -/

noncomputable section
theorem ndn_self {P t : Nat} (hP : P < 4096) : ndn P (2 ^ t) = P ↔ ¬ P.testBit t = true := by
  constructor
  · intro e h
    have := ndn_bit (X := P) (H := 2 ^ t) (j := t) (by omega)
    rw [e, h, Nat.testBit_two_pow_self] at this
    exact Bool.noConfusion this
  · intro h
    refine Nat.eq_of_testBit_eq (fun j => ?_)
    rw [ndn_bit (by omega)]
    by_cases e : t = j
    · rw [← e, Bool.eq_false_iff.mpr h, Bool.false_and]
    · rw [Nat.testBit_two_pow_of_ne e, Bool.not_false, Bool.and_true]
theorem ow_sm {m : MM} {g P nt : Nat} {a : Nat → Int32} (hP : P < 4096) (hnt : nt ≤ 12) (ha : ∀ t, t < nt → a (46 + 3 * t) = m.1 37 g t) : ∀ k t, t + k = nt → owL m g (nI P) k t (smF 0 (m.2.1 52 0) a P t) = smF 0 (m.2.1 52 0) a P nt
  | 0, t, h => by rw [owL, show t = nt by omega]
  | k + 1, t, h => by
    have ih := ow_sm hP hnt ha k (t + 1) (by omega)
    have e1 : nI P &&& (1 <<< (nI t &&& 31) ^^^ (-1)) = nI (ndn P (2 ^ t)) := by rw [nIbit (by omega), nI_ndn]
    have hlt : ndn P (2 ^ t) < 4096 := by unfold ndn; exact Nat.lt_of_le_of_lt Nat.and_le_left hP
    rw [owL, e1, nI_clamp (show ndn P (2 ^ t) < 2 ^ 31 by omega)]
    by_cases c : P.testBit t = true
    · have e2 : ndn P (2 ^ t) = P ^^^ 2 ^ t := ndn_p2 (by omega) c
      have n1 : ¬ nI (ndn P (2 ^ t)) = nI P := fun z => (ndn_self hP).mp (nI_inj (by omega) (by omega) z) c
      rw [if_neg n1, e2]
      rw [e2] at hlt
      by_cases c2 : woO a t (P ^^^ 2 ^ t)
      · rw [smF_y ⟨c, c2⟩] at ih
        rw [if_pos (by rw [← ha t (by omega)]; exact c2)]
        exact ih
      · rw [smF_n (fun z => c2 z.2)] at ih
        rw [if_neg (fun z => c2 (by unfold woO; rw [ha t (by omega)]; exact z))]
        exact ih
    · rw [if_pos (congrArg nI ((ndn_self hP).mpr c))]
      rw [smF_n (fun z => c z.1)] at ih
      exact ih
/-- the rows of the parts below p are right -/
def OR (m : MM) (a : Nat → Int32) (nt S p : Nat) : Prop := ∀ Q, Q < p → ndn Q S = 0 → m.2.1 52 0 Q = wo a nt Q
theorem ow_wo {m : MM} {P nt S : Nat} {a : Nat → Int32} (hP0 : 0 < P) (hP : P < 4096) (hnt : nt ≤ 12) (hn : m.1 6 (m.2.2 0) 15 = nI nt) (ha : ∀ t, t < nt → a (46 + 3 * t) = m.1 37 (m.2.2 0) t) (hS : ndn P S = 0) (h : OR m a nt S P) : owC m (nI P) = wo a nt P := by
  unfold owC
  rw [hn, nI_clamp (by omega), wo_eq, if_neg (show ¬ P = 0 by omega)]
  have z := ow_sm hP hnt ha nt 0 (by omega)
  refine z.trans ?_
  have key : ∀ t, t ≤ nt → smF 0 (m.2.1 52 0) a P t = smF 0 (wo a nt) a P t := by
    intro t
    induction t with
    | zero => exact fun _ => rfl
    | succ t ih =>
      intro ht
      by_cases c : P.testBit t = true ∧ woO a t (P ^^^ 2 ^ t)
      · rw [smF_y c, smF_y c, ih (by omega)]
        have hsub : ndn (P ^^^ 2 ^ t) S = 0 := by
          rw [ndn_0 (Nat.lt_trans (xor_lt c.1) (by omega))]
          intro j hj
          have e2 : ndn P (2 ^ t) = P ^^^ 2 ^ t := ndn_p2 (by omega) c.1
          rw [← e2, ndn_bit (by omega), Bool.and_eq_true] at hj
          exact (ndn_0 (by omega)).mp hS j hj.1
        rw [h _ (xor_lt c.1) hsub]
      · rw [smF_n c, smF_n c, ih (by omega)]
  exact key nt (Nat.le_refl _)
/-- only the row of parts moved -/
def SM52 (m m' : MM) : Prop := m'.1 = m.1 ∧ (∀ k g, k ≠ 52 → m'.2.1 k g = m.2.1 k g) ∧ m'.2.2 = m.2.2
theorem SM52_r (m : MM) : SM52 m m := ⟨rfl, fun _ _ _ => rfl, rfl⟩
theorem SM52_t {a b c : MM} (h : SM52 a b) (h' : SM52 b c) : SM52 a c := ⟨h'.1.trans h.1, fun k g z => (h'.2.1 k g z).trans (h.2.1 k g z), h'.2.2.trans h.2.2⟩
theorem SM52_R {m : MM} {f : Nat → Int64} : SM52 m (mRowL m 52 0 f) := ⟨rfl, fun _ _ z => if_neg (fun y => z y.1), rfl⟩
theorem coL_ok {nt S : Nat} {a : Nat → Int32} (hS : S < 4096) (hnt : nt ≤ 12) : ∀ k p m, p + k = 4096 → 1 ≤ p → p ≤ S + 1 → m.1 6 (m.2.2 0) 15 = nI nt → (∀ t, t < nt → a (46 + 3 * t) = m.1 37 (m.2.2 0) t) → OR m a nt S p → (coL (nI S) k p m).2.1 52 0 S = wo a nt S ∧ SM52 m (coL (nI S) k p m)
  | 0, p, m, hp, h1, h2, hn, ha, h => by
    have : p = 4096 := by omega
    rw [coL]
    refine ⟨h S (by omega) ((ndn_0 (by omega)).mpr (fun j hj => hj)), SM52_r m⟩
  | k + 1, p, m, hp, h1, h2, hn, ha, h => by
    rw [coL]
    by_cases c : nI S < nI p
    · rw [if_pos c]
      rw [nI_ltI (by omega) (by omega)] at c
      exact ⟨h S c ((ndn_0 (by omega)).mpr (fun j hj => hj)), SM52_r m⟩
    · rw [if_neg c]
      rw [nI_ltI (by omega) (by omega)] at c
      have e : nI p &&& (nI S ^^^ (-1)) = 0 ↔ ndn p S = 0 := by
        have hlt : ndn p S < 4096 := by unfold ndn; exact Nat.lt_of_le_of_lt Nat.and_le_left (by omega)
        rw [nI_ndn, show (0 : Int32) = nI 0 from rfl]
        exact nI_eq (by omega) (by omega)
      by_cases c2 : nI p &&& (nI S ^^^ (-1)) = 0
      · rw [if_pos c2]
        have hw := ow_wo (by omega) (by omega) hnt hn ha (e.mp c2) h
        obtain ⟨M, eM⟩ : ∃ M, M = mRowL m 52 0 (vp_updL (m.2.1 52 0) p (owC m (nI p))) := ⟨_, rfl⟩
        have hM : SM52 m M := by rw [eM]; exact SM52_R
        have hrow : M.2.1 52 0 = vp_updL (m.2.1 52 0) p (owC m (nI p)) := by rw [eM]; exact mRowL_row2 _ _ _ _
        rw [← eM]
        have z := coL_ok hS hnt k (p + 1) M (by omega) (by omega) (by omega) (by rw [hM.1, hM.2.2]; exact hn) (by rw [hM.1, hM.2.2]; exact ha) (fun Q hQ hs => by
          rw [hrow]
          by_cases c3 : Q = p
          · rw [c3, pk_uLs]; exact hw
          · rw [pk_uLn c3]; exact h Q (by omega) hs)
        exact ⟨z.1, SM52_t hM z.2⟩
      · rw [if_neg c2]
        exact coL_ok hS hnt k (p + 1) m (by omega) (by omega) (by omega) hn ha (fun Q hQ hs => by
          by_cases c3 : Q = p
          · rw [c3] at hs; exact absurd (e.mpr hs) c2
          · exact h Q (by omega) hs)
/-- the class counts the orders that the model counts -/
theorem co_wo {m : MM} {nt S : Nat} {a : Nat → Int32} (hS : S < 4096) (hnt : nt ≤ 12) (hn : m.1 6 (m.2.2 0) 15 = nI nt) (ha : ∀ t, t < nt → a (46 + 3 * t) = m.1 37 (m.2.2 0) t) : (coA m (nI S)).2.1 52 0 S = wo a nt S ∧ SM52 m (coA m (nI S)) := by
  unfold coA
  obtain ⟨M, eM⟩ : ∃ M, M = mRowL m 52 0 (vp_updL (m.2.1 52 0) 0 1) := ⟨_, rfl⟩
  have hM : SM52 m M := by rw [eM]; exact SM52_R
  have hrow : M.2.1 52 0 = vp_updL (m.2.1 52 0) 0 1 := by rw [eM]; exact mRowL_row2 _ _ _ _
  rw [← eM]
  have z := coL_ok (a := a) hS hnt 4095 1 M (by omega) (by omega) (by omega) (by rw [hM.1, hM.2.2]; exact hn) (by rw [hM.1, hM.2.2]; exact ha) (fun Q hQ _ => by
    have : Q = 0 := by omega
    rw [this, hrow, pk_uLs]
    exact (show (1 : Int64) = wo a nt 0 from rfl))
  exact ⟨z.1, SM52_t hM z.2⟩

end
