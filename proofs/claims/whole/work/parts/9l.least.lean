/-! PART 9L: the model's plan is the least -/

noncomputable section
theorem sub_neg {p q : Nat} (hp : p < 2 ^ 31) (hq : q < 2 ^ 31) : nI p - nI q < 0 ↔ p < q := by
  rw [Int32.lt_iff_toInt_lt, nI_subI hp hq, show (0 : Int32).toInt = 0 from by decide]
  omega
theorem sub_le {p q : Nat} (hp : p < 2 ^ 31) (hq : q < 2 ^ 31) : 0 ≤ nI p - nI q ↔ q ≤ p := by
  rw [Int32.le_iff_toInt_le, nI_subI hp hq, show (0 : Int32).toInt = 0 from by decide]
  omega
theorem plF_g {a : Nat → Int32} {nt H i d : Nat} {w q : Int32} {LE : Nat → Nat → Prop} (h1 : ∀ Z X, Z < X → X < 4096 → okX a nt H i d w Z → okX a nt H i d w X → (lsB a i X (nI Z) q ↔ ¬ LE Z X)) (hr : ∀ Z, LE Z Z) (ht : ∀ X Y Z, LE X Y → LE Y Z → LE X Z) (hn : ∀ X Y, ¬ LE X Y → LE Y X) : ∀ k, k ≤ 4096 → (plF a nt H i d w q k = -1 ∧ ∀ Y, Y < k → ¬ okX a nt H i d w Y) ∨ ∃ Z, Z < k ∧ okX a nt H i d w Z ∧ plF a nt H i d w q k = nI Z ∧ ∀ Y, Y < k → okX a nt H i d w Y → LE Z Y
  | 0, _ => Or.inl ⟨rfl, fun Y hY => absurd hY (by omega)⟩
  | k + 1, hk => by
    have ih := plF_g h1 hr ht hn k (by omega)
    by_cases ok : okX a nt H i d w k
    · rcases ih with ⟨e, hno⟩ | ⟨Z, hZ, hok, e, hle⟩
      · have hl : lsB a i k (plF a nt H i d w q k) q := Or.inl e
        refine Or.inr ⟨k, by omega, ok, cI_t ⟨ok, hl⟩, fun Y hY hy => ?_⟩
        by_cases c : Y = k
        · rw [c]; exact hr k
        · exact absurd hy (hno Y (by omega))
      · have h := h1 Z k hZ (by omega) hok ok
        by_cases c : LE Z k
        · have hl : ¬ lsB a i k (plF a nt H i d w q k) q := by rw [e]; exact fun z => h.mp z c
          refine Or.inr ⟨Z, by omega, hok, (cI_f (fun z => hl z.2)).trans e, fun Y hY hy => ?_⟩
          by_cases c2 : Y = k
          · rw [c2]; exact c
          · exact hle Y (by omega) hy
        · have hl : lsB a i k (plF a nt H i d w q k) q := by rw [e]; exact h.mpr c
          refine Or.inr ⟨k, by omega, ok, cI_t ⟨ok, hl⟩, fun Y hY hy => ?_⟩
          by_cases c2 : Y = k
          · rw [c2]; exact hr k
          · exact ht k Z Y (hn Z k c) (hle Y (by omega) hy)
    · have e1 : plF a nt H i d w q (k + 1) = plF a nt H i d w q k := cI_f (fun z => ok z.1)
      rw [e1]
      rcases ih with ⟨e, hno⟩ | ⟨Z, hZ, hok, e, hle⟩
      · refine Or.inl ⟨e, fun Y hY => ?_⟩
        by_cases c : Y = k
        · rw [c]; exact ok
        · exact hno Y (by omega)
      · refine Or.inr ⟨Z, by omega, hok, e, fun Y hY hy => ?_⟩
        by_cases c : Y = k
        · rw [c] at hy; exact absurd hy ok
        · exact hle Y (by omega) hy
/-- least worth, fewest, first -/
theorem plF_0 {a : Nat → Int32} {nt H i d : Nat} {w : Int32} {su : Nat → Nat} (hsu : ∀ Y, Y < 4096 → su Y < 2 ^ 31 ∧ wtA a (nI Y) = nI (su Y)) (k : Nat) (hk : k ≤ 4096) : (plF a nt H i d w 0 k = -1 ∧ ∀ Y, Y < k → ¬ okX a nt H i d w Y) ∨ ∃ Z, Z < k ∧ okX a nt H i d w Z ∧ plF a nt H i d w 0 k = nI Z ∧ ∀ Y, Y < k → okX a nt H i d w Y → leS su Z Y := by
  refine plF_g (fun Z X hZX hX _ _ => ?_) (leS_r su) (fun _ _ _ => leS_t) (fun _ _ => leS_n) k hk
  obtain ⟨b1, e1⟩ := hsu X hX
  obtain ⟨b2, e2⟩ := hsu Z (by omega)
  have p1 := pc_le X hX
  have p2 := pc_le Z (by omega)
  unfold lsB
  rw [e1, e2, nI_clamp (show Z < 2 ^ 31 by omega), sub_neg b1 b2, sub_zero b1 b2, sub_le (by omega) (by omega)]
  have q0 : nI (su X) = nI (su Z) ↔ su X = su Z := nI_eq b1 b2
  rw [q0]
  unfold leS
  constructor
  · rintro (z | ⟨-, z⟩ | ⟨z, -⟩ | ⟨z, -⟩)
    · exact absurd z (nI_n1 (by omega))
    · omega
    · exact absurd rfl z
    · exact absurd rfl z
  · intro z
    refine Or.inr (Or.inl ⟨rfl, ?_⟩)
    omega
theorem plF_1 {a : Nat → Int32} {nt H i d : Nat} {w : Int32} (k : Nat) (hk : k ≤ 4096) : (plF a nt H i d w 1 k = -1 ∧ ∀ Y, Y < k → ¬ okX a nt H i d w Y) ∨ ∃ Z, Z < k ∧ okX a nt H i d w Z ∧ plF a nt H i d w 1 k = nI Z ∧ ∀ Y, Y < k → okX a nt H i d w Y → pcN Z ≤ pcN Y := by
  refine plF_g (LE := fun Z Y => pcN Z ≤ pcN Y) (fun Z X hZX hX _ _ => ?_) (fun _ => Nat.le_refl _) (fun _ _ _ h h' => Nat.le_trans h h') (fun X Y h => by omega) k hk
  have p1 := pc_le X hX
  have p2 := pc_le Z (by omega)
  unfold lsB
  rw [nI_clamp (show Z < 2 ^ 31 by omega), sub_le (by omega) (by omega)]
  constructor
  · rintro (z | ⟨z, -⟩ | ⟨-, -, z⟩ | ⟨-, z, -⟩)
    · exact absurd z (nI_n1 (by omega))
    · exact absurd z (by decide)
    · omega
    · exact absurd rfl z
  · intro z
    exact Or.inr (Or.inr (Or.inl ⟨by decide, rfl, by omega⟩))
theorem plF_2 {a : Nat → Int32} {nt H i d : Nat} {w : Int32} {wk : Nat → Nat} (hwk : ∀ Y, Y < 4096 → wk Y < 2 ^ 31 ∧ vwX a i Y = nI (wk Y)) (k : Nat) (hk : k ≤ 4096) : (plF a nt H i d w 2 k = -1 ∧ ∀ Y, Y < k → ¬ okX a nt H i d w Y) ∨ ∃ Z, Z < k ∧ okX a nt H i d w Z ∧ plF a nt H i d w 2 k = nI Z ∧ ∀ Y, Y < k → okX a nt H i d w Y → wk Z ≤ wk Y := by
  refine plF_g (LE := fun Z Y => wk Z ≤ wk Y) (fun Z X hZX hX _ _ => ?_) (fun _ => Nat.le_refl _) (fun _ _ _ h h' => Nat.le_trans h h') (fun X Y h => by omega) k hk
  obtain ⟨b1, e1⟩ := hwk X hX
  obtain ⟨b2, e2⟩ := hwk Z (by omega)
  have e1' : vwA a i (nI (pcN X)) = nI (wk X) := e1
  have e2' : vwA a i (nI (pcN Z)) = nI (wk Z) := e2
  unfold lsB
  rw [nI_clamp (show Z < 2 ^ 31 by omega), e1', e2', nI_leI b2 b1]
  constructor
  · rintro (z | ⟨z, -⟩ | ⟨-, z, -⟩ | ⟨-, -, z⟩)
    · exact absurd z (nI_n1 (by omega))
    · exact absurd z (by decide)
    · exact absurd z (by decide)
    · exact z
  · intro z
    exact Or.inr (Or.inr (Or.inr ⟨by decide, by decide, z⟩))
theorem leS_a {su : Nat → Nat} {X Y : Nat} (h : leS su X Y) (h' : leS su Y X) : X = Y := by
  unfold leS at h h'
  omega
/-- weeks for so many -/
def wkN (W T p : Nat) : Nat := if W - T < p then (p - (W - T) + W - 1) / W else 0
theorem vw_nI {a : Nat → Int32} {i W T p : Nat} (hW : 1 ≤ W ∧ W ≤ 9) (hT : T ≤ W) (eW : a 4 = nI W) (eT : a (14 + 4 * i) = nI T) (hp : p ≤ 12) : vwA a i (nI p) = nI (wkN W T p) := by
  unfold vwA wkN
  have e1 : nI W - nI T = nI (W - T) := nI_sb hT
  rw [eW, eT, e1]
  by_cases c : W - T < p
  · rw [if_pos c, if_pos (by rw [nI_ltI (by omega) (by omega)]; exact c), nI_sb (by omega), nI_add, show (1 : Int32) = nI 1 from rfl, nI_sb (by omega)]
    exact nIdv (by omega) (by omega) (by omega)
  · rw [if_neg c, if_neg (by rw [nI_ltI (by omega) (by omega)]; exact c)]
    rfl
/-- in so many weeks just so many can be given -/
theorem wk_room {W T p k : Nat} (hW : 1 ≤ W) : wkN W T p ≤ k ↔ p ≤ (W - T) + W * k := by
  unfold wkN
  by_cases c : W - T < p
  · rw [if_pos c]
    have := Nat.div_lt_iff_lt_mul (x := p - (W - T) + W - 1) (y := k + 1) (k := W) (by omega)
    rw [Nat.add_mul, Nat.one_mul, Nat.mul_comm k W] at this
    omega
  · rw [if_neg c]
    have : 0 ≤ W * k := Nat.zero_le _
    omega

end
