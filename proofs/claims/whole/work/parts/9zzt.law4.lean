/-! PART 9ZZT: the law's loop -/

noncomputable section
theorem law_stop {i L : Nat} (hL : L ≤ 3072) (hi : i ≤ L) : (nI L - nI 6 < nI i) ↔ L < i + 6 := by
  rw [Int32.lt_iff_toInt_lt, nI_subI (by omega) (by omega), nI_toInt (by omega)]
  omega
set_option maxRecDepth 20000 in
set_option maxHeartbeats 4000000 in
theorem law_loop {L : Nat} {xs : Nat → Int32} {X : KonT} (hL : L ≤ 3072) (h : RUN (P_L_head L xs) RRl X) (hc : ∀ j, j < 62 → ∀ (i : Nat) (mm : MM), INV mm → i + 6 ≤ L → (∀ M, INV M → X 12 (LSl i) [] M) → X (16 + j) (LSl i) [] mm) : ∀ (n i : Nat) (mm : MM), INV mm → i ≤ L → L ≤ i + 6 * n → X 0 (LSl i) [] mm := by
  intro n
  induction n with
  | zero =>
    intro i mm hI hi hn
    refine h (fun _ => false) 3000 0 _ _ _ ?_
    refine br_t ((law_stop hL hi).mpr (by omega)) ?_
    exact rfl
  | succ n ih =>
    intro i mm hI hi hn
    by_cases he : L < i + 6
    · refine h (fun _ => false) 3000 0 _ _ _ ?_
      refine br_t ((law_stop hL hi).mpr he) ?_
      exact rfl
    · have hk : ∀ M, INV M → X 12 (LSl i) [] M := fun M hM => by
        refine h (fun k => Nat.beq k 0) 3000 12 _ _ _ ?_
        show X 0 [some (vR 74 0), some (vR 11 0), some (vR 12 0), some (vI (nI i + nI 6))] [] M
        rw [nI_add]
        exact ih (i + 6) M hM (by omega) (by omega)
      refine h (fun k => Nat.ble 12 k) 3000 0 _ _ _ ?_
      refine br_f (fun z => he ((law_stop hL hi).mp z)) ?_
      refine And.intro (inb_nI (by omega) (by omega)) ?_
      refine And.intro ⟨fun _ => ?_, fun _ => ?_, fun _ => ?_, fun _ => ?_, fun _ => ?_, fun _ => ?_, fun _ => ?_, fun _ => ?_, fun _ => ?_, fun _ => ?_, fun _ => ?_, fun _ => ?_, fun _ => ?_, fun _ => ?_, fun _ => ?_, fun _ => ?_, fun _ => ?_, fun _ => ?_, fun _ => ?_, fun _ => ?_, fun _ => ?_, fun _ => ?_, fun _ => ?_, fun _ => ?_, fun _ => ?_, fun _ => ?_, fun _ => ?_, fun _ => ?_, fun _ => ?_, fun _ => ?_, fun _ => ?_, fun _ => ?_, fun _ => ?_, fun _ => ?_, fun _ => ?_, fun _ => ?_, fun _ => ?_, fun _ => ?_, fun _ => ?_, fun _ => ?_, fun _ => ?_, fun _ => ?_, fun _ => ?_, fun _ => ?_, fun _ => ?_, fun _ => ?_, fun _ => ?_, fun _ => ?_, fun _ => ?_, fun _ => ?_, fun _ => ?_, fun _ => ?_, fun _ => ?_, fun _ => ?_, fun _ => ?_, fun _ => ?_, fun _ => ?_, fun _ => ?_, fun _ => ?_, fun _ => ?_, fun _ => ?_, fun _ => ?_, trivial⟩ ?_
      · exact hc 0 (by decide) i mm hI (by omega) hk
      · exact hc 1 (by decide) i mm hI (by omega) hk
      · exact hc 2 (by decide) i mm hI (by omega) hk
      · exact hc 3 (by decide) i mm hI (by omega) hk
      · exact hc 4 (by decide) i mm hI (by omega) hk
      · exact hc 5 (by decide) i mm hI (by omega) hk
      · exact hc 6 (by decide) i mm hI (by omega) hk
      · exact hc 7 (by decide) i mm hI (by omega) hk
      · exact hc 8 (by decide) i mm hI (by omega) hk
      · exact hc 9 (by decide) i mm hI (by omega) hk
      · exact hc 10 (by decide) i mm hI (by omega) hk
      · exact hc 11 (by decide) i mm hI (by omega) hk
      · exact hc 12 (by decide) i mm hI (by omega) hk
      · exact hc 13 (by decide) i mm hI (by omega) hk
      · exact hc 14 (by decide) i mm hI (by omega) hk
      · exact hc 15 (by decide) i mm hI (by omega) hk
      · exact hc 16 (by decide) i mm hI (by omega) hk
      · exact hc 17 (by decide) i mm hI (by omega) hk
      · exact hc 18 (by decide) i mm hI (by omega) hk
      · exact hc 19 (by decide) i mm hI (by omega) hk
      · exact hc 20 (by decide) i mm hI (by omega) hk
      · exact hc 21 (by decide) i mm hI (by omega) hk
      · exact hc 22 (by decide) i mm hI (by omega) hk
      · exact hc 23 (by decide) i mm hI (by omega) hk
      · exact hc 24 (by decide) i mm hI (by omega) hk
      · exact hc 25 (by decide) i mm hI (by omega) hk
      · exact hc 26 (by decide) i mm hI (by omega) hk
      · exact hc 27 (by decide) i mm hI (by omega) hk
      · exact hc 28 (by decide) i mm hI (by omega) hk
      · exact hc 29 (by decide) i mm hI (by omega) hk
      · exact hc 30 (by decide) i mm hI (by omega) hk
      · exact hc 31 (by decide) i mm hI (by omega) hk
      · exact hc 32 (by decide) i mm hI (by omega) hk
      · exact hc 33 (by decide) i mm hI (by omega) hk
      · exact hc 34 (by decide) i mm hI (by omega) hk
      · exact hc 35 (by decide) i mm hI (by omega) hk
      · exact hc 36 (by decide) i mm hI (by omega) hk
      · exact hc 37 (by decide) i mm hI (by omega) hk
      · exact hc 38 (by decide) i mm hI (by omega) hk
      · exact hc 39 (by decide) i mm hI (by omega) hk
      · exact hc 40 (by decide) i mm hI (by omega) hk
      · exact hc 41 (by decide) i mm hI (by omega) hk
      · exact hc 42 (by decide) i mm hI (by omega) hk
      · exact hc 43 (by decide) i mm hI (by omega) hk
      · exact hc 44 (by decide) i mm hI (by omega) hk
      · exact hc 45 (by decide) i mm hI (by omega) hk
      · exact hc 46 (by decide) i mm hI (by omega) hk
      · exact hc 47 (by decide) i mm hI (by omega) hk
      · exact hc 48 (by decide) i mm hI (by omega) hk
      · exact hc 49 (by decide) i mm hI (by omega) hk
      · exact hc 50 (by decide) i mm hI (by omega) hk
      · exact hc 51 (by decide) i mm hI (by omega) hk
      · exact hc 52 (by decide) i mm hI (by omega) hk
      · exact hc 53 (by decide) i mm hI (by omega) hk
      · exact hc 54 (by decide) i mm hI (by omega) hk
      · exact hc 55 (by decide) i mm hI (by omega) hk
      · exact hc 56 (by decide) i mm hI (by omega) hk
      · exact hc 57 (by decide) i mm hI (by omega) hk
      · exact hc 58 (by decide) i mm hI (by omega) hk
      · exact hc 59 (by decide) i mm hI (by omega) hk
      · exact hc 60 (by decide) i mm hI (by omega) hk
      · exact hc 61 (by decide) i mm hI (by omega) hk
      · intro _
        exact hk mm hI

end
