/-! PART 11: sets as numbers -/
theorem nIand (a b : Nat) : nI a &&& nI b = nI (a &&& b) := by
  apply Int32.toBitVec_inj.1
  show BitVec.ofNat 32 a &&& BitVec.ofNat 32 b = BitVec.ofNat 32 (a &&& b)
  apply BitVec.eq_of_getLsbD_eq
  intro i hi
  simp [hi]
theorem nIor (a b : Nat) : nI a ||| nI b = nI (a ||| b) := by
  apply Int32.toBitVec_inj.1
  show BitVec.ofNat 32 a ||| BitVec.ofNat 32 b = BitVec.ofNat 32 (a ||| b)
  apply BitVec.eq_of_getLsbD_eq
  intro i hi
  simp [hi]
theorem nIxor (a b : Nat) : nI a ^^^ nI b = nI (a ^^^ b) := by
  apply Int32.toBitVec_inj.1
  show BitVec.ofNat 32 a ^^^ BitVec.ofNat 32 b = BitVec.ofNat 32 (a ^^^ b)
  apply BitVec.eq_of_getLsbD_eq
  intro i hi
  simp [hi]
theorem sh31 : ∀ n, n < 32 → ((nI n &&& 31).toBitVec.smod 32).toNat = n := by decide +kernel
theorem nIbit {j : Nat} (h : j < 31) : (1 : Int32) <<< (nI j &&& 31) = nI (2 ^ j) := by
  have h2 : (2 : Nat) ^ j < 2 ^ 32 := Nat.pow_lt_pow_right (by decide) (by omega)
  have := pk_shlN (n := 1) (nI j &&& 31) j (sh31 j (by omega)) (by omega)
  rw [Nat.one_mul] at this
  exact this
theorem nIshr {a j : Nat} (ha : a < 2 ^ 31) (h : j < 32) : nI a >>> (nI j &&& 31) = nI (a / 2 ^ j) := pk_shrN ha _ j (sh31 j h)
/-- how many are in a set of the first twelve -/
def pcN (n : Nat) : Nat := ((List.range 12).map fun i => n / 2 ^ i % 2).sum
set_option maxRecDepth 100000 in
theorem pc_step : ∀ k, k < 4096 → k ≠ 0 → pcN k = pcN (k &&& (k - 1)) + 1 ∧ (k &&& (k - 1)) < 4096 := by decide +kernel
set_option maxRecDepth 100000 in
theorem pc_le : ∀ k, k < 4096 → pcN k ≤ 12 := by decide +kernel
theorem pc_zero {k : Nat} (hk : k < 4096) (h : pcN k = 0) : k = 0 := by
  rcases Nat.eq_zero_or_pos k with e | e
  · exact e
  · have := (pc_step k hk (by omega)).1
    omega

