/-! PART 9V: the same TOKENS are read -/

noncomputable section
def byN (n : Nat) : Int32 := (Int8.ofNat n).toInt32
set_option maxRecDepth 100000 in
theorem by_tb : ∀ n, n < 256 → (byN n &&& 255 = nI n) ∧ ((¬ byN n < 97 ∧ ¬ 122 < byN n) ↔ (97 ≤ n ∧ n ≤ 122)) ∧ ((¬ byN n < 48 ∧ ¬ 57 < byN n) ↔ (48 ≤ n ∧ n ≤ 57)) ∧ ((byN n = 10 ∨ byN n = 32) ↔ (n = 10 ∨ n = 32)) ∧ vp_nar .byte (byN n) = byN n ∧ (97 ≤ n → n ≤ 122 → byN n - 97 + 1 = nI (n - 96)) ∧ (48 ≤ n → n ≤ 57 → byN n - 48 = nI (n - 48)) ∧ sgK (byN n) = nI (if n = 59 then 33 else if n = 60 then 34 else if n = 61 then 36 else if n = 62 then 35 else 38) := by decide +kernel
theorem adv_cg {P Q : Nat → Prop} [DecidablePred P] [DecidablePred Q] (h : ∀ j, P j ↔ Q j) : ∀ f e, adv P f e = adv Q f e
  | 0, _ => rfl
  | f + 1, e => by rw [adv, adv, adv_cg h f (e + 1), ite_iff (h e)]
/-- both read the same bytes -/
def TBo (c M : MM) (S : Nat) (B : Nat → Nat) : Prop := (∀ j, B j < 256) ∧ (∀ j, j < S → c.1 26 0 j = byN (B j)) ∧ ∀ j, j < S → M.1 60 0 j = byN (B j)
theorem TB_b {c M : MM} {S : Nat} {B : Nat → Nat} (h : TBo c M S B) {j : Nat} (hj : j < S) : btF (M.1 60 0) S j = nI (B j) := by
  unfold btF
  rw [if_pos hj, h.2.2 j hj]
  exact (by_tb (B j) (h.1 j)).1
/-! words as numbers -/
def e27 (f : Nat → Nat) : Nat → Nat
  | 0 => 0
  | n + 1 => e27 f n * 27 + (f n - 96)
def e56 (f : Nat → Nat) : Nat → Nat
  | 0 => 0
  | n + 1 => e56 f n * 256 + f n
theorem e27_lt {f : Nat → Nat} {n : Nat} (h : ∀ i, i < n → 97 ≤ f i ∧ f i ≤ 122) : ∀ k, k ≤ n → e27 f k < 27 ^ k
  | 0, _ => by show 0 < 27 ^ 0; decide
  | k + 1, hk => by
    have := e27_lt h k (by omega)
    have h2 := h k (by omega)
    rw [e27, Nat.pow_succ]
    omega
theorem e56_lt {f : Nat → Nat} {n : Nat} (h : ∀ i, i < n → 97 ≤ f i ∧ f i ≤ 122) : ∀ k, k ≤ n → e56 f k ≤ 123 * 256 ^ (k - 1)
  | 0, _ => Nat.zero_le _
  | 1, hk => by
    have h2 := h 0 (by omega)
    show 0 * 256 + f 0 ≤ 123 * 1
    omega
  | k + 2, hk => by
    have := e56_lt h (k + 1) (by omega)
    have h2 := h (k + 1) (by omega)
    rw [e56]
    rw [show k + 1 - 1 = k by omega] at this
    rw [show k + 2 - 1 = k + 1 by omega, Nat.pow_succ]
    have hp : 0 < 256 ^ k := Nat.pow_pos (by decide)
    by_cases c : e56 f (k + 1) = 123 * 256 ^ k
    · exfalso
      have key : ∀ q, q ≤ k → e56 f (q + 1) < 123 * 256 ^ q := by
        intro q
        induction q with
        | zero =>
          intro _
          have h3 := h 0 (by omega)
          show 0 * 256 + f 0 < 123 * 1
          omega
        | succ q ih =>
          intro hq
          have i1 := ih (by omega)
          have h3 := h (q + 1) (by omega)
          rw [e56, Nat.pow_succ]
          omega
      have := key k (Nat.le_refl _)
      omega
    · omega
theorem e27_63 {f : Nat → Nat} {n : Nat} (h : ∀ i, i < n → 97 ≤ f i ∧ f i ≤ 122) (hn : n ≤ 8) : e27 f n < 2 ^ 40 := by
  have h1 := e27_lt h n (Nat.le_refl _)
  have h2 : 27 ^ n ≤ 27 ^ 8 := Nat.pow_le_pow_right (by decide) hn
  have h3 : (27 : Nat) ^ 8 < 2 ^ 40 := by decide
  omega
theorem e56_63 {f : Nat → Nat} {n : Nat} (h : ∀ i, i < n → 97 ≤ f i ∧ f i ≤ 122) (hn : n ≤ 8) : e56 f n < 2 ^ 63 := by
  have h1 := e56_lt h n (Nat.le_refl _)
  have h2 : 256 ^ (n - 1) ≤ 256 ^ 7 := Nat.pow_le_pow_right (by decide) (by omega)
  have h3 : 123 * (256 : Nat) ^ 7 < 2 ^ 63 := by decide
  have h4 : 123 * 256 ^ (n - 1) ≤ 123 * 256 ^ 7 := Nat.mul_le_mul_left _ h2
  omega
theorem e27_inj {f g : Nat → Nat} : ∀ n m, (∀ i, i < n → 97 ≤ f i ∧ f i ≤ 122) → (∀ i, i < m → 97 ≤ g i ∧ g i ≤ 122) → e27 f n = e27 g m → n = m ∧ ∀ i, i < n → f i = g i
  | 0, 0, _, _, _ => ⟨rfl, fun i hi => absurd hi (by omega)⟩
  | 0, m + 1, _, hg, e => by
    have := hg m (by omega)
    rw [e27, e27] at e
    omega
  | n + 1, 0, hf, _, e => by
    have := hf n (by omega)
    rw [e27, e27] at e
    omega
  | n + 1, m + 1, hf, hg, e => by
    have h1 := hf n (by omega)
    have h2 := hg m (by omega)
    rw [e27, e27] at e
    obtain ⟨i1, i2⟩ := e27_inj n m (fun i hi => hf i (by omega)) (fun i hi => hg i (by omega)) (by omega)
    subst i1
    refine ⟨rfl, fun i hi => ?_⟩
    by_cases c : i = n
    · rw [c]; omega
    · exact i2 i (by omega)
theorem e56_inj {f g : Nat → Nat} : ∀ n m, (∀ i, i < n → 97 ≤ f i ∧ f i ≤ 122) → (∀ i, i < m → 97 ≤ g i ∧ g i ≤ 122) → e56 f n = e56 g m → n = m ∧ ∀ i, i < n → f i = g i
  | 0, 0, _, _, _ => ⟨rfl, fun i hi => absurd hi (by omega)⟩
  | 0, m + 1, _, hg, e => by
    have := hg m (by omega)
    rw [e56, e56] at e
    omega
  | n + 1, 0, hf, _, e => by
    have := hf n (by omega)
    rw [e56, e56] at e
    omega
  | n + 1, m + 1, hf, hg, e => by
    have h1 := hf n (by omega)
    have h2 := hg m (by omega)
    rw [e56, e56] at e
    obtain ⟨i1, i2⟩ := e56_inj n m (fun i hi => hf i (by omega)) (fun i hi => hg i (by omega)) (by omega)
    subst i1
    refine ⟨rfl, fun i hi => ?_⟩
    by_cases c : i = n
    · rw [c]; omega
    · exact i2 i (by omega)
theorem e27_cg {f g : Nat → Nat} : ∀ n, (∀ i, i < n → f i = g i) → e27 f n = e27 g n
  | 0, _ => rfl
  | n + 1, h => by rw [e27, e27, e27_cg n (fun i hi => h i (by omega)), h n (by omega)]
theorem e56_cg {f g : Nat → Nat} : ∀ n, (∀ i, i < n → f i = g i) → e56 f n = e56 g n
  | 0, _ => rfl
  | n + 1, h => by rw [e56, e56, e56_cg n (fun i hi => h i (by omega)), h n (by omega)]
/-- the same word, as the class and as the model hold it -/
def RNo (x y : Int64) : Prop := ∃ (f : Nat → Nat) (n : Nat), 1 ≤ n ∧ n ≤ 8 ∧ (∀ i, i < n → 97 ≤ f i ∧ f i ≤ 122) ∧ x = lN (e27 f n) ∧ y = lN (e56 f n)
theorem RN_iff {x y x' y' : Int64} (h : RNo x y) (h' : RNo x' y') : x = x' ↔ y = y' := by
  obtain ⟨f, n, n1, n8, hf, rfl, rfl⟩ := h
  obtain ⟨g, m, m1, m8, hg, rfl, rfl⟩ := h'
  have a1 := e27_63 hf n8
  have a2 := e27_63 hg m8
  rw [pk_lEQ (by omega) (by omega), pk_lEQ (e56_63 hf n8) (e56_63 hg m8)]
  constructor
  · intro e
    obtain ⟨rfl, z⟩ := e27_inj n m hf hg e
    exact e56_cg n z
  · intro e
    obtain ⟨rfl, z⟩ := e56_inj n m hf hg e
    exact e27_cg n z
theorem RN_0 {x y : Int64} (h : RNo x y) : ¬ x = 0 := by
  obtain ⟨f, n, n1, n8, hf, rfl, rfl⟩ := h
  have a1 := e27_63 hf n8
  rw [show (0 : Int64) = lN 0 from rfl, pk_lEQ (by omega) (by decide)]
  obtain ⟨k, rfl⟩ : ∃ k, n = k + 1 := ⟨n - 1, by omega⟩
  have := hf k (by omega)
  rw [e27]
  omega
theorem lN_sh {a b : Nat} (hb : b < 256) : (lN a <<< ((8 : Int32).toInt64 &&& 63)) ||| lN b = lN (a * 256 + b) := by
  have e8 : ((8 : Int32).toInt64 &&& 63) = 8 := by decide
  rw [e8]
  apply Int64.toBitVec_inj.1
  show (BitVec.ofNat 64 a <<< ((8 : Int64).toBitVec.smod 64)) ||| BitVec.ofNat 64 b = BitVec.ofNat 64 (a * 256 + b)
  have e9 : ((8 : Int64).toBitVec.smod 64) = BitVec.ofNat 64 8 := by decide
  rw [e9]
  apply BitVec.eq_of_toNat_eq
  have hor : a * 256 + b = (a <<< 8) ||| b := by
    rw [← Nat.shiftLeft_add_eq_or_of_lt (i := 8) (by omega), Nat.shiftLeft_eq]
  rw [hor]
  have : (BitVec.ofNat 64 8).toNat = 8 := by decide
  rw [BitVec.toNat_or, BitVec.shiftLeft_eq', BitVec.toNat_shiftLeft, this, BitVec.toNat_ofNat, BitVec.toNat_ofNat, BitVec.toNat_ofNat, Nat.or_mod_two_pow, Nat.shiftLeft_eq, Nat.shiftLeft_eq, Nat.mod_mul_mod]
theorem w27_e {T : Nat → Int32} {B : Nat → Nat} {s n : Nat} (hB : ∀ i, i < n → B (s + i) < 256 ∧ T (s + i) = byN (B (s + i)) ∧ 97 ≤ B (s + i) ∧ B (s + i) ≤ 122) (hn : n ≤ 8) : ∀ k, k ≤ n → w27 T s k = lN (e27 (fun i => B (s + i)) k)
  | 0, _ => rfl
  | k + 1, hk => by
    obtain ⟨b1, b2, b3, b4⟩ := hB k (by omega)
    rw [w27, if_pos (by omega), w27_e hB hn k (by omega), b2, (by_tb _ b1).2.2.2.2.2.1 b3 b4, nI_l (by omega), show (27 : Int64) = lN 27 from rfl, lN_mul, lN_add]
    rfl
theorem nvL_e {T : Nat → Int32} {B : Nat → Nat} {S s n : Nat} (hB : ∀ i, i < n → btF T S (s + i) = nI (B (s + i)) ∧ B (s + i) < 256) : ∀ k, k ≤ n → nvL T S s k = lN (e56 (fun i => B (s + i)) k)
  | 0, _ => rfl
  | k + 1, hk => by
    obtain ⟨b1, b2⟩ := hB k (by omega)
    rw [nvL, nvL_e hB k (by omega), b1, nI_l (by omega), lN_sh b2]
    rfl
/-! own words -/
def kM (i : Nat) : Nat := ([0, 8, 9, 1, 10, 11, 12, 2, 13, 14, 3, 15, 4, 5, 6, 7, 16, 18, 20, 21, 22, 19, 17, 23, 27, 28, 29, 24, 25, 26] : List Nat).getD i 0
theorem kM_lt : ∀ i, i < 30 → kM i < 30 := by decide +kernel
theorem kM_inj : ∀ i, i < 30 → ∀ j, j < 30 → kM i = kM j → i = j := by decide +kernel
theorem kM_on : ∀ j, j < 30 → ∃ i, i < 30 ∧ kM i = j := by decide +kernel
theorem kw_ne : ∀ i, i < 30 → ∀ j, j < 30 → kwL i = kwL j → (∀ k, k < kwL i → kwC i k = kwC j k) → i = j := by decide +kernel
def OWo (c : MM) : Prop := ∀ i, i < 30 → c.2.1 27 0 i = lN (e27 (kwC (kM i)) (kwL (kM i)))
theorem kw_lt {j : Nat} (hj : j < 30) : (∀ i, i < kwL j → 97 ≤ kwC j i ∧ kwC j i ≤ 122) ∧ 1 ≤ kwL j ∧ kwL j ≤ 8 := by
  obtain ⟨-, h1, h2, -, h3⟩ := kw_ok j hj
  exact ⟨fun i hi => (h3 i hi).2, h2, h1⟩
theorem ow_kw {c : MM} {T : Nat → Int32} {S s e : Nat} {B : Nat → Nat} (hO : OWo c) (hB : ∀ i, i < e - s → btF T S (s + i) = nI (B (s + i)) ∧ 97 ≤ B (s + i) ∧ B (s + i) ≤ 122) (hn : e - s ≤ 8) {i : Nat} (hi : i < 30) : c.2.1 27 0 i = lN (e27 (fun i => B (s + i)) (e - s)) ↔ kwP T S s e (kM i) := by
  have hk := kM_lt i hi
  obtain ⟨k1, k2, k3⟩ := kw_lt hk
  have hf : ∀ j, j < e - s → 97 ≤ (fun i => B (s + i)) j ∧ (fun i => B (s + i)) j ≤ 122 := fun j hj => (hB j hj).2
  have a1 := e27_63 k1 k3
  have a2 := e27_63 hf hn
  rw [hO i hi, pk_lEQ (by omega) (by omega)]
  constructor
  · intro q
    obtain ⟨q1, q2⟩ := e27_inj _ _ k1 hf q
    exact ⟨q1, fun j hj => by rw [(hB j (by omega)).1, q2 j hj]⟩
  · rintro ⟨q1, q2⟩
    rw [q1]
    refine e27_cg _ (fun j hj => ?_)
    have h1 := q2 j (by omega)
    rw [(hB j hj).1] at h1
    have h3 := k1 j (by omega)
    have h4 := (hB j hj).2
    exact nI_inj (by omega) (by omega) h1
theorem kwP_u {T : Nat → Int32} {S s e i j : Nat} (hi : i < 30) (hj : j < 30) (h : kwP T S s e i) (h' : kwP T S s e j) : i = j := by
  refine kw_ne i hi j hj (h.1.trans h'.1.symm) (fun k hk => ?_)
  have e1 := h.2 k hk
  have e2 := h'.2 k (by rw [h'.1, ← h.1]; exact hk)
  have h1 := (kw_lt hi).1 k hk
  have h2 := (kw_lt hj).1 k (by rw [h'.1, ← h.1]; exact hk)
  exact nI_inj (by omega) (by omega) (e1.trans e2.symm)
/-- which own word it is, by both -/
theorem ow_ok {c : MM} {T : Nat → Int32} {S s e : Nat} {B : Nat → Nat} (hO : OWo c) (hB : ∀ i, i < e - s → btF T S (s + i) = nI (B (s + i)) ∧ 97 ≤ B (s + i) ∧ B (s + i) ≤ 122) (hn : e - s ≤ 8) : (ownK (c.2.1 27 0) (lN (e27 (fun i => B (s + i)) (e - s))) = 30 ∧ kwI T S s e = -1) ∨ ∃ i, i < 30 ∧ ownK (c.2.1 27 0) (lN (e27 (fun i => B (s + i)) (e - s))) = nI i ∧ kwI T S s e = nI (kM i) := by
  unfold ownK kwI
  have hkey := fun i hi => ow_kw (i := i) hO hB hn hi
  rcases fsI_in (fun i => c.2.1 27 0 i = lN (e27 (fun i => B (s + i)) (e - s))) 30 0 with ⟨e1, h1⟩ | ⟨i, -, hi, e1, p1, -⟩
  · rw [if_pos e1]
    refine Or.inl ⟨rfl, ?_⟩
    rcases @fsI_in (kwP T S s e) (fun j => kwD T S s e j) 30 0 with ⟨e2, -⟩ | ⟨j, -, hj, e2, p2, -⟩
    · exact e2
    · obtain ⟨i, hi, ei⟩ := kM_on j (by omega)
      exact absurd ((hkey i hi).mpr (by rw [ei]; exact p2)) (h1 i (by omega) (by omega))
  · rw [e1, if_neg (nI_n1 (by omega))]
    refine Or.inr ⟨i, by omega, rfl, ?_⟩
    have p1' := (hkey i (by omega)).mp p1
    rcases @fsI_in (kwP T S s e) (fun j => kwD T S s e j) 30 0 with ⟨e2, h2⟩ | ⟨j, -, hj, e2, p2, -⟩
    · exact absurd p1' (h2 (kM i) (by omega) (by have := kM_lt i (by omega); omega))
    · rw [e2, kwP_u (by omega) (kM_lt i (by omega)) p2 p1']
theorem kw_long {T : Nat → Int32} {S s e : Nat} (h : 8 < e - s) : kwI T S s e = -1 := by
  unfold kwI
  rcases @fsI_in (kwP T S s e) (fun j => kwD T S s e j) 30 0 with ⟨e2, -⟩ | ⟨j, -, hj, e2, p2, -⟩
  · exact e2
  · have := (kw_lt (show j < 30 by omega)).2.2
    have h1 := p2.1
    omega
/-- numbers of four digits -/
theorem nc_nv {T T' : Nat → Int32} {B : Nat → Nat} {S s n : Nat} (hB : ∀ i, i < n → B (s + i) < 256 ∧ T (s + i) = byN (B (s + i)) ∧ btF T' S (s + i) = nI (B (s + i)) ∧ 48 ≤ B (s + i) ∧ B (s + i) ≤ 57) (hn : n ≤ 4) : ∀ k, k ≤ n → nc4 T s k = nI (nvF T' S s k) ∧ nvF T' S s k < 10 ^ k
  | 0, _ => ⟨rfl, by show 0 < 1; decide⟩
  | k + 1, hk => by
    obtain ⟨b1, b2, b3, b4, b5⟩ := hB k (by omega)
    obtain ⟨i1, i2⟩ := nc_nv hB hn k (by omega)
    have hp : 10 ^ k ≤ 10 ^ 3 := Nat.pow_le_pow_right (by decide) (by omega)
    have hp3 : (10 : Nat) ^ 3 = 1000 := by decide
    have ed : dgt1 T' S (s + k) = B (s + k) - 48 := by unfold dgt1; rw [b3, nI_clamp (by omega)]
    rw [nc4, if_pos (by omega), i1, b2, (by_tb _ b1).2.2.2.2.2.2.1 b4 b5, show (10 : Int32) = nI 10 from rfl, pk_mul, nI_add, nvF, ed, Nat.pow_succ]
    have : min 100000 (10 * nvF T' S s k + (B (s + k) - 48)) = nvF T' S s k * 10 + (B (s + k) - 48) := by omega
    rw [this]
    exact ⟨rfl, by omega⟩
/-- the kinds of one TOKEN -/
def KND (c M : MM) : Prop := (∀ i, i < 30 → (c.1 4 0 6 = nI i ↔ kyA M = nI (kM i))) ∧ (c.1 4 0 6 = 37 ↔ M.1 12 0 12 = 0) ∧ (c.1 4 0 6 = 30 ↔ nmP M) ∧ (c.1 4 0 6 = 32 ↔ M.1 12 0 12 = 3) ∧ (c.1 4 0 6 = 33 ↔ sgP M 59) ∧ (c.1 4 0 6 = 34 ↔ sgP M 60) ∧ (c.1 4 0 6 = 35 ↔ sgP M 62) ∧ (c.1 4 0 6 = 36 ↔ sgP M 61) ∧ (c.1 4 0 6 = 38 ↔ M.1 12 0 12 = 1) ∧ (M.1 12 0 12 = 3 → ∃ v, v ≤ 9999 ∧ M.1 12 0 15 = nI v ∧ c.1 4 0 7 = nI v) ∧ (nmP M → RNo (c.2.1 4 0 8) (nmV M)) ∧ (kyA M = -1 ∨ ∃ i, i < 30 ∧ kyA M = nI (kM i)) ∧ ∃ k, k ≤ 38 ∧ c.1 4 0 6 = nI k
theorem KN_nw {c M : MM} {k t : Nat} (h6 : c.1 4 0 6 = nI k) (ht : M.1 12 0 12 = nI t) (hk : 30 < k) (hk2 : k ≤ 38) (ht5 : t < 5) (t2 : t ≠ 2) (h37 : k = 37 ↔ t = 0) (h32 : k = 32 ↔ t = 3) (h38 : k = 38 ↔ t = 1) (h33 : k = 33 ↔ (t = 4 ∧ M.1 12 0 15 = 59)) (h34 : k = 34 ↔ (t = 4 ∧ M.1 12 0 15 = 60)) (h35 : k = 35 ↔ (t = 4 ∧ M.1 12 0 15 = 62)) (h36 : k = 36 ↔ (t = 4 ∧ M.1 12 0 15 = 61)) (hn : t = 3 → ∃ v, v ≤ 9999 ∧ M.1 12 0 15 = nI v ∧ c.1 4 0 7 = nI v) : KND c M := by
  have E : ∀ q, q < 50 → (nI k = nI q ↔ k = q) := fun q hq => nI_eq (by omega) (by omega)
  have F : ∀ q, q < 50 → (nI t = nI q ↔ t = q) := fun q hq => nI_eq (by omega) (by omega)
  have n2 : ¬ M.1 12 0 12 = 2 := by rw [ht]; exact fun z => t2 ((F 2 (by decide)).mp z)
  have ky : kyA M = -1 := if_neg n2
  unfold KND
  rw [h6, ht, ky]
  refine ⟨fun i hi => ⟨fun z => absurd ((E i (by omega)).mp z) (by omega), fun z => absurd z.symm (nI_n1 (by have := kM_lt i hi; omega))⟩, (E 37 (by decide)).trans (h37.trans (F 0 (by decide)).symm), ⟨fun z => absurd ((E 30 (by decide)).mp z) (by omega), fun z => absurd z.1 n2⟩, (E 32 (by decide)).trans (h32.trans (F 3 (by decide)).symm), ?_, ?_, ?_, ?_, (E 38 (by decide)).trans (h38.trans (F 1 (by decide)).symm), fun z => hn ((F 3 (by decide)).mp z), fun z => absurd z.1 n2, Or.inl rfl, k, hk2, rfl⟩
  · refine (E 33 (by decide)).trans (h33.trans ?_)
    unfold sgP; rw [ht]; exact and_congr (F 4 (by decide)).symm Iff.rfl
  · refine (E 34 (by decide)).trans (h34.trans ?_)
    unfold sgP; rw [ht]; exact and_congr (F 4 (by decide)).symm Iff.rfl
  · refine (E 35 (by decide)).trans (h35.trans ?_)
    unfold sgP; rw [ht]; exact and_congr (F 4 (by decide)).symm Iff.rfl
  · refine (E 36 (by decide)).trans (h36.trans ?_)
    unfold sgP; rw [ht]; exact and_congr (F 4 (by decide)).symm Iff.rfl
theorem KN_w {c M : MM} {k : Nat} (h6 : c.1 4 0 6 = nI k) (ht : M.1 12 0 12 = 2) (hk : k ≤ 31) (ho : ∀ i, i < 30 → (k = i ↔ kyA M = nI (kM i))) (h30 : k = 30 ↔ nmP M) (hr : nmP M → RNo (c.2.1 4 0 8) (nmV M)) (hy : kyA M = -1 ∨ ∃ i, i < 30 ∧ kyA M = nI (kM i)) : KND c M := by
  have E : ∀ q, q < 50 → (nI k = nI q ↔ k = q) := fun q hq => nI_eq (by omega) (by omega)
  have nn : ∀ q, 31 < q → q < 50 → ¬ nI k = nI q := fun q h1 h2 z => by have := (E q h2).mp z; omega
  have n4 : ∀ x, ¬ sgP M x := fun x z => by have := z.1; rw [ht] at this; exact absurd this (by decide)
  unfold KND
  rw [h6]
  refine ⟨fun i hi => (E i (by omega)).trans (ho i hi), ⟨fun z => absurd z (nn 37 (by decide) (by decide)), fun z => by rw [ht] at z; exact absurd z (by decide)⟩, (E 30 (by decide)).trans h30, ⟨fun z => absurd z (nn 32 (by decide) (by decide)), fun z => by rw [ht] at z; exact absurd z (by decide)⟩, ⟨fun z => absurd z (nn 33 (by decide) (by decide)), fun z => absurd z (n4 _)⟩, ⟨fun z => absurd z (nn 34 (by decide) (by decide)), fun z => absurd z (n4 _)⟩, ⟨fun z => absurd z (nn 35 (by decide) (by decide)), fun z => absurd z (n4 _)⟩, ⟨fun z => absurd z (nn 36 (by decide) (by decide)), fun z => absurd z (n4 _)⟩, ⟨fun z => absurd z (nn 38 (by decide) (by decide)), fun z => by rw [ht] at z; exact absurd z (by decide)⟩, fun z => by rw [ht] at z; exact absurd z (by decide), hr, hy, k, by omega, rfl⟩
/-- where a TOKEN stands -/
def POS (c M : MM) (S : Nat) (B : Nat → Nat) (s e : Nat) : Prop := (c.1 4 0 2 = nI S ∧ M.1 12 0 11 = nI S ∧ S ≤ 900) ∧ (c.1 4 0 3 = nI e ∧ M.1 12 0 14 = nI e) ∧ (c.1 4 0 4 = nI s ∧ M.1 12 0 13 = nI s) ∧ s ≤ e ∧ e ≤ S ∧ TBo c M S B ∧ OWo c
def TKR (c M : MM) : Prop := KND c M ∧ ∃ S B s e, POS c M S B s e
set_option maxRecDepth 100000 in
theorem by_t2 : ∀ n, n < 256 → (isLt (nI n) ↔ (97 ≤ n ∧ n ≤ 122)) ∧ (isDg (nI n) ↔ (48 ≤ n ∧ n ≤ 57)) ∧ (isBl (nI n) ↔ (n = 10 ∨ n = 32)) ∧ ¬ nI n = -1 ∧ (isSg (nI n) ↔ (n = 59 ∨ n = 60 ∨ n = 61 ∨ n = 62)) := by decide +kernel
theorem rw_lx {c M : MM} {S : Nat} {B : Nat → Nat} (h : TBo c M S B) (s : Nat) : rwE (c.1 26 0) S s = tkL (M.1 60 0) S s ∧ rnE (c.1 26 0) S s = tkD (M.1 60 0) S s ∧ blE (c.1 26 0) S s = tkS (M.1 60 0) S s := by
  have key : ∀ j, (cLt (c.1 26 0) S j ↔ isLt (btF (M.1 60 0) S j)) ∧ (cDg (c.1 26 0) S j ↔ isDg (btF (M.1 60 0) S j)) ∧ (cBl (c.1 26 0) S j ↔ isBl (btF (M.1 60 0) S j)) := fun j => by
    by_cases hj : j < S
    · have hb := h.1 j
      obtain ⟨-, t1, t2, t3, -⟩ := by_tb (B j) hb
      obtain ⟨u1, u2, u3, -⟩ := by_t2 (B j) hb
      rw [TB_b h hj, u1, u2, u3]
      unfold cLt cDg cBl
      rw [h.2.1 j hj]
      exact ⟨⟨fun z => t1.mp z.2, fun z => ⟨hj, t1.mpr z⟩⟩, ⟨fun z => t2.mp z.2, fun z => ⟨hj, t2.mpr z⟩⟩, ⟨fun z => t3.mp z.2, fun z => ⟨hj, t3.mpr z⟩⟩⟩
    · unfold cLt cDg cBl
      rw [btF_n (show S ≤ j by omega)]
      refine ⟨⟨fun z => absurd z.1 hj, fun z => absurd z (by decide)⟩, ⟨fun z => absurd z.1 hj, fun z => absurd z (by decide)⟩, ⟨fun z => absurd z.1 hj, fun z => absurd z (by decide)⟩⟩
  exact ⟨adv_cg (fun j => (key j).1) _ _, adv_cg (fun j => (key j).2.1) _ _, adv_cg (fun j => (key j).2.2) _ _⟩
theorem adv_s {P : Nat → Prop} [DecidablePred P] {f e : Nat} (hf : 0 < f) (h : P e) : e < adv P f e := by
  obtain ⟨g, rfl⟩ : ∃ g, f = g + 1 := ⟨f - 1, by omega⟩
  rw [adv_y h]
  exact adv_ge P g (e + 1)
/-- the next TOKEN is the same -/
theorem lx_step {c M : MM} {S n : Nat} {B : Nat → Nat} (hS : S ≤ 900) (h2 : c.1 4 0 2 = nI S) (h3 : c.1 4 0 3 = nI n) (hn : n ≤ S) (h11 : M.1 12 0 11 = nI S) (h14 : M.1 12 0 14 = nI n) (hB : TBo c M S B) (hO : OWo c) : TKR (spM c) (ahM M) := by
  have eS : (nI S).toNatClampNeg = S := nI_clamp (by omega)
  have en : (nI n).toNatClampNeg = n := nI_clamp (by omega)
  have l0 := (rw_lx hB n).2.2
  have hs1 := tkS_ge (M.1 60 0) S n
  have hs2 := tkS_le (M.1 60 0) hn
  unfold spM ahM
  rw [h2, h3, h11, h14, eS, en, l0]
  revert hs1 hs2
  generalize tkS (M.1 60 0) S n = s
  intro hs1 hs2
  obtain ⟨l1, l2, -⟩ := rw_lx hB s
  obtain ⟨M', eM'⟩ : ∃ M', M' = tkM M s := ⟨_, rfl⟩
  have m11 : M'.1 12 0 11 = nI S := by rw [eM']; exact h11
  have m60 : M'.1 60 0 = M.1 60 0 := by rw [eM']; rfl
  have m12 : M'.1 12 0 12 = tkK (M.1 60 0) S s := by
    rw [eM']
    show tkK (M.1 60 0) (M.1 12 0 11).toNatClampNeg s = _
    rw [h11, eS]
  have m13 : M'.1 12 0 13 = nI s := by rw [eM']; rfl
  have m14 : M'.1 12 0 14 = nI (tkE (M.1 60 0) S s) := by
    rw [eM']
    show nI (tkE (M.1 60 0) (M.1 12 0 11).toNatClampNeg s) = _
    rw [h11, eS]
  have m15 : M'.1 12 0 15 = tkV (M.1 60 0) S s := by
    rw [eM']
    show tkV (M.1 60 0) (M.1 12 0 11).toNatClampNeg s = _
    rw [h11, eS]
  rw [← eM']
  have fin : ∀ (c' : MM) (e : Nat), KND c' M' → tkE (M.1 60 0) S s = e → s ≤ e → e ≤ S → c'.1 4 0 2 = c.1 4 0 2 → c'.1 4 0 3 = nI e → c'.1 4 0 4 = nI s → c'.1 26 0 = c.1 26 0 → c'.2.1 27 0 = c.2.1 27 0 → TKR c' M' := fun c' e k1 k2 k3 k4 k5 k6 k7 k8 k9 => by
    refine ⟨k1, S, B, s, e, ⟨k5.trans h2, m11, hS⟩, ⟨k6, by rw [m14, k2]⟩, ⟨k7, m13⟩, k3, k4, ⟨hB.1, fun j hj => by rw [k8]; exact hB.2.1 j hj, fun j hj => by rw [m60]; exact hB.2.2 j hj⟩, fun i hi => by rw [k9]; exact hO i hi⟩
  unfold sp2
  by_cases c1 : S ≤ s
  · -- the end
    rw [if_pos c1]
    have eb : btF (M.1 60 0) S s = -1 := btF_n c1
    have eK : tkK (M.1 60 0) S s = nI 0 := by unfold tkK; rw [if_pos eb]; rfl
    have eE : tkE (M.1 60 0) S s = s := by unfold tkE; rw [if_pos eb]
    refine fin _ s (KN_nw (k := 37) (t := 0) rfl (m12.trans eK) (by omega) (by omega) (by omega) (by omega) (by omega) (by omega) (by omega) ⟨fun z => absurd z (by decide), fun z => absurd z.1 (by decide)⟩ ⟨fun z => absurd z (by decide), fun z => absurd z.1 (by decide)⟩ ⟨fun z => absurd z (by decide), fun z => absurd z.1 (by decide)⟩ ⟨fun z => absurd z (by decide), fun z => absurd z.1 (by decide)⟩ (fun z => absurd z (by decide))) eE (Nat.le_refl s) hs2 rfl rfl rfl rfl rfl
  · rw [if_neg c1]
    have hsS : s < S := by omega
    have eb := TB_b hB hsS
    have hb := hB.1 s
    obtain ⟨u1, u2, u3, u4, u5⟩ := by_t2 (B s) hb
    have nb : ¬ btF (M.1 60 0) S s = -1 := by rw [eb]; exact u4
    by_cases cl : isLt (btF (M.1 60 0) S s)
    · -- a word
      have hlt : s < tkL (M.1 60 0) S s := adv_s (by omega) cl
      have hle : tkL (M.1 60 0) S s ≤ S := by
        have := adv_le (fun j => isLt (btF (M.1 60 0) S j)) (S - s) s
        unfold tkL
        omega
      have eK : tkK (M.1 60 0) S s = 2 := by unfold tkK; rw [if_neg nb, if_pos cl]
      have eE : tkE (M.1 60 0) S s = tkL (M.1 60 0) S s := by unfold tkE; rw [if_neg nb, if_pos cl]
      have hall : ∀ i, i < tkL (M.1 60 0) S s - s → btF (M.1 60 0) S (s + i) = nI (B (s + i)) ∧ 97 ≤ B (s + i) ∧ B (s + i) ≤ 122 := fun i hi => by
        have h1 : isLt (btF (M.1 60 0) S (s + i)) := adv_all (P := fun j => isLt (btF (M.1 60 0) S j)) (S - s) s (s + i) (by omega) (by show s + i < tkL (M.1 60 0) S s; omega)
        have h2 := TB_b hB (show s + i < S by omega)
        rw [h2] at h1
        exact ⟨h2, (by_t2 _ (hB.1 _)).1.mp h1⟩
      rw [l1, if_pos hlt]
      have q6 : (rwM (seM c s) s).1 4 0 6 = rwK (c.1 26 0) (c.2.1 27 0) s (tkL (M.1 60 0) S s) := by
        show rwK (c.1 26 0) (c.2.1 27 0) s (rwE (c.1 26 0) (c.1 4 0 2).toNatClampNeg s) = _
        rw [h2, eS, l1]
      have q3 : (rwM (seM c s) s).1 4 0 3 = nI (tkL (M.1 60 0) S s) := by
        show nI (rwE (c.1 26 0) (c.1 4 0 2).toNatClampNeg s) = _
        rw [h2, eS, l1]
      have q8 : (rwM (seM c s) s).2.1 4 0 8 = w27 (c.1 26 0) s (tkL (M.1 60 0) S s - s) := by
        show w27 (c.1 26 0) s (rwE (c.1 26 0) (c.1 4 0 2).toNatClampNeg s - s) = _
        rw [h2, eS, l1]
      rw [eE] at m14
      revert hlt hle eE hall q6 q3 q8 m14
      generalize tkL (M.1 60 0) S s = e
      intro m14 hlt hle eE hall q6 q3 q8
      refine fin _ e ?_ eE (by omega) hle rfl q3 rfl rfl rfl
      have m12' : M'.1 12 0 12 = 2 := m12.trans eK
      have eky : kyA M' = kwI (M.1 60 0) S s e := by
        unfold kyA txS txs txe
        rw [if_pos m12', m60, m11, m13, m14, eS, nI_clamp (by omega), nI_clamp (by omega)]
      have enm : nmP M' ↔ (e - s ≤ 8 ∧ kyA M' = -1) := by
        unfold nmP txs txe
        rw [m13, m14, nI_clamp (by omega), nI_clamp (by omega)]
        exact ⟨fun z => z.2, fun z => ⟨m12', z⟩⟩
      unfold rwK at q6
      by_cases c8 : 8 < e - s
      · rw [if_pos c8] at q6
        have e1 : kyA M' = -1 := eky.trans (kw_long c8)
        have nn : ¬ nmP M' := fun z => by have := (enm.mp z).1; omega
        exact KN_w (k := 31) q6 m12' (by omega) (fun i hi => ⟨fun z => by omega, fun z => absurd (e1.symm.trans z).symm (nI_n1 (by have := kM_lt i hi; omega))⟩) ⟨fun z => by omega, fun z => absurd z nn⟩ (fun z => absurd z nn) (Or.inl e1)
      · rw [if_neg c8] at q6
        have ew : w27 (c.1 26 0) s (e - s) = lN (e27 (fun i => B (s + i)) (e - s)) := w27_e (n := e - s) (fun i hi => ⟨hB.1 _, hB.2.1 _ (by omega), (hall i hi).2⟩) (by omega) _ (Nat.le_refl _)
        rw [ew] at q6 q8
        rcases ow_ok hO hall (by omega) with ⟨o1, o2⟩ | ⟨i, hi, o1, o2⟩
        · have e1 : kyA M' = -1 := eky.trans o2
          have yy : nmP M' := enm.mpr ⟨by omega, e1⟩
          refine KN_w (k := 30) (q6.trans o1) m12' (by omega) (fun i hi => ⟨fun z => by omega, fun z => absurd (e1.symm.trans z).symm (nI_n1 (by have := kM_lt i hi; omega))⟩) ⟨fun _ => yy, fun _ => rfl⟩ (fun _ => ?_) (Or.inl e1)
          refine ⟨fun i => B (s + i), e - s, by omega, by omega, fun i hi => (hall i hi).2, q8, ?_⟩
          unfold nmV txS txs txe
          rw [m60, m11, m13, m14, eS, nI_clamp (by omega), nI_clamp (by omega)]
          exact nvL_e (n := e - s) (fun i hi => ⟨(hall i hi).1, hB.1 _⟩) _ (Nat.le_refl _)
        · have e1 : kyA M' = nI (kM i) := eky.trans o2
          have hk := kM_lt i hi
          have nn : ¬ nmP M' := fun z => nI_n1 (show kM i < 2 ^ 31 by omega) (e1.symm.trans (enm.mp z).2)
          refine KN_w (k := i) (q6.trans o1) m12' (by omega) (fun j hj => ?_) ⟨fun z => by omega, fun z => absurd z nn⟩ (fun z => absurd z nn) (Or.inr ⟨i, hi, e1⟩)
          rw [e1]
          have hj' := kM_lt j hj
          exact ⟨fun z => by rw [z], fun z => kM_inj i hi j hj (nI_inj (by omega) (by omega) z)⟩
    · have nl : tkL (M.1 60 0) S s = s := adv_n (P := fun j => isLt (btF (M.1 60 0) S j)) cl
      rw [l1, nl, if_neg (Nat.lt_irrefl s), l2]
      have r2 : (rwM (seM c s) s).1 4 0 2 = nI S := h2
      by_cases cd : isDg (btF (M.1 60 0) S s)
      · -- a number
        have hlt : s < tkD (M.1 60 0) S s := adv_s (by omega) cd
        have hle : tkD (M.1 60 0) S s ≤ S := by
          have := adv_le (fun j => isDg (btF (M.1 60 0) S j)) (S - s) s
          unfold tkD
          omega
        have eK : tkK (M.1 60 0) S s = if tkD (M.1 60 0) S s - s ≤ 4 then 3 else 1 := by unfold tkK; rw [if_neg nb, if_neg cl, if_pos cd]
        have eE : tkE (M.1 60 0) S s = tkD (M.1 60 0) S s := by unfold tkE; rw [if_neg nb, if_neg cl, if_pos cd]
        have eV : tkV (M.1 60 0) S s = nI (nvF (M.1 60 0) S s (tkD (M.1 60 0) S s - s)) := by unfold tkV; rw [if_pos cd]
        have hall : ∀ i, i < tkD (M.1 60 0) S s - s → B (s + i) < 256 ∧ c.1 26 0 (s + i) = byN (B (s + i)) ∧ btF (M.1 60 0) S (s + i) = nI (B (s + i)) ∧ 48 ≤ B (s + i) ∧ B (s + i) ≤ 57 := fun i hi => by
          have h1 : isDg (btF (M.1 60 0) S (s + i)) := adv_all (P := fun j => isDg (btF (M.1 60 0) S j)) (S - s) s (s + i) (by omega) (by show s + i < tkD (M.1 60 0) S s; omega)
          have h2 := TB_b hB (show s + i < S by omega)
          rw [h2] at h1
          exact ⟨hB.1 _, hB.2.1 _ (by omega), h2, (by_t2 _ (hB.1 _)).2.1.mp h1⟩
        rw [if_pos hlt]
        have q6 : (rnM (rwM (seM c s) s) s).1 4 0 6 = if 4 < tkD (M.1 60 0) S s - s then 38 else 32 := by
          show (if 4 < rnE (c.1 26 0) (c.1 4 0 2).toNatClampNeg s - s then (38 : Int32) else 32) = _
          rw [h2, eS, l2]
        have q3 : (rnM (rwM (seM c s) s) s).1 4 0 3 = nI (tkD (M.1 60 0) S s) := by
          show nI (rnE (c.1 26 0) (c.1 4 0 2).toNatClampNeg s) = _
          rw [h2, eS, l2]
        have q7 : (rnM (rwM (seM c s) s) s).1 4 0 7 = nc4 (c.1 26 0) s (tkD (M.1 60 0) S s - s) := by
          show nc4 (c.1 26 0) s (rnE (c.1 26 0) (c.1 4 0 2).toNatClampNeg s - s) = _
          rw [h2, eS, l2]
        rw [eK] at m12
        rw [eV] at m15
        revert hlt hle eE hall q6 q3 q7 m12 m15
        generalize tkD (M.1 60 0) S s = e
        intro m12 m15 hlt hle eE hall q6 q3 q7
        refine fin _ e ?_ eE (by omega) hle rfl q3 rfl rfl rfl
        by_cases c4 : 4 < e - s
        · rw [if_pos c4] at q6
          rw [if_neg (by omega)] at m12
          exact KN_nw (k := 38) (t := 1) q6 m12 (by omega) (by omega) (by omega) (by omega) (by omega) (by omega) (by omega) ⟨fun z => absurd z (by decide), fun z => absurd z.1 (by decide)⟩ ⟨fun z => absurd z (by decide), fun z => absurd z.1 (by decide)⟩ ⟨fun z => absurd z (by decide), fun z => absurd z.1 (by decide)⟩ ⟨fun z => absurd z (by decide), fun z => absurd z.1 (by decide)⟩ (fun z => absurd z (by decide))
        · rw [if_neg c4] at q6
          rw [if_pos (by omega)] at m12
          obtain ⟨n1, n2⟩ := nc_nv (T := c.1 26 0) (T' := M.1 60 0) (S := S) hall (by omega) (e - s) (Nat.le_refl _)
          have hp : 10 ^ (e - s) ≤ 10 ^ 4 := Nat.pow_le_pow_right (by decide) (by omega)
          have hp4 : (10 : Nat) ^ 4 = 10000 := by decide
          exact KN_nw (k := 32) (t := 3) q6 m12 (by omega) (by omega) (by omega) (by omega) (by omega) (by omega) (by omega) ⟨fun z => absurd z (by decide), fun z => absurd z.1 (by decide)⟩ ⟨fun z => absurd z (by decide), fun z => absurd z.1 (by decide)⟩ ⟨fun z => absurd z (by decide), fun z => absurd z.1 (by decide)⟩ ⟨fun z => absurd z (by decide), fun z => absurd z.1 (by decide)⟩ (fun _ => ⟨_, by omega, m15, q7.trans n1⟩)
      · -- a sign
        have nd : tkD (M.1 60 0) S s = s := adv_n (P := fun j => isDg (btF (M.1 60 0) S j)) cd
        have eK : tkK (M.1 60 0) S s = if isSg (btF (M.1 60 0) S s) then 4 else 1 := by unfold tkK; rw [if_neg nb, if_neg cl, if_neg cd]
        have eE : tkE (M.1 60 0) S s = s + 1 := by unfold tkE; rw [if_neg nb, if_neg cl, if_neg cd]
        have eV : tkV (M.1 60 0) S s = nI (B s) := by unfold tkV; rw [if_neg cd, eb]
        rw [nd, if_neg (Nat.lt_irrefl s)]
        rw [eK, eb] at m12
        rw [eV] at m15
        have q6 : (mI (mI (rnM (rwM (seM c s) s) s) 4 0 6 (sgK (c.1 26 0 s))) 4 0 3 (nI (s + 1))).1 4 0 6 = nI (if B s = 59 then 33 else if B s = 60 then 34 else if B s = 61 then 36 else if B s = 62 then 35 else 38) := by
          show sgK (c.1 26 0 s) = _
          rw [hB.2.1 s hsS]
          exact (by_tb _ hb).2.2.2.2.2.2.2
        have v15 : ∀ q, q < 256 → (M'.1 12 0 15 = nI q ↔ B s = q) := fun q hq => by
          rw [m15]
          exact nI_eq (by omega) (by omega)
        refine fin _ (s + 1) ?_ eE (by omega) (by omega) rfl rfl rfl rfl rfl
        have v59 := v15 59 (by decide)
        have v60 := v15 60 (by decide)
        have v61 := v15 61 (by decide)
        have v62 := v15 62 (by decide)
        by_cases cs : isSg (nI (B s))
        · rw [if_pos cs] at m12
          have hsg := u5.mp cs
          refine KN_nw (t := 4) q6 m12 (by split <;> (try split) <;> (try split) <;> (try split) <;> omega) (by split <;> (try split) <;> (try split) <;> (try split) <;> omega) (by omega) (by omega) ?_ ?_ ?_ ?_ ?_ ?_ ?_ (fun z => absurd z (by decide))
          all_goals (first | (show _ ↔ (4 = 4 ∧ M'.1 12 0 15 = nI 59); rw [v59]) | (show _ ↔ (4 = 4 ∧ M'.1 12 0 15 = nI 60); rw [v60]) | (show _ ↔ (4 = 4 ∧ M'.1 12 0 15 = nI 62); rw [v62]) | (show _ ↔ (4 = 4 ∧ M'.1 12 0 15 = nI 61); rw [v61]) | skip)
          all_goals (rcases hsg with z | z | z | z <;> rw [z] <;> decide)
        · rw [if_neg cs] at m12
          have nsg : ¬ (B s = 59 ∨ B s = 60 ∨ B s = 61 ∨ B s = 62) := fun z => cs (u5.mpr z)
          have e38 : (if B s = 59 then 33 else if B s = 60 then 34 else if B s = 61 then 36 else if B s = 62 then 35 else 38) = 38 := by
            rw [if_neg (by omega), if_neg (by omega), if_neg (by omega), if_neg (by omega)]
          rw [e38] at q6
          exact KN_nw (k := 38) (t := 1) q6 m12 (by omega) (by omega) (by omega) (by omega) (by omega) (by omega) (by omega) ⟨fun z => absurd z (by decide), fun z => absurd z.1 (by decide)⟩ ⟨fun z => absurd z (by decide), fun z => absurd z.1 (by decide)⟩ ⟨fun z => absurd z (by decide), fun z => absurd z.1 (by decide)⟩ ⟨fun z => absurd z (by decide), fun z => absurd z.1 (by decide)⟩ (fun z => absurd z (by decide))
/-- and from a TOKEN on -/
theorem TK_sp {c M : MM} (h : TKR c M) : TKR (spM c) (ahM M) := by
  obtain ⟨-, S, B, s, e, ⟨h2, h11, hS⟩, ⟨h3, h14⟩, -, -, he, hB, hO⟩ := h
  exact lx_step hS h2 h3 he h11 h14 hB hO

end
