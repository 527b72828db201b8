/-! PART 9B: a told valley's bounds; the class's forms are the model's -/

noncomputable section
/-- what a text can tell, and what can have been done since -/
def BO (a : Nat → Int32) (ns nm nt : Nat) : Prop := (∀ s, s < ns → ∃ g, g ≤ 99 ∧ a (12 + 4 * s) = nI g) ∧ WBo a nt ∧ (∀ t d, t < nt → d < 4 → ∃ y, y ≤ 99 ∧ a (80 + 4 * t + d) = nI y) ∧ (∀ t, t < nt → ∃ A, A < 4096 ∧ a (46 + 3 * t) = nI A ∧ ∀ o, A.testBit o = true → o < nt ∧ a (44 + 3 * o) = a (44 + 3 * t)) ∧ (∃ G, G < 4096 ∧ a 8 = nI G ∧ ∀ t, G.testBit t = true → t < nt ∧ ∀ A, A < 4096 → a (46 + 3 * t) = nI A → ∀ o, A.testBit o = true → G.testBit o = true) ∧ (∃ F, F < 4096 ∧ a 9 = nI F)
theorem nI_inj {p q : Nat} (hp : p < 2 ^ 31) (hq : q < 2 ^ 31) (h : nI p = nI q) : p = q := (nI_eq hp hq).mp h
theorem nI_tI {p : Nat} (hp : p < 2 ^ 31) : (nI p).toInt = (p : Int) := by
  have := Int32.toInt_ofNat_of_lt (n := p) (by omega)
  exact this
theorem nI_subI {p q : Nat} (hp : p < 2 ^ 31) (hq : q < 2 ^ 31) : (nI p - nI q).toInt = (p : Int) - q := by
  rw [Int32.toInt_sub, nI_tI hp, nI_tI hq]
  exact Int.bmod_eq_of_le (by omega) (by omega)
theorem sub_pos {p q : Nat} (hp : p < 2 ^ 31) (hq : q < 2 ^ 31) : 0 < nI p - nI q ↔ nI q < nI p := by
  rw [Int32.lt_iff_toInt_lt, Int32.lt_iff_toInt_lt, nI_subI hp hq, nI_tI hp, nI_tI hq, show (0 : Int32).toInt = 0 from by decide]
  omega
theorem sub_zero {p q : Nat} (hp : p < 2 ^ 31) (hq : q < 2 ^ 31) : nI p - nI q = 0 ↔ nI p = nI q := by
  constructor
  · intro h
    have h2 := nI_subI hp hq
    rw [h, show (0 : Int32).toInt = 0 from by decide] at h2
    rw [show p = q by omega]
  · intro h
    rw [h]
    exact Int32.sub_self _
theorem sayS_le {a : Nat → Int32} {nt d : Nat} (x : Int32) (h : ∀ t, t < nt → ∃ y, y ≤ 99 ∧ a (80 + 4 * t + d) = nI y) : ∀ n, n ≤ nt → ∃ v, v ≤ 99 * n ∧ sayS a x d n = nI v
  | 0, _ => ⟨0, by omega, rfl⟩
  | n + 1, hn => by
    obtain ⟨v, hv, e⟩ := sayS_le x h n (by omega)
    obtain ⟨w, hw, ew⟩ := h n (by omega)
    rw [sayS, e]
    by_cases hc : inS x (nI n)
    · rw [if_pos hc, ew, nI_add]
      exact ⟨v + w, by omega, rfl⟩
    · rw [if_neg hc, show (0 : Int32) = nI 0 from rfl, nI_add]
      exact ⟨v, by omega, rfl⟩
theorem syA_le {a : Nat → Int32} {ns nm nt : Nat} (hV : VA a ns nm nt) (hB : BO a ns nm nt) (x : Int32) {d : Nat} (hd : d < 4) : ∃ v, v ≤ 1188 ∧ syA a x d = nI v := by
  have h12 := hV.2.2.1.2
  unfold syA
  rw [hV.2.2.1.1, nI_clamp (by omega)]
  obtain ⟨v, hv, e⟩ := sayS_le (a := a) (d := d) x (fun t ht => hB.2.2.1 t d ht hd) nt (Nat.le_refl _)
  exact ⟨v, by omega, e⟩
theorem BO_HB {a : Nat → Int32} {ns nm nt : Nat} (hV : VA a ns nm nt) (hB : BO a ns nm nt) : HBo a := by
  intro s d hd
  obtain ⟨p, hp, e1⟩ := syA_le hV hB (thA a s &&& (a 8 ||| a 9)) hd
  obtain ⟨q, hq, e2⟩ := syA_le hV hB (thA a s) hd
  exact ⟨p, q, by omega, by omega, e1, e2⟩
theorem th_st {a : Nat → Int32} {ns nm nt : Nat} (hV : VA a ns nm nt) (s : Int32) : thA a s = nI (stN (fun j => a (44 + 3 * j) = s) nt) ∧ stN (fun j => a (44 + 3 * j) = s) nt < 4096 := by
  have h12 := hV.2.2.1.2
  refine ⟨?_, Nat.lt_of_lt_of_le (stN_lt _ nt) (Nat.pow_le_pow_right (n := 2) (by omega) h12)⟩
  unfold thA
  rw [hV.2.2.1.1, nI_clamp (by omega)]
  exact gds_st a s nt (by omega)
theorem BO_HS {a : Nat → Int32} {ns nm nt : Nat} (hV : VA a ns nm nt) : HSo a := by
  intro s
  obtain ⟨e, hlt⟩ := th_st hV s
  unfold hsA
  rw [e]
  obtain ⟨W, hW, eW⟩ := ands hlt (a 8 ^^^ (-1))
  rw [eW]
  obtain ⟨W', hW', eW'⟩ := ands hW (a 9 ^^^ (-1))
  exact ⟨W', hW', eW'⟩
/-- whom a maid has rather: by differences or by comparing -/
theorem pf_ah {a : Nat → Int32} {ns nm nt : Nat} (hV : VA a ns nm nt) (hB : BO a ns nm nt) {d s o : Nat} (hd : d < 4) (hs : s < ns) (ho : o < ns) : pfP a d s o ↔ ahP a d s o := by
  obtain ⟨p, -, hp, -, ep, -⟩ := BO_HB hV hB (nI s) d hd
  obtain ⟨q, -, hq, -, eq, -⟩ := BO_HB hV hB (nI o) d hd
  obtain ⟨g, hg, eg⟩ := hB.1 s hs
  obtain ⟨f, hf, ef⟩ := hB.1 o ho
  unfold pfP ahP
  rw [ep, eq, eg, ef, sub_pos hp hq, sub_zero hp hq, sub_pos (by omega) (by omega), sub_zero (by omega) (by omega)]
  by_cases c : nI p = nI q
  · rw [if_pos c, c]
    have irr : ¬ nI q < nI q := Int32.lt_irrefl
    by_cases c2 : nI g = nI f
    · rw [if_pos c2, c2]
      have irr2 : ¬ nI f < nI f := Int32.lt_irrefl
      constructor
      · rintro (z | ⟨-, z | ⟨-, z⟩⟩)
        · exact absurd z irr
        · exact absurd z irr2
        · exact Int32.not_le.mp z
      · exact fun z => Or.inr ⟨rfl, Or.inr ⟨rfl, Int32.not_le.mpr z⟩⟩
    · rw [if_neg c2]
      constructor
      · rintro (z | ⟨-, z | ⟨z, -⟩⟩)
        · exact absurd z irr
        · exact z
        · exact absurd z c2
      · exact fun z => Or.inr ⟨rfl, Or.inl z⟩
  · rw [if_neg c]
    constructor
    · rintro (z | ⟨z, -⟩)
      · exact z
      · exact absurd z c
    · exact fun z => Or.inl z
theorem wh_ch {a : Nat → Int32} {ns nm nt : Nat} (hV : VA a ns nm nt) (hB : BO a ns nm nt) {d : Nat} (hd : d < 4) : ∀ n, n ≤ ns → whA a d n = chA a d n
  | 0, _ => rfl
  | n + 1, hn => by
    have h4 := hV.1.2
    have e := wh_ch hV hB hd n (by omega)
    rw [whA, chA, e]
    refine ite_iff ?_ _ _
    refine and_congr Iff.rfl (or_congr Iff.rfl ?_)
    have hlt : ∀ n, n ≤ ns → (chA a d n).toNatClampNeg < ns ∨ chA a d n = -1 := by
      intro k
      induction k with
      | zero => exact fun _ => Or.inr rfl
      | succ k ih =>
        intro hk
        rw [chA]
        split
        · exact Or.inl (by rw [nI_clamp (by omega)]; omega)
        · exact ih (by omega)
    rcases hlt n (by omega) with q | q
    · exact pf_ah hV hB hd (by omega) q
    · rw [q, show (-1 : Int32).toNatClampNeg = 0 by decide]
      exact pf_ah hV hB hd (by omega) (by omega)
theorem ds_bf {a : Nat → Int32} {set : Int32} {P : Nat → Prop} [DecidablePred P] {d nt : Nat} (h : ∀ t, t < nt → (inS set (nI t) ↔ P t)) : ∀ n, n ≤ nt → dsA a set d n = dsG a P d n
  | 0, _ => rfl
  | n + 1, hn => by
    rw [dsA, dsG, ds_bf h n (by omega)]
    exact ite_iff (and_congr (h n (by omega)) Iff.rfl) _ _
theorem inS_or {x y : Int32} {t : Nat} (ht : t < 31) : inS (x ||| y) (nI t) ↔ inS x (nI t) ∨ inS y (nI t) := by
  rw [inS_bit ht, inS_bit ht, inS_bit ht, ← Bool.or_eq_true, ← Nat.testBit_or]
  exact Iff.rfl
theorem inS_and {x y : Int32} {t : Nat} (ht : t < 31) : inS (x &&& y) (nI t) ↔ inS x (nI t) ∧ inS y (nI t) := by
  rw [inS_bit ht, inS_bit ht, inS_bit ht, ← Bool.and_eq_true, ← Nat.testBit_and]
  exact Iff.rfl
theorem inS_not {x : Int32} {t : Nat} (ht : t < 31) : inS (x ^^^ (-1)) (nI t) ↔ ¬ inS x (nI t) := by
  rw [inS_bit ht, inS_bit ht]
  have e : (x ^^^ (-1)).toBitVec.toNat = x.toBitVec.toNat ^^^ 4294967295 := by
    show (x.toBitVec ^^^ (-1 : Int32).toBitVec).toNat = _
    rw [BitVec.toNat_xor]
    rfl
  rw [e, Nat.testBit_xor, M_bit]
  have : decide (t < 32) = true := decide_eq_true (by omega)
  rw [this]
  cases x.toBitVec.toNat.testBit t <;> decide
theorem inS_th {a : Nat → Int32} {ns nm nt : Nat} (hV : VA a ns nm nt) (s : Int32) {t : Nat} (ht : t < 31) : inS (thA a s) (nI t) ↔ t < nt ∧ a (44 + 3 * t) = s := by
  obtain ⟨e, hlt⟩ := th_st hV s
  rw [e, inS_nI (by omega) ht]
  exact stN_bit _ nt t
theorem hs_bf {a : Nat → Int32} {ns nm nt : Nat} (hV : VA a ns nm nt) (s : Int32) {t : Nat} (ht : t < nt) : inS (hsA a s) (nI t) ↔ bfP a s t := by
  have h12 := hV.2.2.1.2
  unfold hsA bfP
  rw [inS_and (by omega), inS_and (by omega), inS_not (by omega), inS_not (by omega), inS_th hV s (by omega)]
  unfold tsA
  constructor
  · rintro ⟨⟨⟨-, h1⟩, h2⟩, h3⟩
    rw [if_neg h2, if_neg h3]
    exact ⟨h1, rfl⟩
  · rintro ⟨h1, h2⟩
    by_cases c1 : inS (a 8) (nI t)
    · rw [if_pos c1] at h2; exact absurd h2 (by decide)
    · rw [if_neg c1] at h2
      by_cases c2 : inS (a 9) (nI t)
      · rw [if_pos c2] at h2; exact absurd h2 (by decide)
      · exact ⟨⟨⟨ht, h1⟩, c1⟩, c2⟩
/-- the dearest: by the set of what he has, or one by one -/
theorem bf_ds {a : Nat → Int32} {ns nm nt : Nat} (hV : VA a ns nm nt) (s : Int32) (d : Nat) : dsA a (hsA a s) d nt = bfA a s d nt := ds_bf (fun _ ht => hs_bf hV s ht) nt (Nat.le_refl _)
theorem stN_cg {P Q : Nat → Prop} [DecidablePred P] [DecidablePred Q] : ∀ n, (∀ j, j < n → (P j ↔ Q j)) → stN P n = stN Q n
  | 0, _ => rfl
  | n + 1, h => by
    rw [stN, stN, stN_cg n (fun j hj => h j (by omega)), ite_iff (h n (by omega))]
theorem fi_st (a : Nat → Int32) (x : Int32) : ∀ n, n ≤ 31 → fiC a x n = nI (stN (fun j => inS x (nI j) ∧ a (46 + 3 * j) &&& x = 0) n)
  | 0, _ => rfl
  | n + 1, h => st_or _ (fi_st a x n (by omega)) (by omega)
theorem en_st (a : Nat → Int32) (g w : Int32) : ∀ n, n ≤ 31 → enS a g w n = nI (stN (fun j => inS g (nI j) ∧ ((w = 0 ∧ a (46 + 3 * j) = 0) ∨ (¬ w = 0 ∧ bhA a j (a 2).toNatClampNeg = 0))) n)
  | 0, _ => rfl
  | n + 1, h => st_or _ (en_st a g w n (by omega)) (by omega)
/-- what a suitor has given, as a set -/
theorem gv_st {a : Nat → Int32} {ns nm nt : Nat} (hV : VA a ns nm nt) (hB : BO a ns nm nt) (s : Int32) : ∃ X, X < 4096 ∧ thA a s &&& a 8 = nI X ∧ ∀ t, X.testBit t = true ↔ (t < nt ∧ a (44 + 3 * t) = s ∧ inS (a 8) (nI t)) := by
  have h12 := hV.2.2.1.2
  obtain ⟨e, hlt⟩ := th_st hV s
  obtain ⟨G, hG, eG, hc⟩ := hB.2.2.2.2.1
  refine ⟨stN (fun j => a (44 + 3 * j) = s) nt &&& G, Nat.lt_of_le_of_lt Nat.and_le_left hlt, by rw [e, eG, nIand], fun t => ?_⟩
  rw [Nat.testBit_and, Bool.and_eq_true, stN_bit]
  constructor
  · rintro ⟨⟨h1, h2⟩, h3⟩
    exact ⟨h1, h2, by rw [eG, inS_nI (by omega) (by omega)]; exact h3⟩
  · rintro ⟨h1, h2, h3⟩
    rw [eG, inS_nI (by omega) (by omega)] at h3
    exact ⟨⟨h1, h2⟩, h3⟩
theorem en_fi {a : Nat → Int32} {ns nm nt : Nat} (hV : VA a ns nm nt) (hB : BO a ns nm nt) (s : Int32) : enS a (thA a s &&& a 8) 0 nt = fiC a (thA a s &&& a 8) nt := by
  have h12 := hV.2.2.1.2
  obtain ⟨X, hX, eX, hb⟩ := gv_st hV hB s
  rw [en_st _ _ _ _ (by omega), fi_st _ _ _ (by omega), eX]
  refine congrArg nI (stN_cg nt (fun j hj => ?_))
  rw [inS_nI (by omega) (by omega)]
  refine and_congr_right (fun hx => ?_)
  obtain ⟨A, hA, eA, ho⟩ := hB.2.2.2.1 j hj
  obtain ⟨G, hG, eG, hc⟩ := hB.2.2.2.2.1
  have hjx := (hb j).mp hx
  have hAX : A &&& X < 4096 := Nat.lt_of_le_of_lt Nat.and_le_left hA
  have q1 : nI A = nI 0 ↔ A = 0 := nI_eq (by omega) (by omega)
  have q2 : nI (A &&& X) = nI 0 ↔ A &&& X = 0 := nI_eq (by omega) (by omega)
  rw [eA, nIand, show (0 : Int32) = nI 0 from rfl, q1, q2]
  constructor
  · rintro (⟨-, z⟩ | ⟨z, -⟩)
    · rw [z, Nat.zero_and]
    · exact absurd rfl z
  · intro z
    refine Or.inl ⟨rfl, ?_⟩
    refine Nat.eq_of_testBit_eq (fun o => ?_)
    rw [Nat.zero_testBit]
    refine Bool.eq_false_iff.mpr (fun hA' => ?_)
    obtain ⟨h1, h2⟩ := ho o hA'
    have hg : G.testBit j = true := by
      have := hjx.2.2
      rw [eG, inS_nI (by omega) (by omega)] at this
      exact this
    have hgo := (hc j hg).2 A hA eA o hA'
    have hx' : X.testBit o = true := (hb o).mpr ⟨h1, h2.trans hjx.2.1, by rw [eG, inS_nI (by omega) (by omega)]; exact hgo⟩
    have hand : (A &&& X).testBit o = true := by rw [Nat.testBit_and, hA', hx']; rfl
    rw [z, Nat.zero_testBit] at hand
    exact Bool.noConfusion hand
/-- what no one of the given stands behind -/
theorem la_bit {a : Nat → Int32} {ns nm nt X : Nat} (hB : BO a ns nm nt) (hnt : nt ≤ 12) (hX : X < 4096) : ∀ n, n ≤ nt → ∃ L, L < 4096 ∧ laC a (nI X) n = nI L ∧ ∀ j, L.testBit j = true ↔ (X.testBit j = true ∧ ∀ t A, t < n → X.testBit t = true → A < 4096 → a (46 + 3 * t) = nI A → ¬ A.testBit j = true)
  | 0, _ => ⟨X, hX, rfl, fun j => ⟨fun z => ⟨z, fun t A ht => absurd ht (by omega)⟩, fun z => z.1⟩⟩
  | n + 1, hn => by
    obtain ⟨L, hL, eL, hb⟩ := la_bit hB hnt hX n (by omega)
    obtain ⟨A, hA, eA, -⟩ := hB.2.2.2.1 n (by omega)
    rw [laC, eL, eA, nI_ndn]
    by_cases c : inS (nI X) (nI n)
    · rw [if_pos c]
      have hxn : X.testBit n = true := (inS_nI (by omega) (by omega)).mp c
      have hlt : ndn L A < 4096 := by unfold ndn; exact Nat.lt_of_le_of_lt Nat.and_le_left hL
      refine ⟨ndn L A, hlt, rfl, fun j => ?_⟩
      rw [ndn_bit (by omega), Bool.and_eq_true, hb j, Bool.not_eq_true']
      constructor
      · rintro ⟨⟨h1, h2⟩, h3⟩
        refine ⟨h1, fun t A' ht hx hA' eA' => ?_⟩
        by_cases e : t = n
        · rw [e, eA] at eA'
          rw [← nI_inj (by omega) (by omega) eA', h3]
          exact Bool.false_ne_true
        · exact h2 t A' (by omega) hx hA' eA'
      · rintro ⟨h1, h2⟩
        exact ⟨⟨h1, fun t A' ht => h2 t A' (by omega)⟩, Bool.eq_false_iff.mpr (h2 n A (by omega) hxn hA eA)⟩
    · rw [if_neg c]
      refine ⟨L, hL, rfl, fun j => ?_⟩
      rw [hb j]
      refine and_congr_right (fun _ => ⟨fun h t A' ht hx hA' eA' => ?_, fun h t A' ht => h t A' (by omega)⟩)
      by_cases e : t = n
      · rw [e] at hx
        exact absurd ((inS_nI (by omega) (by omega)).mpr hx) c
      · exact h t A' (by omega) hx hA' eA'
theorem en_la {a : Nat → Int32} {ns nm nt : Nat} (hV : VA a ns nm nt) (hB : BO a ns nm nt) (s : Int32) {w : Int32} (hw : ¬ w = 0) : enS a (thA a s &&& a 8) w nt = laC a (thA a s &&& a 8) nt := by
  have h12 := hV.2.2.1.2
  obtain ⟨X, hX, eX, hb⟩ := gv_st hV hB s
  obtain ⟨G, hG, eG, hc⟩ := hB.2.2.2.2.1
  rw [eX]
  obtain ⟨L, hL, eL, hl⟩ := la_bit (n := nt) hB h12 hX (Nat.le_refl _)
  rw [eL, en_st _ _ _ _ (by omega)]
  refine congrArg nI (Nat.eq_of_testBit_eq (fun j => ?_))
  rw [Bool.eq_iff_iff, stN_bit, hl j, hV.2.2.1.1, nI_clamp (show nt < 2 ^ 31 by omega)]
  constructor
  · rintro ⟨hj, h1, h2⟩
    rw [inS_nI (by omega) (by omega)] at h1
    refine ⟨h1, fun t A ht hx hA eA hj2 => ?_⟩
    rcases h2 with ⟨z, -⟩ | ⟨-, z⟩
    · exact hw z
    · refine (bhA_z h12).mp z t ht ⟨((hb t).mp hx).2.2, ?_⟩
      rw [eA, inS_nI (by omega) (by omega)]
      exact hj2
  · rintro ⟨h1, h2⟩
    have hj := ((hb j).mp h1).1
    refine ⟨hj, (inS_nI (by omega) (by omega)).mpr h1, Or.inr ⟨hw, (bhA_z h12).mpr (fun o ho z => ?_)⟩⟩
    obtain ⟨A, hA, eA, hown⟩ := hB.2.2.2.1 o ho
    have hoj : A.testBit j = true := by
      have := z.2
      rw [eA, inS_nI (by omega) (by omega)] at this
      exact this
    have how := (hown j hoj).2
    exact h2 o A ho ((hb o).mpr ⟨ho, how.symm.trans ((hb j).mp h1).2.1, z.1⟩) hA eA hoj

end
