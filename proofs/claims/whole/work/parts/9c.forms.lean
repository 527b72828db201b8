/-! PART 9C: the class's forms are the model's: who cheats, who bolts, which one is drawn -/

noncomputable section
theorem cc_ch {m : MM} {g d : Nat} : ∀ k s, ccS m g d k s (chS (abV m g) d s) = chS (abV m g) d (s + k)
  | 0, _ => rfl
  | k + 1, s => by
    rw [ccS]
    have e : (if ysA (abV m g) s d then (if brA (abV m g) d (abV m g 6) ≤ syA (abV m g) (thA (abV m g) (nI s) &&& m.1 1 g 5) d then chS (abV m g) d s else chS (abV m g) d s ||| 1 <<< (nI s &&& 31)) else chS (abV m g) d s) = chS (abV m g) d (s + 1) := by
      rw [chS]
      have e8 : m.1 1 g 5 = abV m g 8 := rfl
      rw [e8]
      by_cases c : ysA (abV m g) s d
      · rw [if_pos c]
        by_cases c2 : brA (abV m g) d (abV m g 6) ≤ syA (abV m g) (thA (abV m g) (nI s) &&& abV m g 8) d
        · rw [if_pos c2, if_neg (fun z => z.2 c2), Int32.or_zero]
        · rw [if_neg c2, if_pos ⟨c, c2⟩]
      · rw [if_neg c, if_neg (fun z => c z.1), Int32.or_zero]
    rw [e, cc_ch k (s + 1), show s + 1 + k = s + (k + 1) by omega]
/-- likings are small -/
def LKo (a : Nat → Int32) : Prop := ∀ s d, s < 4 → d < 4 → ∃ l, l ≤ 99 ∧ a (128 + 4 * s + d) = nI l
/-- a tray's MAID as a number -/
theorem wc_nd {v : Int64} {n d : Nat} (hn : n ≤ 4) (hd : d < 4) (h : wcP v (nI n).toInt64) : lg_cmp v (nI d).toInt64 = 0 ↔ v.toInt32 = nI d := by
  rw [lg_cmp_eq, nI_l (by omega)]
  obtain ⟨h1, h2⟩ := h
  rw [lg_cmp_lt] at h1
  rw [lg_cmp_gt, nI_l (by omega)] at h2
  by_cases hz : v < 0
  · have e : v = -1 := by
      rw [Int64.lt_iff_toInt_lt] at h1 hz
      apply Int64.toInt_inj.mp
      have e1 : (-1 : Int64).toInt = -1 := by decide
      have e0 : (0 : Int64).toInt = 0 := by decide
      omega
    rw [e, show ((-1 : Int64)).toInt32 = -1 by decide]
    constructor
    · intro z
      have q := congrArg Int64.toInt z
      rw [pk_lT (show d < _ by omega), show (-1 : Int64).toInt = -1 by decide] at q
      omega
    · intro z
      exact absurd z.symm (nI_n1 (by omega))
  · obtain ⟨k, hk, rfl⟩ := pk_lOf hz
    have e : lN n - 1 < lN k ↔ n ≤ k := by
      rw [Int64.lt_iff_toInt_lt, pk_lT hk]
      have : (lN n - 1).toInt = (n : Int) - 1 := by
        have hd : ∀ n, n ≤ 4 → (lN n - 1).toInt = (n : Int) - 1 := by decide
        exact hd n hn
      omega
    rw [e] at h2
    rw [lN_i k, pk_lEQ hk (by omega)]
    exact (nI_eq (by omega) (by omega)).symm
/-- who bolts: the class's way and the model's -/
theorem bo_bt {a : Nat → Int32} {ns nm nt t s d : Nat} {O : Nat → Int32} {T : Nat → Int64} (hV : VA a ns nm nt) (hB : BO a ns nm nt) (hL : LKo a) (hs : s < ns) (hd : d < nm) (hO : ∀ i, i < ns → O i = (T (60 * t + i)).toInt32) (hT : ∀ i, i < ns → wcP (T (60 * t + i)) (nI nm).toInt64) : boP a O ns s d ↔ btP a T ns t s d := by
  have n4 := hV.1.2
  have m4 := hV.2.1.2
  have hin : ∀ i, i < ns → (O i = -1 ∨ ∃ k, k < nm ∧ O i = nI k) := fun i hi => by rw [hO i hi]; exact wcP_in m4 (hT i hi)
  unfold boP btP
  rw [← hO s hs]
  refine and_congr Iff.rfl (and_congr ?_ ?_)
  · unfold hisF
    rw [← hO s hs]
    obtain ⟨l, hl, el⟩ := hL s d (by omega) (by omega)
    rcases hin s hs with e | ⟨k, hk, e⟩
    · rw [if_pos e, e, el]
      constructor
      · intro _ z
        exact nI_pos (n := l) (by omega) (Int32.lt_of_le_of_lt z (by decide))
      · exact fun _ z => z.1 (show (-1 : Int32) < 0 by decide)
    · have n1 : ¬ O s = -1 := by rw [e]; exact nI_n1 (by omega)
      rw [if_neg n1]
      constructor
      · exact fun z y => z ⟨by rw [e]; exact nI_pos (by omega), y⟩
      · exact fun z y => z y.2
  · have key : ∀ n, n ≤ ns → (hrC O d n < 0 ∧ hrF a T t d n = -1) ∨ (∃ o, o < ns ∧ hrC O d n = nI o ∧ hrF a T t d n = hdA a (nI o) d) := by
      intro n
      induction n with
      | zero => exact fun _ => Or.inl ⟨(show (-1 : Int32) < 0 by decide), rfl⟩
      | succ n ih =>
        intro hn
        rw [hrC, hrF, hO n (by omega)]
        by_cases c : (T (60 * t + n)).toInt32 = nI d
        · rw [if_pos c, if_pos ((wc_nd m4 (by omega) (hT n (by omega))).mpr c)]
          exact Or.inr ⟨n, by omega, rfl, rfl⟩
        · rw [if_neg c, if_neg (fun z => c ((wc_nd m4 (by omega) (hT n (by omega))).mp z))]
          exact ih (by omega)
    obtain ⟨p, -, hp, -, ep, -⟩ := BO_HB hV hB (nI s) d (by omega)
    rcases key ns (Nat.le_refl _) with ⟨h1, h2⟩ | ⟨o, ho, h1, h2⟩
    · rw [h2, ep]
      constructor
      · intro _ z
        exact nI_pos hp (Int32.lt_of_le_of_lt z (by decide))
      · exact fun _ => Or.inl h1
    · rw [h1, h2]
      constructor
      · rintro (z | z)
        · exact absurd z (nI_pos (by omega))
        · exact Int32.not_le.mpr z
      · exact fun z => Or.inr (Int32.not_le.mp z)
/-- the lowest bit is taken away -/
theorem clr_at {w i : Nat} (hi : w.testBit i = true) (hlow : ∀ t, t < i → w.testBit t = false) (j : Nat) : (clr w).testBit j = (w.testBit j && decide (j ≠ i)) := by
  have hm : w % 2 ^ i = 0 := by
    refine Nat.eq_of_testBit_eq (fun t => ?_)
    rw [Nat.testBit_mod_two_pow, Nat.zero_testBit]
    by_cases c : t < i
    · rw [hlow t c, Bool.and_false]
    · rw [decide_eq_false c, Bool.false_and]
  have hodd : w / 2 ^ i % 2 = 1 := by
    have := hi
    rw [Nat.testBit_eq_decide_div_mod_eq] at this
    exact of_decide_eq_true this
  obtain ⟨u, hu⟩ : ∃ u, w / 2 ^ i = 2 * u + 1 := ⟨w / 2 ^ i / 2, by omega⟩
  have hw : w = 2 ^ i * (2 * u + 1) + 0 := by
    have := Nat.div_add_mod w (2 ^ i)
    rw [hm, hu] at this
    exact this.symm
  have hp : 0 < 2 ^ i := Nat.two_pow_pos i
  have hw1 : w - 1 = 2 ^ i * (2 * u) + (2 ^ i - 1) := by
    rw [hw, Nat.mul_add]
    omega
  have e1 : w.testBit j = (2 ^ i * (2 * u + 1) + 0).testBit j := congrArg (fun z => z.testBit j) hw
  show (w &&& (w - 1)).testBit j = _
  rw [Nat.testBit_and, hw1, e1, Nat.testBit_two_pow_mul_add _ hp, Nat.testBit_two_pow_mul_add _ (by omega)]
  by_cases c : j < i
  · rw [if_pos c, Nat.zero_testBit, Bool.false_and, Bool.false_and]
  · rw [if_neg c, if_neg c]
    obtain ⟨n, hn⟩ : ∃ n, j = i + n := ⟨j - i, by omega⟩
    rw [hn, show i + n - i = n by omega]
    cases n with
    | zero =>
      rw [show (2 * u).testBit 0 = false by rw [Nat.testBit_zero]; exact decide_eq_false (by omega), show decide (i + 0 ≠ i) = false from decide_eq_false (by omega)]
    | succ n =>
      rw [Nat.testBit_succ, Nat.testBit_succ, show (2 * u + 1) / 2 = u by omega, show 2 * u / 2 = u by omega, show decide (i + (n + 1) ≠ i) = true from decide_eq_true (by omega), Bool.and_self, Bool.and_true]
theorem bits_0 {w : Nat} (h : ∀ t, w.testBit t = false) : w = 0 := Nat.eq_of_testBit_eq (fun t => by rw [h t, Nat.zero_testBit])
/-- the one that is drawn: counted from the lowest, or the lowest ones taken away -/
theorem c2T_lb {W : Nat} (hW : W < 4096) : ∀ k i J w, i + k = 12 → w < 4096 → (∀ t, t < i → w.testBit t = false) → (∀ t, i ≤ t → w.testBit t = W.testBit t) → J < pcN w → ∃ t, c2T (nI W) k i J = some t ∧ lbI (itr clr J w) = nI t ∧ W.testBit t = true
  | 0, i, J, w, hi, hw, hlo, hhi, hJ => by
    exfalso
    have : w = 0 := bits_0 (fun t => by
      by_cases c : t < i
      · exact hlo t c
      · exact Nat.testBit_lt_two_pow (Nat.lt_of_lt_of_le hw (Nat.pow_le_pow_right (n := 2) (by omega) (by omega : 12 ≤ t))))
    rw [this] at hJ
    exact absurd hJ (by rw [show pcN 0 = 0 from rfl]; exact Nat.not_lt_zero _)
  | k + 1, i, J, w, hi, hw, hlo, hhi, hJ => by
    rw [c2T]
    by_cases c : inS (nI W) (nI i)
    · have hb : W.testBit i = true := (inS_nI (by omega) (by omega)).mp c
      have hwb : w.testBit i = true := by rw [hhi i (Nat.le_refl _)]; exact hb
      have hw0 : ¬ w = 0 := fun z => by rw [z, Nat.zero_testBit] at hwb; exact Bool.noConfusion hwb
      rw [if_pos c]
      by_cases c2 : J = 0
      · rw [if_pos c2, c2]
        refine ⟨i, rfl, ?_, hb⟩
        obtain ⟨t, ht, et, htb, htn⟩ := lb_ex hw hw0
        show lbI w = nI i
        have : t = i := by
          rcases Nat.lt_or_ge t i with z | z
          · rw [hlo t z] at htb; exact Bool.noConfusion htb
          · rcases Nat.lt_or_ge i t with y | y
            · exact absurd hwb (htn i y)
            · omega
        rw [et, this]
      · rw [if_neg c2]
        obtain ⟨J', rfl⟩ : ∃ J', J = J' + 1 := ⟨J - 1, by omega⟩
        have hp := pc_step w hw hw0
        have hc : ∀ t, (clr w).testBit t = (w.testBit t && decide (t ≠ i)) := fun t => clr_at hwb hlo t
        obtain ⟨t, h1, h2, h3⟩ := c2T_lb hW k (i + 1) J' (clr w) (by omega) hp.2 (fun t ht => by
          rw [hc t]
          by_cases e : t = i
          · rw [show decide (t ≠ i) = false from decide_eq_false (fun z => z e), Bool.and_false]
          · rw [hlo t (by omega), Bool.false_and]) (fun t ht => by
          rw [hc t, show decide (t ≠ i) = true from decide_eq_true (by omega), Bool.and_true]
          exact hhi t (by omega)) (by have hp1 : pcN w = pcN (clr w) + 1 := hp.1; omega)
        exact ⟨t, h1, h2, h3⟩
    · rw [if_neg c]
      have hb : W.testBit i = false := Bool.eq_false_iff.mpr (fun z => c ((inS_nI (by omega) (by omega)).mpr z))
      exact c2T_lb hW k (i + 1) J w (by omega) hw (fun t ht => by
        by_cases e : t = i
        · rw [e, hhi i (Nat.le_refl _)]; exact hb
        · exact hlo t (by omega)) (fun t ht => hhi t (by omega)) hJ

end
