/-! PART 9M: the class's plan is the model's -/

noncomputable section
/-- a sum over a set -/
def smG (f : Nat → Int32) (x : Int32) : Nat → Int32
  | 0 => 0
  | j + 1 => smG f x j + (if inS x (nI j) then f j else 0)
theorem wth_sm (a : Nat → Int32) (x : Int32) : ∀ n, wth a x n = smG (fun j => a (45 + 3 * j)) x n
  | 0 => rfl
  | n + 1 => by rw [wth, smG, wth_sm a x n]
theorem say_sm (a : Nat → Int32) (x : Int32) (d : Nat) : ∀ n, sayS a x d n = smG (fun j => a (80 + 4 * j + d)) x n
  | 0 => rfl
  | n + 1 => by rw [sayS, smG, say_sm a x d n]
theorem smG_0 (f : Nat → Int32) : ∀ n, n ≤ 12 → smG f 0 n = 0
  | 0, _ => rfl
  | n + 1, h => by
    have e : ¬ inS 0 (nI n) := by
      rw [show (0 : Int32) = nI 0 from rfl, inS_nI (by decide) (by omega), Nat.zero_testBit]
      decide
    rw [smG, smG_0 f n (by omega), if_neg e]
    rfl
theorem smG_or (f : Nat → Int32) {X t : Nat} (hX : X < 4096) (ht : t < 12) (hb : X.testBit t = false) : ∀ n, n ≤ 12 → smG f (nI (X ||| 2 ^ t)) n = smG f (nI X) n + (if t < n then f t else 0)
  | 0, _ => rfl
  | n + 1, h => by
    have hO : X ||| 2 ^ t < 4096 := or_lt (n := 12) hX (Nat.pow_lt_pow_right (by omega) ht)
    have i1 : inS (nI (X ||| 2 ^ t)) (nI n) ↔ (X.testBit n = true ∨ n = t) := by rw [inS_nI (by omega) (by omega), or_bt]
    have i2 : inS (nI X) (nI n) ↔ X.testBit n = true := inS_nI (by omega) (by omega)
    rw [smG, smG, smG_or f hX ht hb n (by omega)]
    by_cases c : n = t
    · have i3 : ¬ inS (nI X) (nI n) := fun z => by rw [i2, c, hb] at z; exact Bool.noConfusion z
      rw [if_pos (i1.mpr (Or.inr c)), if_neg i3, if_neg (show ¬ t < n by omega), if_pos (show t < n + 1 by omega), c, Int32.add_zero]
    · have e3 : (if t < n + 1 then f t else 0) = (if t < n then f t else 0) := by
        by_cases c2 : t < n
        · rw [if_pos c2, if_pos (by omega)]
        · rw [if_neg c2, if_neg (by omega)]
      rw [e3]
      by_cases c2 : X.testBit n = true
      · rw [if_pos (i1.mpr (Or.inl c2)), if_pos (i2.mpr c2), Int32.add_assoc, Int32.add_comm _ (f n), ← Int32.add_assoc]
      · rw [if_neg (fun z => (i1.mp z).elim c2 c), if_neg (fun z => c2 (i2.mp z)), Int32.add_zero, Int32.add_zero]
theorem smG_le {f : Nat → Int32} {nt : Nat} (x : Int32) (h : ∀ t, t < nt → ∃ y, y ≤ 99 ∧ f t = nI y) : ∀ n, n ≤ nt → ∃ v, v ≤ 99 * n ∧ smG f x n = nI v
  | 0, _ => ⟨0, by omega, rfl⟩
  | n + 1, hn => by
    obtain ⟨v, hv, e⟩ := smG_le x h n (by omega)
    obtain ⟨w, hw, ew⟩ := h n (by omega)
    rw [smG, e]
    by_cases hc : inS x (nI n)
    · rw [if_pos hc, ew, nI_add]
      exact ⟨v + w, by omega, rfl⟩
    · rw [if_neg hc, show (0 : Int32) = nI 0 from rfl, nI_add]
      exact ⟨v, by omega, rfl⟩
theorem wtA_sm {a : Nat → Int32} {ns nm nt : Nat} (hV : VA a ns nm nt) (x : Int32) : wtA a x = smG (fun j => a (45 + 3 * j)) x nt := by
  have h12 := hV.2.2.1.2
  unfold wtA
  rw [hV.2.2.1.1, nI_clamp (by omega), wth_sm]
theorem syA_sm {a : Nat → Int32} {ns nm nt : Nat} (hV : VA a ns nm nt) (x : Int32) (d : Nat) : syA a x d = smG (fun j => a (80 + 4 * j + d)) x nt := by
  have h12 := hV.2.2.1.2
  unfold syA
  rw [hV.2.2.1.1, nI_clamp (by omega), say_sm]
theorem wtA_le {a : Nat → Int32} {ns nm nt : Nat} (hV : VA a ns nm nt) (hB : BO a ns nm nt) (x : Int32) : ∃ v, v ≤ 1188 ∧ wtA a x = nI v := by
  have h12 := hV.2.2.1.2
  obtain ⟨v, hv, e⟩ := smG_le (f := fun j => a (45 + 3 * j)) x hB.2.1 nt (Nat.le_refl _)
  exact ⟨v, by omega, (wtA_sm hV x).trans e⟩
/-- numbers of a plan -/
def suN (a : Nat → Int32) (Y : Nat) : Nat := (wtA a (nI Y)).toNatClampNeg
def heN (a : Nat → Int32) (s d : Nat) (Y : Nat) : Nat := (hdA a (nI s) d + syA a (nI Y) d).toNatClampNeg
theorem suN_e {a : Nat → Int32} {ns nm nt : Nat} (hV : VA a ns nm nt) (hB : BO a ns nm nt) (Y : Nat) : suN a Y ≤ 1188 ∧ wtA a (nI Y) = nI (suN a Y) := by
  obtain ⟨v, hv, e⟩ := wtA_le hV hB (nI Y)
  unfold suN
  rw [e, nI_clamp (by omega)]
  exact ⟨hv, rfl⟩
theorem heN_e {a : Nat → Int32} {ns nm nt : Nat} (hV : VA a ns nm nt) (hB : BO a ns nm nt) {s d : Nat} (hd : d < 4) (Y : Nat) : heN a s d Y ≤ 2376 ∧ hdA a (nI s) d + syA a (nI Y) d = nI (heN a s d Y) := by
  obtain ⟨v, hv, e⟩ := syA_le hV hB (nI Y) hd
  obtain ⟨u, hu, eu⟩ : ∃ u, u ≤ 1188 ∧ hdA a (nI s) d = nI u := syA_le hV hB _ hd
  unfold heN
  rw [e, eu, nI_add, nI_clamp (by omega)]
  exact ⟨by omega, rfl⟩
/-- what the class keeps of a valley besides -/
def NEo (m : MM) (v nt : Nat) : Prop := (∀ t, t < nt → m.1 38 v t = nI (ndA (abV m v) nt t)) ∧ m.1 6 v 19 = nI (stN (fun j => nvP (abV m v) nt j) nt)
/-- room for a plan -/
def rmN (W T k g : Nat) : Nat := W - T + W * (if 999 - g < k then 999 - g else k)
/-- the memory in which a plan grows -/
def PLm (a : Nat → Int32) (s d nt R n : Nat) (it : Nat → Nat) (M : MM) : Prop := ITo M n it (okI a it) R (fun X => nI (suN a X)) (fun X => nI (heN a s d X)) ∧ M.1 3 0 13 = -1 ∧ M.1 3 0 16 = 0 ∧ (∀ x, wkC3 M x = vwA a s x) ∧ (∀ x, M.1 3 0 9 + M.1 3 0 10 * x = brA a d (a 6 + x))
theorem ga_hs {m : MM} {v s ns nm nt : Nat} (hV : VC2 m v ns nm nt) (hN : NEo m v nt) {t : Nat} (ht : t < nt) : inS (gaF m v s) (nI t) ↔ inS (hsA (abV m v) (nI s)) (nI t) ∧ ¬ nvP (abV m v) nt t := by
  have h12 : nt ≤ 12 := hV.1.2.2.1.2
  have e : gaF m v s = hsA (abV m v) (nI s) &&& (m.1 6 v 19 ^^^ (-1)) := rfl
  have hlt : stN (fun j => nvP (abV m v) nt j) nt < 4096 := Nat.lt_of_lt_of_le (stN_lt _ nt) (Nat.pow_le_pow_right (n := 2) (by omega) h12)
  rw [e, inS_and (by omega), inS_not (by omega), hN.2, inS_nI (by omega) (by omega), stN_bit]
  constructor
  · exact fun z => ⟨z.1, fun y => z.2 ⟨ht, y⟩⟩
  · exact fun z => ⟨z.1, fun y => z.2 y.2⟩
theorem nd_11 {a : Nat → Int32} {ns nm nt : Nat} (hV : VA a ns nm nt) (hB : BO a ns nm nt) {t : Nat} (ht : t < nt) (hn : ¬ nvP a nt t) : pcN (ndA a nt t) < 12 := by
  have h12 := hV.2.2.1.2
  have hlt := nd_lt hV hB ht
  have hb : (ndA a nt t).testBit t = false := by
    cases c : (ndA a nt t).testBit t with
    | false => rfl
    | true => exact absurd (nv_iff.mpr ⟨t, ht, Or.inr rfl, c⟩) hn
  have e := pc_or12 _ hlt t (by omega) hb
  have := pc_le (ndA a nt t ||| 2 ^ t) (or_lt (n := 12) hlt (Nat.pow_lt_pow_right (by omega) (by omega)))
  omega
theorem GI_it {m M : MM} {v s d ns nm nt n : Nat} {it : Nat → Nat} (hV : VC2 m v ns nm nt) (hB : BO (abV m v) ns nm nt) (hN : NEo m v nt) (h : GIo m v d nt (gaF m v s) (ndA (abV m v) nt) 12 0 M n it) : ITp (abV m v) nt (nI s) n it := by
  obtain ⟨-, h2, -, h4, h5, h6, h7, -⟩ := h
  refine ⟨h2, fun j hj => ?_, h5, h6, fun t ht q1 q2 => h7 t ht ((ga_hs hV hN ht).mpr ⟨q1, q2⟩) (Or.inl (nd_11 hV.1 hB ht q2))⟩
  obtain ⟨q1, q2, -⟩ := h4 j hj
  exact ⟨q1, (ga_hs hV hN q1).mp q2⟩
theorem PL_m {m : MM} {v s d ns nm nt W T k g : Nat} (hV : VC2 m v ns nm nt) (hB : BO (abV m v) ns nm nt) (hN : NEo m v nt) (hs : s < ns) (hd : d < nm) (hW : 1 ≤ W ∧ W ≤ 9) (eW : abV m v 4 = nI W) (hT : T ≤ W) (eT : abV m v (14 + 4 * s) = nI T) (hg : g ≤ 999) (eg : abV m v 6 = nI g) (hk : k ≤ 99) : ∃ n it, ITp (abV m v) nt (nI s) n it ∧ PLm (abV m v) s d nt (rmN W T k g) n it (gaM (mkB v d (mkA m v s (nI k))) v s d) := by
  have hns : ns ≤ 4 := hV.1.1.2
  have hnm : nm ≤ 4 := hV.1.2.1.2
  have h12 : nt ≤ 12 := hV.1.2.2.1.2
  obtain ⟨m0, e0⟩ : ∃ m0, m0 = mkB v d (mkA m v s (nI k)) := ⟨_, rfl⟩
  have S0 : SM3 m m0 := by rw [e0]; exact SM3_t (SM3_A m v s (nI k)) (SM3_B v d _)
  have ea : abV m0 v = abV m v := abV_3 S0
  have hV0 : VC2 m0 v ns nm nt := VC2_c ea hV
  have hN0 : NEo m0 v nt := by
    unfold NEo
    rw [ea, S0 38 v (by decide) (by decide), S0 6 v (by decide) (by decide)]
    exact hN
  have hB0 : BO (abV m0 v) ns nm nt := by rw [ea]; exact hB
  obtain ⟨n, it, hG⟩ := gth_ok (s := s) (d := d) (nd := ndA (abV m0 v) nt) hV0 (fun t ht => ⟨nd_lt hV0.1 hB0 ht, hN0.1 t ht⟩)
  have hI := GI_it hV0 hB0 hN0 hG
  rw [ea] at hI
  refine ⟨n, it, hI, ?_⟩
  rw [← e0]
  obtain ⟨M, eM⟩ : ∃ M, M = gaM m0 v s d := ⟨_, rfl⟩
  rw [← eM] at hG ⊢
  obtain ⟨g1, g2, g3, -, g5, -, -, -, -, g10⟩ := hG
  -- cells
  have c5 : m0.1 3 0 5 = abV m v 8 := by rw [e0]; rfl
  have c6 : m0.1 3 0 6 = nI (W - T) := by
    have : m0.1 3 0 6 = m.1 6 v 17 - m.1 17 v s := by rw [e0]; rfl
    rw [this, ← ab_wek (by omega), eT, show m.1 6 v 17 = nI W from eW, nI_sb hT]
  have c7 : m0.1 3 0 7 = nI W := by rw [e0]; exact eW
  have c8 : m0.1 3 0 8 = nI (rmN W T k g) := by
    have : m0.1 3 0 8 = m.1 6 v 17 - m.1 17 v s + m.1 6 v 17 * (if 999 - m.1 1 v 4 < nI k then 999 - m.1 1 v 4 else nI k) := by rw [e0]; rfl
    rw [this, ← ab_wek (by omega), eT, show m.1 6 v 17 = nI W from eW, show m.1 1 v 4 = nI g from eg, nI_sb hT, show (999 : Int32) = nI 999 from rfl, nI_sb hg]
    unfold rmN
    by_cases c : 999 - g < k
    · rw [if_pos c, if_pos (by rw [nI_ltI (by omega) (by omega)]; exact c), pk_mul, nI_add]
    · rw [if_neg c, if_neg (by rw [nI_ltI (by omega) (by omega)]; exact c), pk_mul, nI_add]
  have c9 : m0.1 3 0 9 = brA (abV m v) d (abV m v 6) := by
    have : m0.1 3 0 9 = brA (abV (mkA m v s (nI k)) v) d (abV (mkA m v s (nI k)) v 6) := by rw [e0]; rfl
    rw [this, abV_3 (SM3_A m v s (nI k))]
  have c10 : m0.1 3 0 10 = abV m v (29 + 4 * d) := by
    rw [ab_ris (by omega), e0]; rfl
  have c13 : m0.1 3 0 13 = -1 := by rw [e0]; rfl
  have c16 : m0.1 3 0 16 = 0 := by rw [e0]; rfl
  have hR : rmN W T k g < 2 ^ 31 := by
    unfold rmN
    have : W * (if 999 - g < k then 999 - g else k) ≤ 9 * 999 := Nat.mul_le_mul hW.2 (by split <;> omega)
    omega
  refine ⟨⟨g1, g2, fun j hj => ⟨(g3 j hj).1, by have := (hI.2.1 j hj).1; omega⟩, g5, ⟨(g10 8 (by decide)).trans c8, hR⟩, fun j X hj hX => ?_, fun j X hj hX hb => ?_⟩, (g10 13 (by decide)).trans c13, (g10 16 (by decide)).trans c16, fun x => ?_, fun x => ?_⟩
  · have hlt := (hI.2.1 j hj).1
    rw [(g3 j hj).2.2.2, g10 5 (by decide), c5, S0 37 v (by decide) (by decide), ← ab_aft (by omega)]
  · have hlt := (hI.2.1 j hj).1
    constructor
    · show nI (suN (abV m v) (X ||| 2 ^ it j)) = nI (suN (abV m v) X) + _
      rw [← (suN_e hV.1 hB _).2, ← (suN_e hV.1 hB _).2, wtA_sm hV.1, wtA_sm hV.1, smG_or _ hX (by omega) hb nt h12, if_pos hlt, (g3 j hj).2.1, S0 36 v (by decide) (by decide), ← ab_wor (by omega)]
    · show nI (heN (abV m v) s d (X ||| 2 ^ it j)) = nI (heN (abV m v) s d X) + _
      rw [← (heN_e hV.1 hB (by omega) _).2, ← (heN_e hV.1 hB (by omega) _).2, syA_sm hV.1, syA_sm hV.1, smG_or _ hX (by omega) hb nt h12, if_pos hlt, (g3 j hj).2.2.1, ea, Int32.add_assoc]
  · unfold wkC3 vwA
    rw [g10 6 (by decide), g10 7 (by decide), c6, c7, eW, eT, nI_sb hT]
    have p : (0 : Int32) < nI W := (nI_ltI (by decide) (by omega)).mpr (show 0 < W by omega)
    by_cases c : nI (W - T) < x
    · rw [if_pos c, if_pos ⟨c, p⟩]
    · rw [if_neg c, if_neg (fun z => c z.1)]
  · rw [g10 9 (by decide), g10 10 (by decide), c9, c10]
    unfold brA
    rw [Int32.mul_add, Int32.add_assoc]
/-- what the class holds once a plan is made, by the model's words -/
def PLo (a : Nat → Int32) (s d : Nat) (w : Int32) (M : MM) : Prop := M.1 3 0 16 = hdA a (nI s) d + msF a (a 2).toNatClampNeg (hsN a s) s d w (hsN a s + 1) ∧ ((M.1 3 0 13 = -1 ∧ plA a s d w 0 = -1 ∧ plA a s d w 1 = -1 ∧ plA a s d w 2 = -1) ∨ ∃ Z F S, Z < 4096 ∧ F < 4096 ∧ S < 4096 ∧ M.1 3 0 13 = nI Z ∧ M.1 3 0 11 = nI (pcN Z) ∧ M.1 3 0 12 = wtA a (nI Z) ∧ (∃ v, v ≤ 1188 ∧ wtA a (nI Z) = nI v) ∧ M.1 3 0 14 = nI (pcN F) ∧ M.1 3 0 15 = vwX a s S ∧ (∃ v, v ≤ 99 ∧ vwX a s S = nI v) ∧ plA a s d w 0 = nI Z ∧ plA a s d w 1 = nI F ∧ plA a s d w 2 = nI S)
theorem ms_mx {a : Nat → Int32} {nt H i d : Nat} {w : Int32} {C : Nat → Prop} {sy : Nat → Nat} (hC : ∀ Y, Y < 4096 → (C Y ↔ (ndn Y H = 0 ∧ Cn a nt Y ∧ vwX a i Y ≤ w ∧ a 6 + vwX a i Y ≤ 999))) (hs : ∀ Y, sy Y < 2 ^ 31 ∧ syA a (nI Y) d = nI (sy Y)) : ∀ k, k ≤ 4096 → ∃ V, V < 2 ^ 31 ∧ msF a nt H i d w k = nI V ∧ (∀ Y, Y < k → C Y → sy Y ≤ V) ∧ (V = 0 ∨ ∃ Y, Y < k ∧ C Y ∧ sy Y = V)
  | 0, _ => ⟨0, by decide, rfl, fun Y h => absurd h (by omega), Or.inl rfl⟩
  | k + 1, hk => by
    obtain ⟨V, hV, eV, h1, h2⟩ := ms_mx hC hs k (by omega)
    by_cases c : C k
    · have e : msF a nt H i d w (k + 1) = if msF a nt H i d w k < syA a (nI k) d then syA a (nI k) d else msF a nt H i d w k := cI_t ((hC k (by omega)).mp c)
      rw [e, eV, (hs k).2]
      by_cases c2 : V < sy k
      · rw [if_pos ((nI_ltI hV (hs k).1).mpr c2)]
        refine ⟨sy k, (hs k).1, rfl, fun Y hY hy => ?_, Or.inr ⟨k, by omega, c, rfl⟩⟩
        by_cases c3 : Y = k
        · rw [c3]; exact Nat.le_refl _
        · have := h1 Y (by omega) hy
          omega
      · rw [if_neg (fun z => c2 ((nI_ltI hV (hs k).1).mp z))]
        refine ⟨V, hV, rfl, fun Y hY hy => ?_, h2.imp id (fun ⟨Y, x, y⟩ => ⟨Y, by omega, y⟩)⟩
        by_cases c3 : Y = k
        · rw [c3]; omega
        · exact h1 Y (by omega) hy
    · have e : msF a nt H i d w (k + 1) = msF a nt H i d w k := cI_f (fun z => c ((hC k (by omega)).mpr z))
      rw [e, eV]
      refine ⟨V, hV, rfl, fun Y hY hy => ?_, h2.imp id (fun ⟨Y, x, y⟩ => ⟨Y, by omega, y⟩)⟩
      by_cases c3 : Y = k
      · rw [c3] at hy; exact absurd hy c
      · exact h1 Y (by omega) hy
theorem bt_12 {Y : Nat} (h : ∀ t, Y.testBit t = true → t < 12) : Y < 4096 := by
  refine Nat.lt_pow_two_of_testBit (n := 12) Y (fun i hi => ?_)
  cases c : Y.testBit i with
  | false => rfl
  | true => exact absurd (h i c) (by omega)
theorem pl_lt {a : Nat → Int32} {nt n R : Nat} {it : Nat → Nat} {s : Int32} (hI : ITp a nt s n it) (hnt : nt ≤ 12) {Y : Nat} (h : Y ∈ plL a n it R) : Y < 4096 := by
  obtain ⟨hn, hi, hinj, -, -⟩ := hI
  unfold plL at h
  rcases List.mem_cons.mp h with e | h
  · rw [e]; decide
  · by_cases cR : R ≤ 0
    · rw [if_pos cR] at h; exact (List.not_mem_nil h).elim
    · rw [if_neg cR] at h
      have key := (dfs_mem (ok := okI a it) (R := R) hn (fun i h => by have := (hi i h).1; omega) hinj 12 0 0 Y (by omega) (by decide) (fun t ht => by rw [Nat.zero_testBit] at ht; exact Bool.noConfusion ht) (by rw [show pcN 0 = 0 from rfl]; omega)).mp h
      refine bt_12 (fun t ht => ?_)
      rcases key.2.2.1 t ht with q | ⟨i, -, g2, g3⟩
      · rw [Nat.zero_testBit] at q; exact Bool.noConfusion q
      · have := (hi i g2).1
        omega
theorem wk_12 {W T p : Nat} (hW : 1 ≤ W) (hp : p ≤ 12) : wkN W T p ≤ 12 := by
  rw [wk_room hW]
  have : 1 * 12 ≤ W * 12 := Nat.mul_le_mul_right 12 hW
  omega
theorem wk_in {W T p k g : Nat} (hW : 1 ≤ W) (hp : p ≤ 12) (hg : g ≤ 999) (hk : k ≤ 99) : (nI (wkN W T p) ≤ nI k ∧ nI g + nI (wkN W T p) ≤ 999) ↔ p ≤ rmN W T k g := by
  have h12 := wk_12 (T := T) hW hp
  unfold rmN
  rw [← wk_room hW, nI_leI (by omega) (by omega), nI_add, show (999 : Int32) = nI 999 from rfl, nI_leI (by omega) (by decide)]
  by_cases c : 999 - g < k
  · rw [if_pos c]; omega
  · rw [if_neg c]; omega
theorem sub_le_H {Y H : Nat} (hY : Y < 2 ^ 32) (h : ndn Y H = 0) : Y ≤ H := by
  have hs := (ndn_0 hY).mp h
  have e : Y &&& H = Y := Nat.eq_of_testBit_eq (fun j => by
    rw [Bool.eq_iff_iff, Nat.testBit_and, Bool.and_eq_true]
    exact ⟨fun z => z.1, fun z => ⟨z, hs j z⟩⟩)
  rw [← e]
  exact Nat.and_le_right
/-- the class's plan -/
theorem mk_ok {m : MM} {v s d ns nm nt W T k g : Nat} (hV : VC2 m v ns nm nt) (hB : BO (abV m v) ns nm nt) (hN : NEo m v nt) (hGN : GNo (abV m v) nt) (hs : s < ns) (hd : d < nm) (hW : 1 ≤ W ∧ W ≤ 9) (eW : abV m v 4 = nI W) (hT : T ≤ W) (eT : abV m v (14 + 4 * s) = nI T) (hg : g ≤ 999) (eg : abV m v 6 = nI g) (hk : k ≤ 99) : PLo (abV m v) s d (nI k) (mkM m v s d (nI k)) := by
  have hnm : nm ≤ 4 := hV.1.2.1.2
  have h12 : nt ≤ 12 := hV.1.2.2.1.2
  obtain ⟨n, it, hI, hP⟩ := PL_m hV hB hN hs hd hW eW hT eT hg eg hk
  rw [mkM_eq]
  show PLo (abV m v) s d (nI k) (mkG v s d (gaM (mkB v d (mkA m v s (nI k))) v s d))
  have ea : abV (gaM (mkB v d (mkA m v s (nI k))) v s d) v = abV m v := abV_3 (SM3_g (SM3_t (SM3_A m v s (nI k)) (SM3_B v d _)))
  revert hP ea
  generalize gaM (mkB v d (mkA m v s (nI k))) v s d = M1
  intro hP ea
  obtain ⟨hIT, c13, c16, cwk, cbr⟩ := hP
  unfold mkG
  rw [ea]
  obtain ⟨a, e0⟩ : ∃ a, a = abV m v := ⟨_, rfl⟩
  have hV1 := hV.1
  rw [← e0] at hV1 hB hGN eW eT eg hI hIT cwk cbr ⊢
  have eh0 : nI (heN a s d 0) = hdA a (nI s) d := by
    rw [← (heN_e hV1 hB (by omega) 0).2, syA_sm hV1, show nI 0 = 0 from rfl, smG_0 _ nt h12, Int32.add_zero]
  have es0 : nI (suN a 0) = 0 := by
    rw [← (suN_e hV1 hB 0).2, wtA_sm hV1, show nI 0 = 0 from rfl, smG_0 _ nt h12]
  rw [← eh0]
  have eG := gr_z (m := M1) hIT es0
  obtain ⟨l, el⟩ : ∃ l, l = plL a n it (rmN W T k g) := ⟨_, rfl⟩
  have el2 : l = (0 :: (if rmN W T k g ≤ 0 then [] else dfs n it (okI a it) (rmN W T k g) 12 0 0)) := el
  rw [← el2] at eG
  rw [show grM M1 0 0 0 0 (nI (heN a s d 0)) = _ from eG]
  -- numbers
  have ewk : ∀ Y, Y < 4096 → vwA a s (nI (pcN Y)) = nI (wkN W T (pcN Y)) := fun Y hY => vw_nI hW hT eW eT (pc_le Y hY)
  have bwk : ∀ Y, Y < 4096 → wkN W T (pcN Y) ≤ 12 := fun Y hY => wk_12 hW.1 (pc_le Y hY)
  obtain ⟨ps, eps⟩ : ∃ ps : Nat → Prop, ps = fun Y => ¬ nI (heN a s d Y) < brA a d (a 6 + nI (wkN W T (pcN Y))) := ⟨_, rfl⟩
  have hps : ∀ Y, ps Y ↔ ¬ nI (heN a s d Y) < brA a d (a 6 + nI (wkN W T (pcN Y))) := fun Y => by rw [eps]
  have hlt : ∀ Y, Y ∈ l → Y < 4096 := fun Y hY => pl_lt hI h12 (by rw [← el]; exact hY)
  have hNM : ∀ Y, Y ∈ l → NMo M1 (suN a) (heN a s d) (fun Y => wkN W T (pcN Y)) ps Y := fun Y hY => by
    have h1 := hlt Y hY
    have h2 := bwk Y h1
    have h3 := (suN_e hV1 hB Y).1
    have h4 := (heN_e hV1 hB (show d < 4 by omega) (s := s) Y).1
    refine ⟨h1, by omega, by omega, by show wkN W T (pcN Y) < 2 ^ 31; omega, (cwk _).trans (ewk Y h1), ?_⟩
    rw [cbr]
    exact hps Y
  have hR := RS_f l [] M1 hNM ⟨⟨0, by decide, c16, fun Y h => (List.not_mem_nil h).elim, Or.inl rfl⟩, Or.inl ⟨c13, fun Y h => (List.not_mem_nil h).elim⟩⟩
  rw [List.nil_append] at hR
  revert hR
  generalize l.foldl (weX (fun X => nI (suN a X)) (fun X => nI (heN a s d X))) M1 = M
  intro hR
  -- the model's sets
  obtain ⟨H, hH, eH⟩ := BO_HS hV1 (nI s)
  have eHN : hsN a s = H := by show (hsA a (nI s)).toNatClampNeg = H; rw [eH, nI_clamp (by omega)]
  have e2 : (a 2).toNatClampNeg = nt := by rw [hV1.2.2.1.1, nI_clamp (by omega)]
  have hmem : ∀ Y, Y < 4096 → (Y ∈ l ↔ (ndn Y H = 0 ∧ Cn a nt Y ∧ vwX a s Y ≤ nI k ∧ a 6 + vwX a s Y ≤ 999)) := fun Y hY => by
    rw [el, pl_mem hV1 hB hGN hI hH eH hY, show vwX a s Y = nI (wkN W T (pcN Y)) from ewk Y hY, eg, wk_in hW.1 (pc_le Y hY) hg hk]
  have hok : ∀ Y, Y < 4096 → (okX a nt H s d (nI k) Y ↔ (Y ∈ l ∧ ps Y)) := fun Y hY => by
    rw [hmem Y hY, hps Y, ← (heN_e hV1 hB (show d < 4 by omega) Y).2, ← ewk Y hY]
    constructor
    · exact fun z => ⟨⟨z.1, z.2.1, z.2.2.1, z.2.2.2.1⟩, z.2.2.2.2⟩
    · exact fun z => ⟨z.1.1, z.1.2.1, z.1.2.2.1, z.1.2.2.2, z.2⟩
  have hle : ∀ Y, Y ∈ l → Y < H + 1 := fun Y hY => by
    have h1 := hlt Y hY
    have := sub_le_H (show Y < 2 ^ 32 by omega) ((hmem Y h1).mp hY).1
    omega
  unfold PLo plA
  rw [e2, eHN]
  obtain ⟨⟨MX, hMX, eMX, hM1, hM2⟩, h2⟩ := hR
  refine ⟨?_, ?_⟩
  · have hsy : ∀ Y, (syA a (nI Y) d).toNatClampNeg < 2 ^ 31 ∧ syA a (nI Y) d = nI (syA a (nI Y) d).toNatClampNeg := fun Y => by
      obtain ⟨v, hv, e⟩ := syA_le hV1 hB (nI Y) (show d < 4 by omega)
      rw [e, nI_clamp (by omega)]
      exact ⟨by omega, rfl⟩
    obtain ⟨V, hVl, eV, v1, v2⟩ := ms_mx (C := fun Y => Y ∈ l) hmem hsy (H + 1) (by omega)
    obtain ⟨u, hu, eu⟩ : ∃ u, u ≤ 1188 ∧ hdA a (nI s) d = nI u := syA_le hV1 hB _ (show d < 4 by omega)
    have hhe : ∀ Y, heN a s d Y = u + (syA a (nI Y) d).toNatClampNeg := fun Y => by
      obtain ⟨b1, b2⟩ := heN_e hV1 hB (show d < 4 by omega) (s := s) Y
      obtain ⟨v, hv, e⟩ := syA_le hV1 hB (nI Y) (show d < 4 by omega)
      rw [e, nI_clamp (by omega)]
      rw [eu, e, nI_add] at b2
      exact nI_inj (by omega) (by omega) b2.symm
    have hV8 : V ≤ 1188 := by
      rcases v2 with z | ⟨Y, -, -, z⟩
      · omega
      · obtain ⟨v, hv, e⟩ := syA_le hV1 hB (nI Y) (show d < 4 by omega)
        rw [e, nI_clamp (by omega)] at z
        omega
    rw [eMX, eV, eu, nI_add]
    congr 1
    have z0 : 0 ∈ l := by rw [el]; exact List.mem_cons_self
    have q0 := hM1 0 z0
    rw [hhe] at q0
    have qV : u + V ≤ MX := by
      rcases v2 with z | ⟨Y, y1, y2, y3⟩
      · omega
      · have := hM1 Y y2
        rw [hhe] at this
        omega
    rcases hM2 with z | ⟨Y, y1, y2⟩
    · omega
    · rw [hhe] at y2
      have := v1 Y (hle Y y1) y1
      omega
  · have hsu : ∀ Y, Y < 4096 → suN a Y < 2 ^ 31 ∧ wtA a (nI Y) = nI (suN a Y) := fun Y _ => ⟨by have := (suN_e hV1 hB Y).1; omega, (suN_e hV1 hB Y).2⟩
    have hwk : ∀ Y, Y < 4096 → wkN W T (pcN Y) < 2 ^ 31 ∧ vwX a s Y = nI (wkN W T (pcN Y)) := fun Y hY => ⟨by have := bwk Y hY; omega, ewk Y hY⟩
    have p0 := plF_0 (nt := nt) (H := H) (i := s) (d := d) (w := nI k) hsu (H + 1) (by omega)
    have p1 := plF_1 (a := a) (nt := nt) (H := H) (i := s) (d := d) (w := nI k) (H + 1) (by omega)
    have p2 := plF_2 (nt := nt) (H := H) (i := s) (d := d) (w := nI k) (wk := fun Y => wkN W T (pcN Y)) hwk (H + 1) (by omega)
    rcases h2 with ⟨e13, hno⟩ | ⟨Z, F, S, z1, f1, s1, z2, f2, s2, z3, f3, s3, z4, e13, e11, e12, e14, e15, hall⟩
    · have no : ∀ X, X < H + 1 → ¬ okX a nt H s d (nI k) X := fun X hX z => by
        obtain ⟨y1, y2⟩ := (hok X (by omega)).mp z
        exact hno X y1 y2
      refine Or.inl ⟨e13, ?_, ?_, ?_⟩
      · rcases p0 with z | ⟨X, x1, x2, -⟩
        · exact z.1
        · exact absurd x2 (no X x1)
      · rcases p1 with z | ⟨X, x1, x2, -⟩
        · exact z.1
        · exact absurd x2 (no X x1)
      · rcases p2 with z | ⟨X, x1, x2, -⟩
        · exact z.1
        · exact absurd x2 (no X x1)
    · have okZ : okX a nt H s d (nI k) Z := (hok Z (hlt Z z1)).mpr ⟨z1, z2⟩
      have okF : okX a nt H s d (nI k) F := (hok F (hlt F f1)).mpr ⟨f1, f2⟩
      have okS : okX a nt H s d (nI k) S := (hok S (hlt S s1)).mpr ⟨s1, s2⟩
      rcases p0 with z | ⟨X, x1, x2, x3, x4⟩
      · exact absurd okZ (z.2 Z (hle Z z1))
      rcases p1 with z | ⟨F', y1, y2, y3, y4⟩
      · exact absurd okF (z.2 F (hle F f1))
      rcases p2 with z | ⟨S', w1, w2, w3, w4⟩
      · exact absurd okS (z.2 S (hle S s1))
      have mX := (hok X (by omega)).mp x2
      have mF := (hok F' (by omega)).mp y2
      have mS := (hok S' (by omega)).mp w2
      have eX : X = Z := leS_a (x4 Z (hle Z z1) okZ) (hall X mX.1 mX.2).1
      have eF : pcN F' = pcN F := Nat.le_antisymm (y4 F (hle F f1) okF) (hall F' mF.1 mF.2).2.1
      have eS : wkN W T (pcN S') = wkN W T (pcN S) := Nat.le_antisymm (w4 S (hle S s1) okS) (hall S' mS.1 mS.2).2.2
      rw [eX] at x3
      have bS := bwk S' (by omega)
      refine Or.inr ⟨Z, F', S', hlt Z z1, by omega, by omega, e13, e11, e12.trans (suN_e hV1 hB Z).2.symm, ⟨suN a Z, suN_e hV1 hB Z⟩, by rw [e14, eF], ?_, ⟨wkN W T (pcN S'), by omega, ewk S' (by omega)⟩, x3, y3, w3⟩
      rw [e15, show vwX a s S' = _ from ewk S' (by omega)]
      exact congrArg nI eS.symm

end
