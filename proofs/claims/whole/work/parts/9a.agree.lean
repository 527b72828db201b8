/-! PART 9A: two valleys that agree where they are counted: all that is told of them agrees -/

noncomputable section
def AG (a b : Nat → Int32) (ns nm nt : Nat) : Prop := (∀ j, j ≤ 6 → a j = b j) ∧ a 8 = b 8 ∧ a 9 = b 9 ∧ (∀ s f, s < ns → f < 4 → a (12 + 4 * s + f) = b (12 + 4 * s + f)) ∧ (∀ d f, d < nm → f < 4 → a (28 + 4 * d + f) = b (28 + 4 * d + f)) ∧ (∀ t f, t < nt → f < 3 → a (44 + 3 * t + f) = b (44 + 3 * t + f)) ∧ (∀ t d, t < nt → d < 4 → a (80 + 4 * t + d) = b (80 + 4 * t + d)) ∧ (∀ s d, s < 4 → d < 4 → a (128 + 4 * s + d) = b (128 + 4 * s + d))
theorem AG_0 {a b : Nat → Int32} {ns nm nt : Nat} (h : AG a b ns nm nt) {j : Nat} (hj : j ≤ 6) : a j = b j := h.1 j hj
theorem AG_8 {a b : Nat → Int32} {ns nm nt : Nat} (h : AG a b ns nm nt) : a 8 = b 8 := h.2.1
theorem AG_9 {a b : Nat → Int32} {ns nm nt : Nat} (h : AG a b ns nm nt) : a 9 = b 9 := h.2.2.1
theorem AG_s {a b : Nat → Int32} {ns nm nt : Nat} (h : AG a b ns nm nt) {s : Nat} (hs : s < ns) : a (12 + 4 * s) = b (12 + 4 * s) ∧ a (13 + 4 * s) = b (13 + 4 * s) ∧ a (14 + 4 * s) = b (14 + 4 * s) ∧ a (15 + 4 * s) = b (15 + 4 * s) := by
  have q := fun f => h.2.2.2.1 s f hs
  refine ⟨q 0 (by decide), ?_, ?_, ?_⟩
  · rw [show 13 + 4 * s = 12 + 4 * s + 1 by omega]; exact q 1 (by decide)
  · rw [show 14 + 4 * s = 12 + 4 * s + 2 by omega]; exact q 2 (by decide)
  · rw [show 15 + 4 * s = 12 + 4 * s + 3 by omega]; exact q 3 (by decide)
theorem AG_d {a b : Nat → Int32} {ns nm nt : Nat} (h : AG a b ns nm nt) {s : Nat} (hs : s < nm) : a (28 + 4 * s) = b (28 + 4 * s) ∧ a (29 + 4 * s) = b (29 + 4 * s) ∧ a (30 + 4 * s) = b (30 + 4 * s) ∧ a (31 + 4 * s) = b (31 + 4 * s) := by
  have q := fun f => h.2.2.2.2.1 s f hs
  refine ⟨q 0 (by decide), ?_, ?_, ?_⟩
  · rw [show 29 + 4 * s = 28 + 4 * s + 1 by omega]; exact q 1 (by decide)
  · rw [show 30 + 4 * s = 28 + 4 * s + 2 by omega]; exact q 2 (by decide)
  · rw [show 31 + 4 * s = 28 + 4 * s + 3 by omega]; exact q 3 (by decide)
theorem AG_t {a b : Nat → Int32} {ns nm nt : Nat} (h : AG a b ns nm nt) {s : Nat} (hs : s < nt) : a (44 + 3 * s) = b (44 + 3 * s) ∧ a (45 + 3 * s) = b (45 + 3 * s) ∧ a (46 + 3 * s) = b (46 + 3 * s) := by
  have q := fun f => h.2.2.2.2.2.1 s f hs
  refine ⟨q 0 (by decide), ?_, ?_⟩
  · rw [show 45 + 3 * s = 44 + 3 * s + 1 by omega]; exact q 1 (by decide)
  · rw [show 46 + 3 * s = 44 + 3 * s + 2 by omega]; exact q 2 (by decide)
theorem AG_y {a b : Nat → Int32} {ns nm nt : Nat} (h : AG a b ns nm nt) {t d : Nat} (ht : t < nt) (hd : d < 4) : a (80 + 4 * t + d) = b (80 + 4 * t + d) := h.2.2.2.2.2.2.1 t d ht hd
theorem AG_l {a b : Nat → Int32} {ns nm nt : Nat} (h : AG a b ns nm nt) {s d : Nat} (hs : s < 4) (hd : d < 4) : a (128 + 4 * s + d) = b (128 + 4 * s + d) := h.2.2.2.2.2.2.2 s d hs hd
theorem AG_sy {a b : Nat → Int32} {ns nm nt : Nat} (h : AG a b ns nm nt) : AG b a ns nm nt := ⟨fun j z => (h.1 j z).symm, h.2.1.symm, h.2.2.1.symm, fun s f x y => (h.2.2.2.1 s f x y).symm, fun s f x y => (h.2.2.2.2.1 s f x y).symm, fun s f x y => (h.2.2.2.2.2.1 s f x y).symm, fun s f x y => (h.2.2.2.2.2.2.1 s f x y).symm, fun s f x y => (h.2.2.2.2.2.2.2 s f x y).symm⟩
theorem AG_gds {a b : Nat → Int32} {ns nm nt : Nat} (h : AG a b ns nm nt) (s : Int32) : ∀ n, n ≤ nt → gds a s n = gds b s n
  | 0, _ => rfl
  | n + 1, hn => by rw [gds, gds, AG_gds h s n (by omega), (AG_t h (show n < nt by omega)).1]
/-- the counts of the valley that is told of -/
theorem AG_2 {a b : Nat → Int32} {ns nm nt : Nat} (h : AG a b ns nm nt) (hV : VA a ns nm nt) : (a 2).toNatClampNeg = nt ∧ (b 2).toNatClampNeg = nt := by
  have := hV.2.2.1
  rw [← AG_0 h (show 2 ≤ 6 by decide), this.1]
  exact ⟨nI_clamp (by omega), nI_clamp (by omega)⟩
theorem AG_thA {a b : Nat → Int32} {ns nm nt : Nat} (h : AG a b ns nm nt) (hV : VA a ns nm nt) (s : Int32) : thA a s = thA b s := by
  unfold thA
  rw [(AG_2 h hV).1, (AG_2 h hV).2]
  exact AG_gds h s nt (Nat.le_refl _)
theorem AG_wth {a b : Nat → Int32} {ns nm nt : Nat} (h : AG a b ns nm nt) (x : Int32) : ∀ n, n ≤ nt → wth a x n = wth b x n
  | 0, _ => rfl
  | n + 1, hn => by rw [wth, wth, AG_wth h x n (by omega), (AG_t h (show n < nt by omega)).2.1]
theorem AG_wtA {a b : Nat → Int32} {ns nm nt : Nat} (h : AG a b ns nm nt) (hV : VA a ns nm nt) (x : Int32) : wtA a x = wtA b x := by
  unfold wtA
  rw [(AG_2 h hV).1, (AG_2 h hV).2]
  exact AG_wth h x nt (Nat.le_refl _)
theorem AG_sayS {a b : Nat → Int32} {ns nm nt : Nat} (h : AG a b ns nm nt) (x : Int32) {d : Nat} (hd : d < 4) : ∀ n, n ≤ nt → sayS a x d n = sayS b x d n
  | 0, _ => rfl
  | n + 1, hn => by rw [sayS, sayS, AG_sayS h x hd n (by omega), AG_y h (show n < nt by omega) hd]
theorem AG_syA {a b : Nat → Int32} {ns nm nt : Nat} (h : AG a b ns nm nt) (hV : VA a ns nm nt) (x : Int32) {d : Nat} (hd : d < 4) : syA a x d = syA b x d := by
  unfold syA
  rw [(AG_2 h hV).1, (AG_2 h hV).2]
  exact AG_sayS h x hd nt (Nat.le_refl _)
theorem AG_hdA {a b : Nat → Int32} {ns nm nt : Nat} (h : AG a b ns nm nt) (hV : VA a ns nm nt) (s : Int32) {d : Nat} (hd : d < 4) : hdA a s d = hdA b s d := by
  unfold hdA
  rw [AG_thA h hV, AG_8 h, AG_9 h]
  exact AG_syA h hV _ hd
theorem AG_lsA {a b : Nat → Int32} {ns nm nt : Nat} (h : AG a b ns nm nt) (hV : VA a ns nm nt) (s : Int32) : lsA' a s = lsA' b s := by
  unfold lsA'
  rw [AG_thA h hV, AG_8 h]
  exact AG_wtA h hV _
theorem AG_brA {a b : Nat → Int32} {ns nm nt : Nat} (h : AG a b ns nm nt) {d : Nat} (hd : d < nm) (w : Int32) : brA a d w = brA b d w := by
  unfold brA
  rw [(AG_d h hd).1, (AG_d h hd).2.1]
theorem AG_owA {a b : Nat → Int32} {ns nm nt : Nat} (h : AG a b ns nm nt) {j : Nat} (hj : j < nt) : owA a j = owA b j := by
  unfold owA
  rw [(AG_t h hj).1]
theorem AG_ysA {a b : Nat → Int32} {ns nm nt : Nat} (h : AG a b ns nm nt) (hV : VA a ns nm nt) {i d : Nat} (hi : i < ns) (hd : d < nm) : ysA a i d ↔ ysA b i d := by
  have h4 := hV.2.1.2
  unfold ysA
  rw [(AG_s h hi).2.2.2, (AG_d h hd).2.2.2, AG_hdA h hV _ (show d < 4 by omega), AG_brA h hd, AG_0 h (show 6 ≤ 6 by decide)]
theorem AG_wdP {a b : Nat → Int32} {ns nm nt : Nat} (h : AG a b ns nm nt) (hV : VA a ns nm nt) {i d : Nat} (hi : i < ns) (hd : d < nm) : wdP a i d ↔ wdP b i d := by
  unfold wdP
  rw [AG_ysA h hV hi hd, (AG_s h hi).2.1, (AG_d h hd).2.2.1]
theorem ow_ns {a : Nat → Int32} {ns nm nt j : Nat} (hV : VA a ns nm nt) (hj : j < nt) : owA a j < ns := by
  obtain ⟨o, ho, e⟩ := hV.2.2.2.1 j hj
  have := hV.1.2
  unfold owA
  rw [e, nI_clamp (by omega)]
  exact ho
theorem AG_mgA {a b : Nat → Int32} {ns nm nt : Nat} (h : AG a b ns nm nt) (hV : VA a ns nm nt) {j : Nat} (hj : j < nt) : mgA a j ↔ mgA b j := by
  have ho := ow_ns hV hj
  unfold mgA
  rw [← AG_owA h hj, AG_8 h, AG_9 h, (AG_s h ho).2.2.2, (AG_t h hj).2.2, AG_0 h (show 4 ≤ 6 by decide), (AG_s h ho).2.2.1]
theorem AG_bhA {a b : Nat → Int32} {ns nm nt : Nat} (h : AG a b ns nm nt) (t : Nat) : ∀ n, n ≤ nt → bhA a t n = bhA b t n
  | 0, _ => rfl
  | n + 1, hn => by rw [bhA, bhA, AG_bhA h t n (by omega), AG_8 h, (AG_t h (show n < nt by omega)).2.2]
theorem AG_frP {a b : Nat → Int32} {ns nm nt : Nat} (h : AG a b ns nm nt) : frP a ↔ frP b := by
  unfold frP
  rw [AG_0 h (show 6 ≤ 6 by decide), AG_0 h (show 5 ≤ 6 by decide)]
theorem AG_wfA {a b : Nat → Int32} {ns nm nt : Nat} (h : AG a b ns nm nt) : wfA a = wfA b := by
  unfold wfA frP
  rw [AG_0 h (show 6 ≤ 6 by decide), AG_0 h (show 5 ≤ 6 by decide)]
theorem AG_ckA {a b : Nat → Int32} {ns nm nt : Nat} (h : AG a b ns nm nt) {j : Nat} (hj : j < nt) : ckA a j = ckA b j := by
  unfold ckA
  rw [(AG_t h hj).2.1]
theorem AG_cbP {a b : Nat → Int32} {ns nm nt : Nat} (h : AG a b ns nm nt) (hV : VA a ns nm nt) {j : Nat} (hj : j < nt) : cbP a j ↔ cbP b j := by
  have ho := ow_ns hV hj
  unfold cbP
  rw [(AG_2 h hV).1, (AG_2 h hV).2, AG_frP h, ← AG_owA h hj, (AG_s h ho).2.2.2, AG_8 h, (AG_s h ho).2.1, AG_ckA h hj, AG_bhA h j nt (Nat.le_refl _)]
theorem ite_iff {α : Type} {p q : Prop} [Decidable p] [Decidable q] (h : p ↔ q) (x y : α) : (if p then x else y) = (if q then x else y) := by
  by_cases c : p
  · rw [if_pos c, if_pos (h.mp c)]
  · rw [if_neg c, if_neg (fun z => c (h.mpr z))]
theorem AG_myA {a b : Nat → Int32} {ns nm nt : Nat} (h : AG a b ns nm nt) (hV : VA a ns nm nt) (s : Int32) : ∀ n, n ≤ nt → myA a s n = myA b s n
  | 0, _ => rfl
  | n + 1, hn => by
    rw [myA, myA, AG_myA h hV s n (by omega)]
    rw [ite_iff (show a (44 + 3 * n) = s ∧ mgA a n ↔ b (44 + 3 * n) = s ∧ mgA b n by rw [(AG_t h (show n < nt by omega)).1, AG_mgA h hV (show n < nt by omega)])]
theorem AG_tsA {a b : Nat → Int32} {ns nm nt : Nat} (h : AG a b ns nm nt) (j : Nat) : tsA a j = tsA b j := by
  unfold tsA
  rw [AG_8 h, AG_9 h]
theorem AG_cpF {a b : Nat → Int32} {ns nm nt : Nat} (h : AG a b ns nm nt) : ∀ n, n ≤ ns → cpF a n = cpF b n
  | 0, _ => rfl
  | n + 1, hn => by rw [cpF, cpF, AG_cpF h n (by omega), (AG_s h (show n < ns by omega)).2.2.2]
theorem AG_prS {a b : Nat → Int32} {ns nm nt : Nat} (h : AG a b ns nm nt) {d : Nat} (hd : d < 4) : ∀ n, n ≤ nt → prS a d n = prS b d n
  | 0, _ => rfl
  | n + 1, hn => by rw [prS, prS, AG_prS h hd n (by omega), AG_y h (show n < nt by omega) hd, (AG_t h (show n < nt by omega)).2.1]
theorem AG_fiC {a b : Nat → Int32} {ns nm nt : Nat} (h : AG a b ns nm nt) (x : Int32) : ∀ n, n ≤ nt → fiC a x n = fiC b x n
  | 0, _ => rfl
  | n + 1, hn => by rw [fiC, fiC, AG_fiC h x n (by omega), (AG_t h (show n < nt by omega)).2.2]
theorem AG_laC {a b : Nat → Int32} {ns nm nt : Nat} (h : AG a b ns nm nt) (x : Int32) : ∀ n, n ≤ nt → laC a x n = laC b x n
  | 0, _ => rfl
  | n + 1, hn => by rw [laC, laC, AG_laC h x n (by omega), (AG_t h (show n < nt by omega)).2.2]
theorem AG_ahP {a b : Nat → Int32} {ns nm nt : Nat} (h : AG a b ns nm nt) (hV : VA a ns nm nt) {d s o : Nat} (hd : d < 4) (hs : s < ns) (ho : o < ns) : ahP a d s o ↔ ahP b d s o := by
  unfold ahP
  rw [AG_hdA h hV _ hd, AG_hdA h hV _ hd, (AG_s h hs).1, (AG_s h ho).1]
theorem AG_chA {a b : Nat → Int32} {ns nm nt : Nat} (h : AG a b ns nm nt) (hV : VA a ns nm nt) {d : Nat} (hd : d < 4) : ∀ n, n ≤ ns → chA a d n = chA b d n
  | 0, _ => rfl
  | n + 1, hn => by
    have h4 := hV.1.2
    have e := AG_chA h hV hd n (by omega)
    rw [chA, chA, e]
    refine ite_iff ?_ _ _
    rw [(AG_s h (show n < ns by omega)).2.2.2]
    refine and_congr Iff.rfl (or_congr Iff.rfl ?_)
    have hlt : ∀ n, n ≤ ns → (chA b d n).toNatClampNeg < ns ∨ chA b d n = -1 := by
      intro k
      induction k with
      | zero => exact fun _ => Or.inr rfl
      | succ k ih =>
        intro hk
        rw [chA]
        split
        · exact Or.inl (by rw [nI_clamp (by omega)]; omega)
        · exact ih (by omega)
    rcases hlt n (by omega) with q | q
    · exact AG_ahP h hV hd (by omega) q
    · rw [q]
      have z : (-1 : Int32).toNatClampNeg = 0 := by decide
      rw [z]
      exact AG_ahP h hV hd (by omega) (by omega)

end
