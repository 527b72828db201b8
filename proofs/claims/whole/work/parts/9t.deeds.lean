/-! PART 9T: deeds: agreeing valleys go on agreeing, what is known of them stays -/

noncomputable section
/-- what is known of a valley, laid as the model lays it -/
def VSo (a : Nat → Int32) (ns nm nt : Nat) : Prop := VA a ns nm nt ∧ BO a ns nm nt ∧ GNo a nt ∧ (∀ s, s < ns → ∃ T W, a (14 + 4 * s) = nI T ∧ a 4 = nI W ∧ T ≤ W ∧ W ≤ 9 ∧ 1 ≤ W) ∧ LKo a ∧ a 7 = cpF a ns
theorem AG_upd {a b : Nat → Int32} {ns nm nt : Nat} (h : AG a b ns nm nt) (p : Nat) (x : Int32) : AG (upd a p x) (upd b p x) ns nm nt := by
  have one : ∀ j, a j = b j → upd a p x j = upd b p x j := fun j e => by
    by_cases c : j = p
    · rw [c, upd_eq, upd_eq]
    · rw [upd_ne c, upd_ne c, e]
  exact ⟨fun j z => one j (h.1 j z), one _ h.2.1, one _ h.2.2.1, fun s f x y => one _ (h.2.2.2.1 s f x y), fun s f x y => one _ (h.2.2.2.2.1 s f x y), fun s f x y => one _ (h.2.2.2.2.2.1 s f x y), fun s f x y => one _ (h.2.2.2.2.2.2.1 s f x y), fun s f x y => one _ (h.2.2.2.2.2.2.2 s f x y)⟩
/-- a change of the model's row where no agreeing is asked -/
theorem AG_updr {a b : Nat → Int32} {ns nm nt p : Nat} {x : Int32} (h : AG a b ns nm nt) (hp : p = 7 ∨ p = 10 ∨ p = 11 ∨ 144 ≤ p) (hn : ns ≤ 4) (hm : nm ≤ 4) (ht : nt ≤ 12) : AG a (upd b p x) ns nm nt := by
  refine ⟨fun j z => ?_, ?_, ?_, fun s f x y => ?_, fun s f x y => ?_, fun s f x y => ?_, fun s f x y => ?_, fun s f x y => ?_⟩
  · rw [upd_ne (by omega)]; exact h.1 j z
  · rw [upd_ne (by omega)]; exact h.2.1
  · rw [upd_ne (by omega)]; exact h.2.2.1
  · rw [upd_ne (by omega)]; exact h.2.2.2.1 s f x y
  · rw [upd_ne (by omega)]; exact h.2.2.2.2.1 s f x y
  · rw [upd_ne (by omega)]; exact h.2.2.2.2.2.1 s f x y
  · rw [upd_ne (by omega)]; exact h.2.2.2.2.2.2.1 s f x y
  · rw [upd_ne (by omega)]; exact h.2.2.2.2.2.2.2 s f x y
/-! where the class's valley is laid, one cell is another one -/
theorem lay_upd {F F' : Nat → Int32} {S M T S' M' T' : Nat → Nat → Int32} {y l y' l' : Nat → Int32} {p : Nat} {x : Int32} (hp : p < 144) (hF : ∀ j, j < 12 → F' j = if j = p then x else F j) (hS : ∀ s f, s < 4 → f < 4 → S' f s = if 12 + 4 * s + f = p then x else S f s) (hM : ∀ s f, s < 4 → f < 4 → M' f s = if 28 + 4 * s + f = p then x else M f s) (hT : ∀ s f, s < 12 → f < 3 → T' f s = if 44 + 3 * s + f = p then x else T f s) (hy : ∀ j, j < 48 → y' j = if 80 + j = p then x else y j) (hl : ∀ j, j < 16 → l' j = if 128 + j = p then x else l j) : lay F' S' M' T' y' l' = upd (lay F S M T y l) p x := by
  funext j
  show _ = if j = p then x else lay F S M T y l j
  unfold lay
  by_cases c1 : j < 12
  · rw [if_pos c1, if_pos c1]; exact hF j c1
  rw [if_neg c1, if_neg c1]
  by_cases c2 : j < 28
  · rw [if_pos c2, if_pos c2, hS _ _ (by omega) (Nat.mod_lt _ (by decide)), show 12 + 4 * ((j - 12) / 4) + (j - 12) % 4 = j by omega]
  rw [if_neg c2, if_neg c2]
  by_cases c3 : j < 44
  · rw [if_pos c3, if_pos c3, hM _ _ (by omega) (Nat.mod_lt _ (by decide)), show 28 + 4 * ((j - 28) / 4) + (j - 28) % 4 = j by omega]
  rw [if_neg c3, if_neg c3]
  by_cases c4 : j < 80
  · rw [if_pos c4, if_pos c4, hT _ _ (by omega) (Nat.mod_lt _ (by decide)), show 44 + 3 * ((j - 44) / 3) + (j - 44) % 3 = j by omega]
  rw [if_neg c4, if_neg c4]
  by_cases c5 : j < 128
  · rw [if_pos c5, if_pos c5, hy _ (by omega), show 80 + (j - 80) = j by omega]
  rw [if_neg c5, if_neg c5]
  by_cases c6 : j < 144
  · rw [if_pos c6, if_pos c6, hl _ (by omega), show 128 + (j - 128) = j by omega]
  rw [if_neg c6, if_neg c6, if_neg (by omega)]
theorem fl4 {f : Nat} (h : f < 4) : f = 0 ∨ f = 1 ∨ f = 2 ∨ f = 3 := by omega
theorem fl3 {f : Nat} (h : f < 3) : f = 0 ∨ f = 1 ∨ f = 2 := by omega
theorem ite_ne {α : Type} {p : Prop} [Decidable p] {x y : α} (h : ¬ p) : y = if p then x else y := (if_neg h).symm
theorem updK {f : Nat → Int32} {k j : Nat} {x : Int32} {p : Prop} [Decidable p] (h : j = k ↔ p) : upd f k x j = if p then x else f j := ite_iff h _ _
/-- the number cells -/
theorem ab_u1 {m : MM} {g f p : Nat} {x : Int32} (h : (f = 4 ∧ p = 6) ∨ (f = 5 ∧ p = 8) ∨ (f = 6 ∧ p = 9)) : abV (mI m 1 g f x) g = upd (abV m g) p x := by
  refine lay_upd (by omega) (fun j hj => ?_) (fun s f' hs hf => ?_) (fun s f' hs hf => ?_) (fun s f' hs hf => ?_) (fun j hj => ?_) (fun j hj => ?_)
  · have e : (mI m 1 g f x).1 1 g = upd (m.1 1 g) f x := mRow_row _ _ _ _
    have : j = 0 ∨ j = 1 ∨ j = 2 ∨ j = 3 ∨ j = 4 ∨ j = 5 ∨ j = 6 ∨ j = 7 ∨ j = 8 ∨ j = 9 ∨ j = 10 ∨ j = 11 := by omega
    rcases this with rfl | rfl | rfl | rfl | rfl | rfl | rfl | rfl | rfl | rfl | rfl | rfl
    · exact ite_ne (by omega)
    · exact ite_ne (by omega)
    · exact ite_ne (by omega)
    · exact ite_ne (by omega)
    · exact ite_ne (by omega)
    · exact ite_ne (by omega)
    · show (mI m 1 g f x).1 1 g 4 = _
      rw [e]; exact updK (by omega)
    · exact ite_ne (by omega)
    · show (mI m 1 g f x).1 1 g 5 = _
      rw [e]; exact updK (by omega)
    · show (mI m 1 g f x).1 1 g 6 = _
      rw [e]; exact updK (by omega)
    · exact ite_ne (by omega)
    · exact ite_ne (by omega)
  · rcases fl4 hf with rfl | rfl | rfl | rfl <;> exact ite_ne (by omega)
  · rcases fl4 hf with rfl | rfl | rfl | rfl <;> exact ite_ne (by omega)
  · rcases fl3 hf with rfl | rfl | rfl <;> exact ite_ne (by omega)
  · exact ite_ne (by omega)
  · exact ite_ne (by omega)
theorem fld_ne {m M : MM} {g p : Nat} {x : Int32} (h1 : M.1 1 g = m.1 1 g) (h6 : M.1 6 g = m.1 6 g) (hp : 12 ≤ p) : ∀ j, j < 12 → fldF M g j = if j = p then x else fldF m g j := by
  intro j hj
  rw [if_neg (by omega)]
  have : j = 0 ∨ j = 1 ∨ j = 2 ∨ j = 3 ∨ j = 4 ∨ j = 5 ∨ j = 6 ∨ j = 7 ∨ j = 8 ∨ j = 9 ∨ j = 10 ∨ j = 11 := by omega
  rcases this with rfl | rfl | rfl | rfl | rfl | rfl | rfl | rfl | rfl | rfl | rfl | rfl
  · exact congrFun h6 13
  · exact congrFun h6 14
  · exact congrFun h6 15
  · exact congrFun h6 16
  · exact congrFun h6 17
  · exact congrFun h6 18
  · exact congrFun h1 4
  · rfl
  · exact congrFun h1 5
  · exact congrFun h1 6
  · rfl
  · rfl
/-- a suitor's cells: 16 cows, 17 this week, 18 his maid -/
theorem ab_uS {m : MM} {g k o q : Nat} {x : Int32} (hk : (k = 16 ∧ q = 1) ∨ (k = 17 ∧ q = 2) ∨ (k = 18 ∧ q = 3)) (ho : o < 4) : abV (mRow m k g (upd (m.1 k g) o x)) g = upd (abV m g) (12 + 4 * o + q) x := by
  rcases hk with ⟨rfl, rfl⟩ | ⟨rfl, rfl⟩ | ⟨rfl, rfl⟩
  · refine lay_upd (by omega) (fld_ne rfl rfl (by omega)) (fun s f' hs hf => ?_) (fun s f' hs hf => ?_) (fun s f' hs hf => ?_) (fun j hj => ite_ne (by omega)) (fun j hj => ite_ne (by omega))
    · rcases fl4 hf with rfl | rfl | rfl | rfl
      · exact ite_ne (by omega)
      · show (mRow m 16 g (upd (m.1 16 g) o x)).1 16 g s = _
        rw [mRow_row]; exact updK (by omega)
      · exact ite_ne (by omega)
      · exact ite_ne (by omega)
    · rcases fl4 hf with rfl | rfl | rfl | rfl <;> exact ite_ne (by omega)
    · rcases fl3 hf with rfl | rfl | rfl <;> exact ite_ne (by omega)
  · refine lay_upd (by omega) (fld_ne rfl rfl (by omega)) (fun s f' hs hf => ?_) (fun s f' hs hf => ?_) (fun s f' hs hf => ?_) (fun j hj => ite_ne (by omega)) (fun j hj => ite_ne (by omega))
    · rcases fl4 hf with rfl | rfl | rfl | rfl
      · exact ite_ne (by omega)
      · exact ite_ne (by omega)
      · show (mRow m 17 g (upd (m.1 17 g) o x)).1 17 g s = _
        rw [mRow_row]; exact updK (by omega)
      · exact ite_ne (by omega)
    · rcases fl4 hf with rfl | rfl | rfl | rfl <;> exact ite_ne (by omega)
    · rcases fl3 hf with rfl | rfl | rfl <;> exact ite_ne (by omega)
  · refine lay_upd (by omega) (fld_ne rfl rfl (by omega)) (fun s f' hs hf => ?_) (fun s f' hs hf => ?_) (fun s f' hs hf => ?_) (fun j hj => ite_ne (by omega)) (fun j hj => ite_ne (by omega))
    · rcases fl4 hf with rfl | rfl | rfl | rfl
      · exact ite_ne (by omega)
      · exact ite_ne (by omega)
      · exact ite_ne (by omega)
      · show (mRow m 18 g (upd (m.1 18 g) o x)).1 18 g s = _
        rw [mRow_row]; exact updK (by omega)
    · rcases fl4 hf with rfl | rfl | rfl | rfl <;> exact ite_ne (by omega)
    · rcases fl3 hf with rfl | rfl | rfl <;> exact ite_ne (by omega)
/-- a maid's: 32 her bar, 19 her suitor -/
theorem ab_uM {m : MM} {g k o q : Nat} {x : Int32} (hk : (k = 32 ∧ q = 0) ∨ (k = 19 ∧ q = 3)) (ho : o < 4) : abV (mRow m k g (upd (m.1 k g) o x)) g = upd (abV m g) (28 + 4 * o + q) x := by
  rcases hk with ⟨rfl, rfl⟩ | ⟨rfl, rfl⟩
  · refine lay_upd (by omega) (fld_ne rfl rfl (by omega)) (fun s f' hs hf => ?_) (fun s f' hs hf => ?_) (fun s f' hs hf => ?_) (fun j hj => ite_ne (by omega)) (fun j hj => ite_ne (by omega))
    · rcases fl4 hf with rfl | rfl | rfl | rfl <;> exact ite_ne (by omega)
    · rcases fl4 hf with rfl | rfl | rfl | rfl
      · show (mRow m 32 g (upd (m.1 32 g) o x)).1 32 g s = _
        rw [mRow_row]; exact updK (by omega)
      · exact ite_ne (by omega)
      · exact ite_ne (by omega)
      · exact ite_ne (by omega)
    · rcases fl3 hf with rfl | rfl | rfl <;> exact ite_ne (by omega)
  · refine lay_upd (by omega) (fld_ne rfl rfl (by omega)) (fun s f' hs hf => ?_) (fun s f' hs hf => ?_) (fun s f' hs hf => ?_) (fun j hj => ite_ne (by omega)) (fun j hj => ite_ne (by omega))
    · rcases fl4 hf with rfl | rfl | rfl | rfl <;> exact ite_ne (by omega)
    · rcases fl4 hf with rfl | rfl | rfl | rfl
      · exact ite_ne (by omega)
      · exact ite_ne (by omega)
      · exact ite_ne (by omega)
      · show (mRow m 19 g (upd (m.1 19 g) o x)).1 19 g s = _
        rw [mRow_row]; exact updK (by omega)
    · rcases fl3 hf with rfl | rfl | rfl <;> exact ite_ne (by omega)
/-- likings -/
theorem ab_uL {m : MM} {g o : Nat} {x : Int32} (ho : o < 16) : abV (mRow m 31 g (upd (m.1 31 g) o x)) g = upd (abV m g) (128 + o) x := by
  refine lay_upd (by omega) (fld_ne rfl rfl (by omega)) (fun s f' hs hf => ?_) (fun s f' hs hf => ?_) (fun s f' hs hf => ?_) (fun j hj => ite_ne (by omega)) (fun j hj => ?_)
  · rcases fl4 hf with rfl | rfl | rfl | rfl <;> exact ite_ne (by omega)
  · rcases fl4 hf with rfl | rfl | rfl | rfl <;> exact ite_ne (by omega)
  · rcases fl3 hf with rfl | rfl | rfl <;> exact ite_ne (by omega)
  · show (mRow m 31 g (upd (m.1 31 g) o x)).1 31 g j = _
    rw [mRow_row]; exact updK (by omega)
/-! giving, feigning -/
def ptA (a : Nat → Int32) (how j : Nat) : Nat → Int32 := upd (upd a how (a how ||| 1 <<< (nI j &&& 31))) (14 + 4 * owA a j) (a (14 + 4 * owA a j) + 1)
theorem AG_pt {a b : Nat → Int32} {ns nm nt how j : Nat} (h : AG a b ns nm nt) (hV : VA a ns nm nt) (hh : how = 8 ∨ how = 9) (hj : j < nt) : AG (ptA a how j) (ptA b how j) ns nm nt := by
  have ho := ow_ns hV hj
  unfold ptA
  have e : a how = b how := by rcases hh with rfl | rfl; exact AG_8 h; exact AG_9 h
  rw [← AG_owA h hj, e, (AG_s h ho).2.2.1]
  exact AG_upd (AG_upd h _ _) _ _
theorem cg_pt {m : MM} {g ns nm nt f how t : Nat} (hV : VA (abV m g) ns nm nt) (hf : (f = 5 ∧ how = 8) ∨ (f = 6 ∧ how = 9)) (ht : t < nt) : abV (cgM m g f t) g = ptA (abV m g) how t := by
  have h4 := hV.1.2
  have ho := ow_ns hV ht
  have e17 : m.1 17 g = (mI m 1 g f (m.1 1 g f ||| 1 <<< (nI t &&& 31))).1 17 g := rfl
  unfold cgM ptA
  rw [e17, show 14 + 4 * owA (abV m g) t = 12 + 4 * owA (abV m g) t + 2 by omega, ab_uS (q := 2) (by omega) (by omega), ab_u1 (p := how) (by omega)]
  have e1 : m.1 1 g f = abV m g how := by rcases hf with ⟨rfl, rfl⟩ | ⟨rfl, rfl⟩ <;> rfl
  have e2 : (mI m 1 g f (m.1 1 g f ||| 1 <<< (nI t &&& 31))).1 17 g (owA (abV m g) t) = abV m g (12 + 4 * owA (abV m g) t + 2) := by
    rw [show 12 + 4 * owA (abV m g) t + 2 = 14 + 4 * owA (abV m g) t by omega, ab_wek (by omega)]
    rfl
  rw [e2, e1]
/-- what doesn't move, moves nothing -/
theorem BO_c {a b : Nat → Int32} {ns nm nt : Nat} (h : BO a ns nm nt) (hs : ∀ s, s < ns → b (12 + 4 * s) = a (12 + 4 * s)) (h8 : b 8 = a 8) (h9 : b 9 = a 9) (h4 : ∀ j, 44 ≤ j → b j = a j) : BO b ns nm nt := by
  obtain ⟨h1, h2, h3, h5, ⟨G, hG, eG, hG2⟩, h6⟩ := h
  refine ⟨fun s z => by rw [hs s z]; exact h1 s z, fun j hj => by rw [h4 _ (by omega)]; exact h2 j hj, fun t d ht hd => by rw [h4 _ (by omega)]; exact h3 t d ht hd, fun t ht => ?_, ⟨G, hG, by rw [h8]; exact eG, fun t ht => ⟨(hG2 t ht).1, fun A hA eA => (hG2 t ht).2 A hA (by rw [← h4 _ (by omega)]; exact eA)⟩⟩, by rw [h9]; exact h6⟩
  obtain ⟨A, hA, eA, hA2⟩ := h5 t ht
  exact ⟨A, hA, by rw [h4 _ (by omega)]; exact eA, fun o ho => ⟨(hA2 o ho).1, by rw [h4 _ (by omega), h4 _ (by omega)]; exact (hA2 o ho).2⟩⟩
theorem ndA_c {a b : Nat → Int32} {nt : Nat} (h : ∀ j, 44 ≤ j → b j = a j) {t : Nat} : ndA b nt t = ndA a nt t := by
  have e : ahN b = ahN a := funext fun j => by unfold ahN; rw [h _ (by omega)]
  unfold ndA
  rw [e]
theorem nvP_c {a b : Nat → Int32} {nt : Nat} (h : ∀ j, 44 ≤ j → b j = a j) {t : Nat} : nvP b nt t ↔ nvP a nt t := by
  have e : ahN b = ahN a := funext fun j => by unfold ahN; rw [h _ (by omega)]
  unfold nvP ndA
  rw [e]
theorem GN_c {a b : Nat → Int32} {nt : Nat} (hG : GNo a nt) (h8 : ∀ t, t < nt → inS (b 8) (nI t) → inS (a 8) (nI t)) (h : ∀ j, 44 ≤ j → b j = a j) : GNo b nt := fun t ht hi => by
  rw [nvP_c h]
  exact hG t ht (h8 t ht hi)
theorem cp_c {a b : Nat → Int32} : ∀ n, (∀ s, s < n → b (15 + 4 * s) = a (15 + 4 * s)) → cpF b n = cpF a n
  | 0, _ => rfl
  | n + 1, h => by rw [cpF, cpF, cp_c n (fun s hs => h s (by omega)), h n (by omega)]
theorem LK_c {a b : Nat → Int32} (h : LKo a) (h4 : ∀ j, 44 ≤ j → b j = a j) : LKo b := fun s d hs hd => by
  rw [h4 _ (by omega)]; exact h s d hs hd
theorem cn_nv {a : Nat → Int32} {ns nm nt t : Nat} (hV : VA a ns nm nt) (hB : BO a ns nm nt) (hG : GNo a nt) (ht : t < nt) (h : a (46 + 3 * t) &&& (a 8 ^^^ (-1)) = 0) : ¬ nvP a nt t := by
  have h12 := hV.2.2.1.2
  have hlt : 2 ^ t < 4096 := Nat.pow_lt_pow_right (n := 12) (by omega) (by omega)
  have hb : (2 ^ t).testBit t = true := by rw [Nat.testBit_two_pow]; exact decide_eq_true rfl
  have hx : 2 ^ t ^^^ 2 ^ t = 0 := Nat.xor_self _
  have hC : Cn a nt (2 ^ t) := by
    obtain ⟨n, hn⟩ : ∃ n, 2 ^ t = n + 1 := ⟨2 ^ t - 1, by have := Nat.two_pow_pos t; omega⟩
    show CnF a nt (2 ^ t) (2 ^ t)
    have : CnF a nt (n + 1) (2 ^ t) := by
      refine Or.inr ⟨t, ht, hb, ?_, ?_⟩
      · rw [hx]
        cases n with
        | zero => rfl
        | succ n => exact Or.inl rfl
      · rw [hx]
        unfold cnO
        rw [show nI 0 = 0 from rfl, Int32.or_zero]
        exact h
    rw [← hn] at this
    exact this
  exact (Cn_to hV hB hG (2 ^ t) hlt hC).2.2 t hb
theorem VS_pt {a : Nat → Int32} {ns nm nt how t : Nat} (h : VSo a ns nm nt) (hh : how = 8 ∨ how = 9) (ht : t < nt) (hm : mgA a t) : VSo (ptA a how t) ns nm nt := by
  obtain ⟨hV, hB, hG, hW, hL, h7⟩ := h
  have h12 := hV.2.2.1.2
  have h4 := hV.1.2
  have ho := ow_ns hV ht
  obtain ⟨m1, m2, m3, m4⟩ := hm
  have ne : ∀ j, j ≠ how → j ≠ 14 + 4 * owA a t → ptA a how t j = a j := fun j z y => by
    show upd (upd a how _) _ _ j = a j
    rw [upd_ne y, upd_ne z]
  have at8 : ptA a how t how = a how ||| 1 <<< (nI t &&& 31) := by
    show upd (upd a how _) _ _ how = _
    rw [upd_ne (by omega), upd_eq]
  have atw : ptA a how t (14 + 4 * owA a t) = a (14 + 4 * owA a t) + 1 := upd_eq
  have hi : ∀ j, 44 ≤ j → ptA a how t j = a j := fun j hj => ne j (by omega) (by omega)
  have hV' : VA (ptA a how t) ns nm nt := VA_keep hV (fun j hj => ne j (by omega) (by omega))
  obtain ⟨b1, b2, b3, b4, ⟨G, hG1, eG, hG2⟩, ⟨F, hF1, eF⟩⟩ := hB
  have hGlt : G ||| 2 ^ t < 4096 := or_lt (n := 12) hG1 (Nat.pow_lt_pow_right (by omega) (by omega))
  have hFlt : F ||| 2 ^ t < 4096 := or_lt (n := 12) hF1 (Nat.pow_lt_pow_right (by omega) (by omega))
  have nv : ¬ nvP a nt t := cn_nv hV ⟨b1, b2, b3, b4, ⟨G, hG1, eG, hG2⟩, ⟨F, hF1, eF⟩⟩ hG ht m3
  refine ⟨hV', ⟨fun s hs => by rw [ne _ (by omega) (by omega)]; exact b1 s hs, fun j hj => by rw [hi _ (by omega)]; exact b2 j hj, fun t' d ht hd => by rw [hi _ (by omega)]; exact b3 t' d ht hd, fun t' ht' => ?_, ?_, ?_⟩, ?_, ?_, LK_c hL hi, ?_⟩
  · obtain ⟨A, hA, eA, hA2⟩ := b4 t' ht'
    exact ⟨A, hA, by rw [hi _ (by omega)]; exact eA, fun o ho => ⟨(hA2 o ho).1, by rw [hi _ (by omega), hi _ (by omega)]; exact (hA2 o ho).2⟩⟩
  · rcases hh with rfl | rfl
    · refine ⟨G ||| 2 ^ t, hGlt, by rw [at8, eG, or_bit (by omega)], fun t' ht' => ?_⟩
      rcases (or_bt G t t').mp ht' with z | z
      · exact ⟨(hG2 t' z).1, fun A hA eA o ho => (or_bt G t o).mpr (Or.inl ((hG2 t' z).2 A hA (by rw [← hi _ (by omega)]; exact eA) o ho))⟩
      · rw [z]
        refine ⟨ht, fun A hA eA o ho => (or_bt G t o).mpr (Or.inl ?_)⟩
        rw [hi _ (by omega)] at eA
        rw [eA, eG, nI_ndn] at m3
        have z0 : ndn A G = 0 := nI_inj (by have : ndn A G ≤ A := by unfold ndn; exact Nat.and_le_left
                                            omega) (by decide) m3
        exact (ndn_0 (by omega)).mp z0 o ho
    · exact ⟨G, hG1, by rw [ne 8 (by omega) (by omega)]; exact eG, fun t' ht' => ⟨(hG2 t' ht').1, fun A hA eA => (hG2 t' ht').2 A hA (by rw [← hi _ (by omega)]; exact eA)⟩⟩
  · rcases hh with rfl | rfl
    · exact ⟨F, hF1, by rw [ne 9 (by omega) (by omega)]; exact eF⟩
    · exact ⟨F ||| 2 ^ t, hFlt, by rw [at8, eF, or_bit (by omega)]⟩
  · intro t' ht' hi'
    rw [nvP_c hi]
    rcases hh with rfl | rfl
    · rw [at8, eG, or_bit (by omega), inS_nI (by omega) (by omega)] at hi'
      rcases (or_bt G t t').mp hi' with z | z
      · exact hG t' ht' (by rw [eG, inS_nI (by omega) (by omega)]; exact z)
      · rw [z]; exact nv
    · rw [ne 8 (by omega) (by omega)] at hi'
      exact hG t' ht' hi'
  · intro s hs
    obtain ⟨T, W, e1, e2, q1, q2, q3⟩ := hW s hs
    by_cases c : s = owA a t
    · rw [← c] at m4 atw
      rw [e2, e1] at m4
      have : ¬ W ≤ T := fun z => m4 ((nI_leI (by omega) (by omega)).mpr z)
      exact ⟨T + 1, W, by rw [c] at e1 ⊢; rw [← c, atw, c, e1, nI_1], by rw [ne 4 (by omega) (by omega)]; exact e2, by omega, q2, q3⟩
    · exact ⟨T, W, by rw [ne _ (by omega) (by omega)]; exact e1, by rw [ne 4 (by omega) (by omega)]; exact e2, q1, q2, q3⟩
  · rw [ne 7 (by omega) (by omega), cp_c ns (fun s hs => ne _ (by omega) (by omega))]
    exact h7
/-! a week goes by -/
theorem zwA_at (f : Nat → Int32) : ∀ n j, ((∃ s, s < n ∧ j = 14 + 4 * s) ∧ zwA f n j = 0) ∨ ((∀ s, s < n → j ≠ 14 + 4 * s) ∧ zwA f n j = f j)
  | 0, j => Or.inr ⟨fun s hs => absurd hs (by omega), rfl⟩
  | n + 1, j => by
    show (_ ∧ upd (zwA f n) (14 + 4 * n) 0 j = 0) ∨ (_ ∧ upd (zwA f n) (14 + 4 * n) 0 j = f j)
    by_cases c : j = 14 + 4 * n
    · exact Or.inl ⟨⟨n, by omega, c⟩, by rw [c, upd_eq]⟩
    · rw [upd_ne c]
      rcases zwA_at f n j with ⟨⟨s, hs, e⟩, z⟩ | ⟨h, z⟩
      · exact Or.inl ⟨⟨s, by omega, e⟩, z⟩
      · refine Or.inr ⟨fun s hs => ?_, z⟩
        by_cases c2 : s = n
        · rw [c2]; exact c
        · exact h s (by omega)
theorem wkA_ne {a : Nat → Int32} {ns nm nt : Nat} (hV : VA a ns nm nt) {j : Nat} (h6 : j ≠ 6) (h : ∀ s, s < ns → j ≠ 14 + 4 * s) : wkA a j = a j := by
  have h4 := hV.1.2
  unfold wkA
  rw [hV.1.1, nI_clamp (by omega)]
  rcases zwA_at (upd a 6 (a 6 + 1)) ns j with ⟨⟨s, hs, e⟩, -⟩ | ⟨-, z⟩
  · exact absurd e (h s hs)
  · rw [z, upd_ne h6]
theorem wkA_z {a : Nat → Int32} {ns nm nt : Nat} (hV : VA a ns nm nt) {s : Nat} (hs : s < ns) : wkA a (14 + 4 * s) = 0 := by
  have h4 := hV.1.2
  unfold wkA
  rw [hV.1.1, nI_clamp (by omega)]
  rcases zwA_at (upd a 6 (a 6 + 1)) ns (14 + 4 * s) with ⟨-, z⟩ | ⟨h, -⟩
  · exact z
  · exact absurd rfl (h s hs)
theorem wkA_6 {a : Nat → Int32} {ns nm nt : Nat} (hV : VA a ns nm nt) : wkA a 6 = a 6 + 1 := by
  unfold wkA
  rcases zwA_at (upd a 6 (a 6 + 1)) (a 0).toNatClampNeg 6 with ⟨⟨s, hs, e⟩, -⟩ | ⟨-, z⟩
  · omega
  · rw [z, upd_eq]
theorem flR4 (r : Nat → Int32) : flR r 0 4 = upd (upd (upd (upd r 0 0) 1 0) 2 0) 3 0 := by
  rw [← flR_0 r 0, flR_s, flR_s, flR_s, flR_s, flR_0]
theorem ab_w4 {m : MM} {g : Nat} : abV (mRow m 17 g (flR (m.1 17 g) 0 4)) g = upd (upd (upd (upd (abV m g) 14 0) 18 0) 22 0) 26 0 := by
  have one : ∀ (M : MM) (o : Nat), o < 4 → abV (mRow M 17 g (upd (M.1 17 g) o 0)) g = upd (abV M g) (12 + 4 * o + 2) 0 := fun M o ho => ab_uS (by omega) ho
  have e := one (mRow (mRow (mRow m 17 g (upd (m.1 17 g) 0 0)) 17 g (upd (upd (m.1 17 g) 0 0) 1 0)) 17 g (upd (upd (upd (m.1 17 g) 0 0) 1 0) 2 0)) 3 (by decide)
  rw [mRow_row, mRow2, mRow2, mRow2, ← flR4] at e
  rw [e, mRow2, mRow2]
  have e2 := one (mRow (mRow m 17 g (upd (m.1 17 g) 0 0)) 17 g (upd (upd (m.1 17 g) 0 0) 1 0)) 2 (by decide)
  rw [mRow_row, mRow2, mRow2] at e2
  rw [e2, mRow2]
  have e3 := one (mRow m 17 g (upd (m.1 17 g) 0 0)) 1 (by decide)
  rw [mRow_row, mRow2] at e3
  rw [e3, one m 0 (by decide)]
theorem AG_pw {m : MM} {b : Nat → Int32} {g ns nm nt : Nat} (h : AG (abV m g) b ns nm nt) (hV : VA (abV m g) ns nm nt) : AG (abV (pwM m g) g) (wkA b) ns nm nt := by
  have h4 := hV.1.2
  have hm4 := hV.2.1.2
  have h12 := hV.2.2.1.2
  have hb := AG_VA h hV
  obtain ⟨a, ea⟩ : ∃ a, a = abV m g := ⟨_, rfl⟩
  have e : abV (pwM m g) g = upd (upd (upd (upd (upd a 6 (a 6 + 1)) 14 0) 18 0) 22 0) 26 0 := by
    have q := ab_w4 (m := mI m 1 g 4 (m.1 1 g 4 + 1)) (g := g)
    rw [ab_u1 (p := 6) (by omega)] at q
    rw [ea]
    exact q
  rw [e]
  rw [← ea] at h
  have up : ∀ j, j ≠ 14 → j ≠ 18 → j ≠ 22 → j ≠ 26 → j ≠ 6 → upd (upd (upd (upd (upd a 6 (a 6 + 1)) 14 0) 18 0) 22 0) 26 0 j = a j := fun j h1 h2 h3 h5 h6 => by
    rw [upd_ne h5, upd_ne h3, upd_ne h2, upd_ne h1, upd_ne h6]
  have upz : ∀ s, s < 4 → upd (upd (upd (upd (upd a 6 (a 6 + 1)) 14 0) 18 0) 22 0) 26 0 (14 + 4 * s) = 0 := fun s hs => by
    rcases fl4 hs with rfl | rfl | rfl | rfl
    · rw [upd_ne (by decide), upd_ne (by decide), upd_ne (by decide)]; exact upd_eq
    · rw [upd_ne (by decide), upd_ne (by decide)]; exact upd_eq
    · rw [upd_ne (by decide)]; exact upd_eq
    · exact upd_eq
  refine ⟨fun j z => ?_, ?_, ?_, fun s f x y => ?_, fun s f x y => ?_, fun s f x y => ?_, fun s f x y => ?_, fun s f x y => ?_⟩
  · by_cases c : j = 6
    · rw [c, wkA_6 hb, upd_ne (by decide), upd_ne (by decide), upd_ne (by decide), upd_ne (by decide), upd_eq, AG_0 h (by decide)]
    · rw [up j (by omega) (by omega) (by omega) (by omega) c, wkA_ne hb c (fun s _ => by omega)]
      exact h.1 j z
  · rw [up _ (by omega) (by omega) (by omega) (by omega) (by omega), wkA_ne hb (by omega) (fun s _ => by omega)]; exact h.2.1
  · rw [up _ (by omega) (by omega) (by omega) (by omega) (by omega), wkA_ne hb (by omega) (fun s _ => by omega)]; exact h.2.2.1
  · by_cases c : f = 2
    · rw [c, show 12 + 4 * s + 2 = 14 + 4 * s by omega, upz s (by omega), wkA_z hb x]
    · rw [up _ (by omega) (by omega) (by omega) (by omega) (by omega), wkA_ne hb (by omega) (fun s' _ => by omega)]; exact h.2.2.2.1 s f x y
  · rw [up _ (by omega) (by omega) (by omega) (by omega) (by omega), wkA_ne hb (by omega) (fun s' _ => by omega)]; exact h.2.2.2.2.1 s f x y
  · rw [up _ (by omega) (by omega) (by omega) (by omega) (by omega), wkA_ne hb (by omega) (fun s' _ => by omega)]; exact h.2.2.2.2.2.1 s f x y
  · rw [up _ (by omega) (by omega) (by omega) (by omega) (by omega), wkA_ne hb (by omega) (fun s' _ => by omega)]; exact h.2.2.2.2.2.2.1 s f x y
  · rw [up _ (by omega) (by omega) (by omega) (by omega) (by omega), wkA_ne hb (by omega) (fun s' _ => by omega)]; exact h.2.2.2.2.2.2.2 s f x y
theorem VS_wk {a : Nat → Int32} {ns nm nt : Nat} (h : VSo a ns nm nt) : VSo (wkA a) ns nm nt := by
  obtain ⟨hV, hB, hG, hW, hL, h7⟩ := h
  have h4 := hV.1.2
  have ne : ∀ j, j ≠ 6 → (∀ s, s < ns → j ≠ 14 + 4 * s) → wkA a j = a j := fun j z y => wkA_ne hV z y
  have hi : ∀ j, 44 ≤ j → wkA a j = a j := fun j hj => ne j (by omega) (fun s _ => by omega)
  refine ⟨VA_keep hV (fun j hj => ne j (by omega) (fun s _ => by omega)), BO_c hB (fun s _ => ne _ (by omega) (fun s' _ => by omega)) (ne 8 (by omega) (fun s' _ => by omega)) (ne 9 (by omega) (fun s' _ => by omega)) hi, GN_c hG (fun t ht z => by rw [ne 8 (by omega) (fun s' _ => by omega)] at z; exact z) hi, fun s hs => ?_, LK_c hL hi, ?_⟩
  · obtain ⟨T, W, e1, e2, q1, q2, q3⟩ := hW s hs
    exact ⟨0, W, wkA_z hV hs, by rw [ne 4 (by omega) (fun s' _ => by omega)]; exact e2, by omega, q2, q3⟩
  · rw [ne 7 (by omega) (fun s' _ => by omega), cp_c ns (fun s hs => ne _ (by omega) (fun s' _ => by omega))]
    exact h7
/-! a wedding -/
theorem AG_mr {m : MM} {b : Nat → Int32} {g ns nm nt s d : Nat} (h : AG (abV m g) b ns nm nt) (hV : VA (abV m g) ns nm nt) (hs : s < ns) (hd : d < nm) : AG (abV (mrM m g s d) g) (wdA b s d) ns nm nt := by
  have h4 := hV.1.2
  have hm4 := hV.2.1.2
  have h12 := hV.2.2.1.2
  obtain ⟨a, ea⟩ : ∃ a, a = abV m g := ⟨_, rfl⟩
  have e : abV (mrM m g s d) g = upd (upd (upd a (13 + 4 * s) (a (13 + 4 * s) - a (30 + 4 * d))) (15 + 4 * s) (nI d)) (31 + 4 * d) (nI s) := by
    have e1 : m.1 16 g s - m.1 34 g d = a (13 + 4 * s) - a (30 + 4 * d) := by rw [ea, ab_cow (by omega), ab_mot (by omega)]
    unfold mrM
    rw [e1]
    have q1 := ab_uM (m := mRow (mRow m 16 g (upd (m.1 16 g) s (a (13 + 4 * s) - a (30 + 4 * d)))) 18 g (upd (m.1 18 g) s (nI d))) (g := g) (k := 19) (q := 3) (x := nI s) (by omega) (show d < 4 by omega)
    have q2 := ab_uS (m := mRow m 16 g (upd (m.1 16 g) s (a (13 + 4 * s) - a (30 + 4 * d)))) (g := g) (k := 18) (q := 3) (x := nI d) (by omega) (show s < 4 by omega)
    have q3 := ab_uS (m := m) (g := g) (k := 16) (q := 1) (x := a (13 + 4 * s) - a (30 + 4 * d)) (by omega) (show s < 4 by omega)
    have r1 : (mRow (mRow m 16 g (upd (m.1 16 g) s (a (13 + 4 * s) - a (30 + 4 * d)))) 18 g (upd (m.1 18 g) s (nI d))).1 19 g = m.1 19 g := rfl
    have r2 : (mRow m 16 g (upd (m.1 16 g) s (a (13 + 4 * s) - a (30 + 4 * d)))).1 18 g = m.1 18 g := rfl
    rw [r1] at q1
    rw [r2] at q2
    rw [q1, q2, q3, ea, show 12 + 4 * s + 3 = 15 + 4 * s by omega, show 12 + 4 * s + 1 = 13 + 4 * s by omega, show 28 + 4 * d + 3 = 31 + 4 * d by omega]
  rw [e]
  rw [← ea] at h
  unfold wdA
  rw [(AG_s h hs).2.1, (AG_d h hd).2.2.1]
  exact AG_updr (AG_upd (AG_upd (AG_upd h _ _) _ _) _ _) (by omega) h4 hm4 h12
theorem cp_wd {a b : Nat → Int32} {i k : Nat} {x : Int32} (h0 : a (15 + 4 * i) = -1) (hx : b (15 + 4 * i) = x) (hx1 : ¬ x = -1) (hn : ∀ s, s < k → s ≠ i → b (15 + 4 * s) = a (15 + 4 * s)) : ∀ n, n ≤ k → cpF b n = if i < n then cpF a n + 1 else cpF a n
  | 0, _ => rfl
  | n + 1, hk => by
    rw [cpF, cpF, cp_wd h0 hx hx1 hn n (by omega)]
    by_cases c : n = i
    · rw [c, hx, h0, if_neg (Nat.lt_irrefl i), if_pos (Nat.lt_succ_self i), if_pos hx1, if_neg (fun z => z rfl), Int32.add_zero]
    · rw [hn n (by omega) c]
      by_cases c2 : i < n
      · rw [if_pos c2, if_pos (show i < n + 1 by omega), Int32.add_assoc, Int32.add_comm 1, ← Int32.add_assoc]
      · rw [if_neg c2, if_neg (show ¬ i < n + 1 by omega)]
theorem VS_wd {a : Nat → Int32} {ns nm nt s d : Nat} (h : VSo a ns nm nt) (hs : s < ns) (hd : d < nm) (hm : wdP a s d) : VSo (wdA a s d) ns nm nt := by
  obtain ⟨hV, hB, hG, hW, hL, h7⟩ := h
  have h4 := hV.1.2
  have hm4 := hV.2.1.2
  have ne : ∀ j, j ≠ 13 + 4 * s → j ≠ 15 + 4 * s → j ≠ 31 + 4 * d → j ≠ 7 → wdA a s d j = a j := fun j h1 h2 h3 h5 => by
    unfold wdA
    rw [upd_ne h5, upd_ne h3, upd_ne h2, upd_ne h1]
  have hi : ∀ j, 44 ≤ j → wdA a s d j = a j := fun j hj => ne j (by omega) (by omega) (by omega) (by omega)
  refine ⟨VA_keep hV (fun j hj => ne j (by omega) (by omega) (by omega) (by omega)), BO_c hB (fun s' _ => ne _ (by omega) (by omega) (by omega) (by omega)) (ne 8 (by omega) (by omega) (by omega) (by omega)) (ne 9 (by omega) (by omega) (by omega) (by omega)) hi, GN_c hG (fun t ht z => by rw [ne 8 (by omega) (by omega) (by omega) (by omega)] at z; exact z) hi, fun s' hs' => ?_, LK_c hL hi, ?_⟩
  · obtain ⟨T, W, e1, e2, q⟩ := hW s' hs'
    exact ⟨T, W, by rw [ne _ (by omega) (by omega) (by omega) (by omega)]; exact e1, by rw [ne 4 (by omega) (by omega) (by omega) (by omega)]; exact e2, q⟩
  · have e7 : wdA a s d 7 = a 7 + 1 := upd_eq
    have e15 : wdA a s d (15 + 4 * s) = nI d := by
      unfold wdA
      rw [upd_ne (by omega), upd_ne (by omega), upd_eq]
    rw [e7, cp_wd hm.1.1 e15 (nI_n1 (by omega)) (fun s' z' z => ne _ (by omega) (by omega) (by omega) (by omega)) ns (Nat.le_refl _), if_pos hs, h7]
/-! a thing comes back; is found out -/
theorem xor_in {G t : Nat} (hG : G < 4096) (ht : t < 12) (h : G.testBit t = true) : nI G &&& (((1 : Int32) <<< (nI t &&& 31)) ^^^ (-1)) = nI G ^^^ (1 : Int32) <<< (nI t &&& 31) := by
  rw [nIbit (by omega), nI_ndn, nIxor]
  congr 1
  refine Nat.eq_of_testBit_eq (fun j => ?_)
  rw [ndn_bit (by omega), Bool.eq_iff_iff, Bool.and_eq_true, x2_bit h, Nat.testBit_two_pow]
  constructor
  · rintro ⟨h1, h2⟩
    exact ⟨h1, fun z => by rw [z] at h2; simp at h2⟩
  · rintro ⟨h1, h2⟩
    refine ⟨h1, ?_⟩
    rw [decide_eq_false (Ne.symm h2)]
    rfl
theorem AG_fe {m : MM} {b : Nat → Int32} {g ns nm nt t : Nat} (h : AG (abV m g) b ns nm nt) (hV : VA (abV m g) ns nm nt) (hB : BO (abV m g) ns nm nt) (ht : t < nt) (hi : inS (abV m g 8) (nI t)) : AG (abV (feM m g t) g) (cbA b t) ns nm nt := by
  have h4 := hV.1.2
  have h12 := hV.2.2.1.2
  have ho := ow_ns hV ht
  obtain ⟨G, hG, eG, -⟩ := hB.2.2.2.2.1
  obtain ⟨a, ea⟩ : ∃ a, a = abV m g := ⟨_, rfl⟩
  rw [eG, inS_nI (by omega) (by omega)] at hi
  have e : abV (feM m g t) g = upd (upd a 8 (a 8 ^^^ 1 <<< (nI t &&& 31))) (13 + 4 * owA a t) (a (13 + 4 * owA a t) - ckA a t) := by
    have e8 : m.1 1 g 5 &&& (((1 : Int32) <<< (nI t &&& 31)) ^^^ (-1 : Int32)) = a 8 ^^^ (1 : Int32) <<< (nI t &&& 31) := by
      have : m.1 1 g 5 = abV m g 8 := rfl
      rw [this, ea, eG]
      exact xor_in hG (by omega) hi
    unfold feM
    rw [e8, ← ea]
    have q1 := ab_uS (m := mI m 1 g 5 (a 8 ^^^ 1 <<< (nI t &&& 31))) (g := g) (k := 16) (q := 1) (x := m.1 16 g (owA a t) - ckA a t) (by omega) (show owA a t < 4 by rw [ea]; omega)
    have r1 : (mI m 1 g 5 (a 8 ^^^ 1 <<< (nI t &&& 31))).1 16 g = m.1 16 g := rfl
    rw [r1] at q1
    rw [q1, ab_u1 (p := 8) (by omega), ← ea, show 12 + 4 * owA a t + 1 = 13 + 4 * owA a t by omega]
    have e3 : m.1 16 g (owA a t) = a (13 + 4 * owA a t) := by rw [ea, ab_cow (by omega)]
    rw [e3]
  rw [e]
  rw [← ea] at h ho
  unfold cbA
  rw [← AG_owA h ht, AG_8 h, (AG_s h ho).2.1, AG_ckA h ht]
  exact AG_upd (AG_upd h _ _) _ _
theorem VS_cb {a : Nat → Int32} {ns nm nt t : Nat} (h : VSo a ns nm nt) (ht : t < nt) (hm : cbP a t) : VSo (cbA a t) ns nm nt := by
  obtain ⟨hV, hB, hG, hW, hL, h7⟩ := h
  have h4 := hV.1.2
  have h12 := hV.2.2.1.2
  have ho := ow_ns hV ht
  obtain ⟨-, -, m3, -, m5⟩ := hm
  rw [hV.2.2.1.1, nI_clamp (by omega)] at m5
  have m5' := (bhA_z h12).mp m5
  have ne : ∀ j, j ≠ 13 + 4 * owA a t → j ≠ 8 → cbA a t j = a j := fun j h1 h2 => by
    unfold cbA
    rw [upd_ne h1, upd_ne h2]
  have at8 : cbA a t 8 = a 8 ^^^ 1 <<< (nI t &&& 31) := by
    unfold cbA
    rw [upd_ne (by omega), upd_eq]
  have hi : ∀ j, 44 ≤ j → cbA a t j = a j := fun j hj => ne j (by omega) (by omega)
  obtain ⟨b1, b2, b3, b4, ⟨G, hG1, eG, hG2⟩, b6⟩ := hB
  rw [eG, inS_nI (by omega) (by omega)] at m3
  have e8 : cbA a t 8 = nI (G ^^^ 2 ^ t) := by rw [at8, eG, nIbit (by omega), nIxor]
  have hlt : G ^^^ 2 ^ t < 4096 := Nat.xor_lt_two_pow (n := 12) hG1 (Nat.pow_lt_pow_right (by omega) (by omega))
  refine ⟨VA_keep hV (fun j hj => ne j (by omega) (by omega)), ⟨fun s hs => by rw [ne _ (by omega) (by omega)]; exact b1 s hs, fun j hj => by rw [hi _ (by omega)]; exact b2 j hj, fun t' d ht hd => by rw [hi _ (by omega)]; exact b3 t' d ht hd, fun t' ht' => ?_, ⟨G ^^^ 2 ^ t, hlt, e8, fun t' ht' => ?_⟩, by rw [ne 9 (by omega) (by omega)]; exact b6⟩, GN_c hG (fun t' ht' z => ?_) hi, fun s' hs' => ?_, LK_c hL hi, ?_⟩
  · obtain ⟨A, hA, eA, hA2⟩ := b4 t' ht'
    exact ⟨A, hA, by rw [hi _ (by omega)]; exact eA, fun o ho => ⟨(hA2 o ho).1, by rw [hi _ (by omega), hi _ (by omega)]; exact (hA2 o ho).2⟩⟩
  · obtain ⟨g1, g2⟩ := (x2_bit m3).mp ht'
    refine ⟨(hG2 t' g1).1, fun A hA eA o hoA => (x2_bit m3).mpr ⟨(hG2 t' g1).2 A hA (by rw [← hi _ (by omega)]; exact eA) o hoA, fun z => ?_⟩⟩
    refine m5' t' (hG2 t' g1).1 ⟨by rw [eG, inS_nI (by omega) (by have := (hG2 t' g1).1; omega)]; exact g1, ?_⟩
    rw [← hi (46 + 3 * t') (by omega), eA, inS_nI (by omega) (by omega), ← z]
    exact hoA
  · rw [e8, inS_nI (by omega) (by omega)] at z
    rw [eG, inS_nI (by omega) (by omega)]
    exact ((x2_bit m3).mp z).1
  · obtain ⟨T, W, e1, e2, q⟩ := hW s' hs'
    exact ⟨T, W, by rw [ne _ (by omega) (by omega)]; exact e1, by rw [ne 4 (by omega) (by omega)]; exact e2, q⟩
  · rw [ne 7 (by omega) (by omega), cp_c ns (fun s hs => ne _ (by omega) (by omega))]
    exact h7

end
