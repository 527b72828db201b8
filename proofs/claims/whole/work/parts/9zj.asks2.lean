/-! PART 9ZJ: what is asked, is answered alike, on -/

noncomputable section
theorem OK_1 {m : MM} (h : RST m) {v w : Int32} (hv : v = w) {fm : MM → Option MV × MM} (hf : ∀ x, fm (stC m x) = gvM (stC m x) w) : OKo m (gvC m v) fm := by
  have e := hf 0
  refine ⟨MC_C, ?_, ?_⟩
  · show _ = (fm (stC m 0)).1
    rw [e, ← hv]; rfl
  · show INV (fm (stC m 0)).2
    rw [e]; exact IN_s h 0
theorem OK_0 {m : MM} (h : RST m) {k : Int32} {fm : MM → Option MV × MM} (hf : ∀ x, fm (stC m x) = rfM (stC m x) k) : OKo m (rfC m k) fm := by
  have e := hf k
  refine ⟨MC_C, ?_, ?_⟩
  · show _ = (fm (stC m k)).1
    rw [e]; rfl
  · show INV (fm (stC m k)).2
    rw [e]; exact IN_s h k
theorem OK_1n {m : MM} (h : RST m) {v w : Int32} (hv : v = w) (hn : v = -1 ∨ ¬ v < 0) {fm : MM → Option MV × MM} (hf : ∀ x, fm (stC m x) = onM (stC m x) w) : OKo m (onC m v) fm := by
  have := OK_2n h (p := False) (q := True) (v := v) (w := w) (by simp) (fun _ => ⟨hv, hn⟩) (fm := fm) (fun x => (hf x).trans (if_pos trivial).symm)
  rw [if_neg (fun z => z)] at this
  exact this
theorem if_3 {m : MM} {p q r s : Prop} [Decidable p] [Decidable q] [Decidable r] [Decidable s] (u v : Int32) : (if p then rfC m 1 else if q then rfC m 1 else if r then (if s then gvC m u else gvC m v) else rfC m 1) = if (p ∨ q ∨ ¬ r) then rfC m 1 else gvC m (if s then u else v) := by
  by_cases x : p
  · simp [x]
  · by_cases y : q
    · simp [y]
    · by_cases z : r
      · by_cases w : s <;> simp [x, y, z, w]
      · simp [z]
theorem gv_if {M : MM} {s : Prop} [Decidable s] (u v : Int32) : (if s then gvM M u else gvM M v) = gvM M (if s then u else v) := by
  by_cases w : s
  · rw [if_pos w, if_pos w]
  · rw [if_neg w, if_neg w]
theorem c3 {p q r t : Prop} [Decidable p] [Decidable q] [Decidable r] (h : p ↔ ¬ t) : (p ∨ q ∨ ¬ r) ↔ ¬ (t ∧ ¬ q ∧ r) := by
  constructor
  · rintro (z | z | z) ⟨a, b, c⟩
    · exact h.mp z a
    · exact b z
    · exact z c
  · intro z
    by_cases x : p
    · exact Or.inl x
    · by_cases y : q
      · exact Or.inr (Or.inl y)
      · by_cases w : r
        · exact absurd ⟨Classical.byContradiction (fun t => x (h.mpr t)), y, w⟩ z
        · exact Or.inr (Or.inr w)
theorem AG_bh {a b : Nat → Int32} {ns nm nt : Nat} (h : AG a b ns nm nt) (t : Nat) : ∀ n, n ≤ nt → bhA a t n = bhA b t n := AG_bhA h t
theorem AG_enS {a b : Nat → Int32} {ns nm nt : Nat} (h : AG a b ns nm nt) (hV : VA a ns nm nt) (x w : Int32) : ∀ n, n ≤ nt → enS a x w n = enS b x w n
  | 0, _ => rfl
  | n + 1, hn => by
    rw [enS, enS, AG_enS h hV x w n (by omega), (AG_2 h hV).1, (AG_2 h hV).2, (AG_t h (show n < nt by omega)).2.2, AG_bhA h n nt (Nat.le_refl _)]
theorem OK_ends {m : MM} (h : RST m) (x w : Int32) : OKo m (cl_ends m x w) (fun m1 => Fn_X12_ends m1 [vR 12 0, vI x, vI w]) := by
  obtain ⟨ns, nm, nt, hG, c13, c14, c15, a0, a1, a2, b1, b2, b3⟩ := NOW h
  have hV := hG.1.1
  have hB : BO (abV m (m.2.2 0)) ns nm nt := AG_BO (AG_sy hG.2.1) hG.2.2.1.2.1
  unfold cl_ends
  rw [if_3]
  refine OK_2 h (w := enS (m.1 54 0) (thA (m.1 54 0) x &&& m.1 54 0 8) w (m.1 54 0 2).toNatClampNeg) (q := suP (m.1 54 0) x ∧ ¬ w < 0 ∧ w ≤ 1) (c3 (by unfold suP; rw [c13, a0]; exact or_nn)) (fun q => ?_) (fun _ => rfl)
  rw [c15, a2, nI_clamp (by omega)]
  have e8 : m.1 1 (m.2.2 0) 5 = abV m (m.2.2 0) 8 := rfl
  rw [e8, ← AG_enS hG.2.1 hV _ _ nt (Nat.le_refl _), ← AG_thA hG.2.1 hV, ← AG_8 hG.2.1]
  by_cases c : w = 0
  · rw [if_pos c, c]
    exact (en_fi hV hB x).symm
  · rw [if_neg c]
    exact (en_la hV hB x c).symm
theorem OK_lies {m : MM} (h : RST m) (x y w : Int32) : OKo m (cl_lies m x y w) (fun m1 => Fn_X12_lies m1 [vR 12 0, vI x, vI y, vI w]) := by
  obtain ⟨ns, nm, nt, hG, c13, c14, c15, a0, a1, a2, b1, b2, b3⟩ := NOW h
  have hV := hG.1.1
  unfold cl_lies
  rw [if_3]
  refine OK_2 h (w := if w = 0 then nI (pcN (liA (m.1 54 0) x).toNatClampNeg) else syA (m.1 54 0) (liA (m.1 54 0) x) y.toNatClampNeg) (q := (suP (m.1 54 0) x ∧ maP (m.1 54 0) y) ∧ ¬ w < 0 ∧ w ≤ 1) (c3 (by unfold npC suP maP; rw [c13, c14, a0, a1]; exact nn_or)) (fun q => ?_) (fun X => ?_)
  · obtain ⟨j, hj, rfl⟩ := mp_in a1 (by omega) q.1.2
    have e9 : m.1 1 (m.2.2 0) 6 = abV m (m.2.2 0) 9 := rfl
    unfold liA
    rw [e9, nI_clamp (by omega), AG_thA hG.2.1 hV, AG_9 hG.2.1, AG_syA hG.2.1 hV _ (show j < 4 by omega)]
  · rw [← gv_if]
    rfl
theorem nI_or {x : Int32} (n : Nat) (hn : n < 1000) : (∃ k, k ≤ n ∧ x = nI k) ∨ (x < 0 ∨ ¬ x ≤ nI n) := by
  by_cases c : x < 0
  · exact Or.inr (Or.inl c)
  · by_cases c2 : x ≤ nI n
    · obtain ⟨j, hj, e⟩ := arg_in (x := x) (n := n + 1) c (fun z => by
        have h1 := Int32.le_iff_toInt_le.mp c2
        have h2 := Int32.le_iff_toInt_le.mp z
        rw [nI_tI (by omega)] at h1 h2
        omega) (by omega)
      exact Or.inl ⟨j, by omega, e⟩
    · exact Or.inr (Or.inr c2)
theorem k10 {k : Nat} (h : k ≤ 9) : k = 0 ∨ k = 1 ∨ k = 2 ∨ k = 3 ∨ k = 4 ∨ k = 5 ∨ k = 6 ∨ k = 7 ∨ k = 8 ∨ k = 9 := by omega
theorem no_k {x : Int32} {n : Nat} (h : x < 0 ∨ ¬ x ≤ nI n) (hn : n < 1000) (k : Nat) (hk : k ≤ n) : ¬ x = nI k := fun z => by
  rw [z] at h
  rcases h with w | w
  · exact n_m1 (by omega) w
  · exact w ((nI_leI (by omega) (by omega)).mpr hk)
theorem OK_told {m : MM} (h : RST m) (x : Int32) : OKo m (cl_told m x) (fun m1 => Fn_X12_told m1 [vR 12 0, vI x]) := by
  obtain ⟨ns, nm, nt, hG, c13, c14, c15, a0, a1, a2, b1, b2, b3⟩ := NOW h
  have hA := hG.2.1
  rcases nI_or (x := x) 9 (by decide) with ⟨k, hk, rfl⟩ | z
  · rcases k10 hk with rfl | rfl | rfl | rfl | rfl | rfl | rfl | rfl | rfl | rfl
    · exact OK_1 h (w := m.1 54 0 0) (AG_0 hA (show 0 ≤ 6 by decide)) (fun _ => rfl)
    · exact OK_1 h (w := m.1 54 0 1) (AG_0 hA (show 1 ≤ 6 by decide)) (fun _ => rfl)
    · exact OK_1 h (w := m.1 54 0 2) (AG_0 hA (show 2 ≤ 6 by decide)) (fun _ => rfl)
    · exact OK_1 h (w := m.1 54 0 3) (AG_0 hA (show 3 ≤ 6 by decide)) (fun _ => rfl)
    · exact OK_1 h (w := m.1 54 0 4) (AG_0 hA (show 4 ≤ 6 by decide)) (fun _ => rfl)
    · exact OK_1 h (w := m.1 54 0 5) (AG_0 hA (show 5 ≤ 6 by decide)) (fun _ => rfl)
    · exact OK_1 h (w := m.1 54 0 6) (AG_0 hA (show 6 ≤ 6 by decide)) (fun _ => rfl)
    · refine OK_1 h (v := cpF (abV m (m.2.2 0)) (m.1 6 (m.2.2 0) 13).toNatClampNeg) (w := m.1 54 0 7) ?_ (fun _ => rfl)
      rw [c13, nI_clamp (by omega), hG.2.2.1.2.2.2.2.2]
      exact AG_cpF hA ns (Nat.le_refl _)
    · exact OK_1 h (w := m.1 54 0 8) (AG_8 hA) (fun _ => rfl)
    · exact OK_1 h (w := m.1 54 0 9) (AG_9 hA) (fun _ => rfl)
  · have e : cl_told m x = rfC m 1 := by
      unfold cl_told
      rw [if_neg (show ¬ x = 0 from no_k z (by decide) 0 (by decide)), if_neg (show ¬ x = 1 from no_k z (by decide) 1 (by decide)), if_neg (show ¬ x = 2 from no_k z (by decide) 2 (by decide)), if_neg (show ¬ x = 3 from no_k z (by decide) 3 (by decide)), if_neg (show ¬ x = 4 from no_k z (by decide) 4 (by decide)), if_neg (show ¬ x = 5 from no_k z (by decide) 5 (by decide)), if_neg (show ¬ x = 6 from no_k z (by decide) 6 (by decide)), if_neg (show ¬ x = 7 from no_k z (by decide) 7 (by decide)), if_neg (show ¬ x = 8 from no_k z (by decide) 8 (by decide)), if_neg (show ¬ x = 9 from no_k z (by decide) 9 (by decide))]
    rw [e]
    exact OK_0 h (fun _ => if_neg (fun w => z.elim w.1 (fun y => y w.2)))
theorem OK_suitor {m : MM} (h : RST m) (x w : Int32) : OKo m (cl_suitor m x w) (fun m1 => Fn_X12_suitor m1 [vR 12 0, vI x, vI w]) := by
  obtain ⟨ns, nm, nt, hG, c13, c14, c15, a0, a1, a2, b1, b2, b3⟩ := NOW h
  have hA := hG.2.1
  have hV := hG.1.1
  unfold cl_suitor
  by_cases cx : x < 0 ∨ m.1 6 (m.2.2 0) 13 ≤ x
  · rw [if_pos cx]
    exact OK_0 h (fun _ => if_neg (fun z => by
      have q := z.1
      rw [c13] at cx
      exact cx.elim q.1 (fun y => q.2 (show m.1 54 0 0 ≤ x by rw [a0]; exact y))))
  · rw [if_neg cx]
    obtain ⟨i, hi, rfl⟩ := ou_in c13 (by omega) cx
    have ei : (nI i).toNatClampNeg = i := nI_clamp (by omega)
    have hsu : suP (m.1 54 0) (nI i) := ⟨n_m1 (by omega), by rw [a0, nI_leI (by omega) (by omega)]; omega⟩
    obtain ⟨s1, s2, s3, s4⟩ := AG_s hA hi
    rcases nI_or (x := w) 6 (by decide) with ⟨k, hk, rfl⟩ | z
    · have yes : ∀ X : Int32, Fn_X12_suitor (stC m X) [vR 12 0, vI (nI i), vI (nI k)] = suR (stC m X) (nI i) (nI k) := fun X => if_pos ⟨hsu, n_m1 (by omega), (nI_leI (b := 6) (by omega) (by decide)).mpr hk⟩
      have : k = 0 ∨ k = 1 ∨ k = 2 ∨ k = 3 ∨ k = 4 ∨ k = 5 ∨ k = 6 := by omega
      rcases this with rfl | rfl | rfl | rfl | rfl | rfl | rfl
      · refine OK_1 h (w := m.1 54 0 (12 + 4 * (nI i).toNatClampNeg + 0)) ?_ (fun X => (yes X).trans rfl)
        rw [ei]
        show m.1 30 (m.2.2 0) i = m.1 54 0 (12 + 4 * i)
        rw [← s1, ab_age (by omega)]
      · refine OK_1 h (w := m.1 54 0 (12 + 4 * (nI i).toNatClampNeg + 1)) ?_ (fun X => (yes X).trans rfl)
        rw [ei, show 12 + 4 * i + 1 = 13 + 4 * i by omega, ← s2, ab_cow (by omega)]
      · refine OK_1 h (w := m.1 54 0 (12 + 4 * (nI i).toNatClampNeg + 2)) ?_ (fun X => (yes X).trans rfl)
        rw [ei, show 12 + 4 * i + 2 = 14 + 4 * i by omega, ← s3, ab_wek (by omega)]
      · refine OK_1 h (v := wtA (abV m (m.2.2 0)) (thA (abV m (m.2.2 0)) (nI i) &&& ((abV m (m.2.2 0)) 8 ^^^ -1))) (w := wtA (m.1 54 0) (thA (m.1 54 0) (nI i) &&& (m.1 54 0 8 ^^^ -1))) ?_ (fun X => (yes X).trans rfl)
        rw [AG_thA hA hV, AG_8 hA, AG_wtA hA hV]
      · exact OK_1 h (v := lsA' (abV m (m.2.2 0)) (nI i)) (w := lsA' (m.1 54 0) (nI i)) (AG_lsA hA hV _) (fun X => (yes X).trans rfl)
      · refine OK_1n h (v := m.1 18 (m.2.2 0) (nI i).toNatClampNeg) (w := m.1 54 0 (15 + 4 * (nI i).toNatClampNeg)) ?_ ?_ (fun X => (yes X).trans rfl)
        · rw [ei, ← s4, ab_mai (by omega)]
        · rw [ei, ← ab_mai (by omega)]
          exact (hG.1.2.1 i (by omega)).imp id (fun ⟨d, hd, e⟩ => by rw [e]; exact n_m1 (by omega))
      · exact OK_1 h (v := thA (abV m (m.2.2 0)) (nI i)) (w := thA (m.1 54 0) (nI i)) (AG_thA hA hV _) (fun X => (yes X).trans rfl)
    · have e : cl_suitor_w m (nI i) w = rfC m 1 := by
        unfold cl_suitor_w
        rw [if_neg (show ¬ w = 0 from no_k z (by decide) 0 (by decide)), if_neg (show ¬ w = 1 from no_k z (by decide) 1 (by decide)), if_neg (show ¬ w = 2 from no_k z (by decide) 2 (by decide)), if_neg (show ¬ w = 3 from no_k z (by decide) 3 (by decide)), if_neg (show ¬ w = 4 from no_k z (by decide) 4 (by decide)), if_neg (show ¬ w = 5 from no_k z (by decide) 5 (by decide)), if_neg (show ¬ w = 6 from no_k z (by decide) 6 (by decide))]
      rw [e]
      exact OK_0 h (fun _ => if_neg (fun w => z.elim w.2.1 (fun y => y w.2.2)))
theorem OK_maid {m : MM} (h : RST m) (x w : Int32) : OKo m (cl_maid m x w) (fun m1 => Fn_X12_maid m1 [vR 12 0, vI x, vI w]) := by
  obtain ⟨ns, nm, nt, hG, c13, c14, c15, a0, a1, a2, b1, b2, b3⟩ := NOW h
  have hA := hG.2.1
  have hV := hG.1.1
  unfold cl_maid
  by_cases cx : x < 0 ∨ m.1 6 (m.2.2 0) 14 ≤ x
  · rw [if_pos cx]
    exact OK_0 h (fun _ => if_neg (fun z => by
      have q := z.1
      rw [c14] at cx
      exact cx.elim q.1 (fun y => q.2 (show m.1 54 0 1 ≤ x by rw [a1]; exact y))))
  · rw [if_neg cx]
    obtain ⟨i, hi, rfl⟩ := ou_in c14 (by omega) cx
    have ei : (nI i).toNatClampNeg = i := nI_clamp (by omega)
    have hsu : maP (m.1 54 0) (nI i) := ⟨n_m1 (by omega), by rw [a1, nI_leI (by omega) (by omega)]; omega⟩
    obtain ⟨s1, s2, s3, s4⟩ := AG_d hA hi
    rcases nI_or (x := w) 4 (by decide) with ⟨k, hk, rfl⟩ | z
    · have yes : ∀ X : Int32, Fn_X12_maid (stC m X) [vR 12 0, vI (nI i), vI (nI k)] = mdR (stC m X) (nI i) (nI k) := fun X => if_pos ⟨hsu, n_m1 (by omega), (nI_leI (b := 4) (by omega) (by decide)).mpr hk⟩
      have : k = 0 ∨ k = 1 ∨ k = 2 ∨ k = 3 ∨ k = 4 := by omega
      rcases this with rfl | rfl | rfl | rfl | rfl
      · refine OK_1 h (w := m.1 54 0 (28 + 4 * (nI i).toNatClampNeg + 0)) ?_ (fun X => (yes X).trans rfl)
        rw [ei]
        show m.1 32 (m.2.2 0) i = m.1 54 0 (28 + 4 * i)
        rw [← s1, ab_bar (by omega)]
      · refine OK_1 h (w := m.1 54 0 (28 + 4 * (nI i).toNatClampNeg + 1)) ?_ (fun X => (yes X).trans rfl)
        rw [ei, show 28 + 4 * i + 1 = 29 + 4 * i by omega, ← s2, ab_ris (by omega)]
      · refine OK_1 h (w := m.1 54 0 (28 + 4 * (nI i).toNatClampNeg + 2)) ?_ (fun X => (yes X).trans rfl)
        rw [ei, show 28 + 4 * i + 2 = 30 + 4 * i by omega, ← s3, ab_mot (by omega)]
      · refine OK_1 h (v := brA (abV m (m.2.2 0)) (nI i).toNatClampNeg ((abV m (m.2.2 0)) 6)) (w := brA (m.1 54 0) (nI i).toNatClampNeg (m.1 54 0 6)) ?_ (fun X => (yes X).trans rfl)
        rw [ei, AG_brA hA hi, AG_0 hA (show 6 ≤ 6 by decide)]
      · refine OK_1n h (v := m.1 19 (m.2.2 0) (nI i).toNatClampNeg) (w := m.1 54 0 (31 + 4 * (nI i).toNatClampNeg)) ?_ ?_ (fun X => (yes X).trans rfl)
        · rw [ei, ← s4, ab_sui (by omega)]
        · rw [ei, ← ab_sui (by omega)]
          exact (hG.1.2.2.1 i (by omega)).imp id (fun ⟨d, hd, e⟩ => by rw [e]; exact n_m1 (by omega))
    · have e : cl_maid_w m (nI i) w = rfC m 1 := by
        unfold cl_maid_w
        rw [if_neg (show ¬ w = 0 from no_k z (by decide) 0 (by decide)), if_neg (show ¬ w = 1 from no_k z (by decide) 1 (by decide)), if_neg (show ¬ w = 2 from no_k z (by decide) 2 (by decide)), if_neg (show ¬ w = 3 from no_k z (by decide) 3 (by decide)), if_neg (show ¬ w = 4 from no_k z (by decide) 4 (by decide))]
      rw [e]
      exact OK_0 h (fun _ => if_neg (fun w => z.elim w.2.1 (fun y => y w.2.2)))
theorem OK_thing {m : MM} (h : RST m) (x w : Int32) : OKo m (cl_thing m x w) (fun m1 => Fn_X12_thing m1 [vR 12 0, vI x, vI w]) := by
  obtain ⟨ns, nm, nt, hG, c13, c14, c15, a0, a1, a2, b1, b2, b3⟩ := NOW h
  have hA := hG.2.1
  have hV := hG.1.1
  unfold cl_thing
  by_cases cx : x < 0 ∨ m.1 6 (m.2.2 0) 15 ≤ x
  · rw [if_pos cx]
    exact OK_0 h (fun _ => if_neg (fun z => by
      have q := z.1
      rw [c15] at cx
      exact cx.elim q.1 (fun y => q.2 (show m.1 54 0 2 ≤ x by rw [a2]; exact y))))
  · rw [if_neg cx]
    obtain ⟨i, hi, rfl⟩ := ou_in c15 (by omega) cx
    have ei : (nI i).toNatClampNeg = i := nI_clamp (by omega)
    have hsu : tgP (m.1 54 0) (nI i) := ⟨n_m1 (by omega), by rw [a2, nI_leI (by omega) (by omega)]; omega⟩
    obtain ⟨s1, s2, s3⟩ := AG_t hA hi
    rcases nI_or (x := w) 4 (by decide) with ⟨k, hk, rfl⟩ | z
    · have yes : ∀ X : Int32, Fn_X12_thing (stC m X) [vR 12 0, vI (nI i), vI (nI k)] = tgR (stC m X) (nI i).toNatClampNeg (nI k) := fun X => if_pos ⟨hsu, n_m1 (by omega), (nI_leI (b := 4) (by omega) (by decide)).mpr hk⟩
      have : k = 0 ∨ k = 1 ∨ k = 2 ∨ k = 3 ∨ k = 4 := by omega
      rcases this with rfl | rfl | rfl | rfl | rfl
      · refine OK_1 h (v := m.1 35 (m.2.2 0) (nI i).toNatClampNeg) (w := m.1 54 0 (44 + 3 * (nI i).toNatClampNeg)) ?_ (fun X => (yes X).trans rfl)
        rw [ei, ← s1, ab_of (by omega)]
      · refine OK_1 h (v := m.1 36 (m.2.2 0) (nI i).toNatClampNeg) (w := m.1 54 0 (45 + 3 * (nI i).toNatClampNeg)) ?_ (fun X => (yes X).trans rfl)
        rw [ei, ← s2, ab_wor (by omega)]
      · exact OK_1 h (v := tsA (abV m (m.2.2 0)) (nI i).toNatClampNeg) (w := tsA (m.1 54 0) (nI i).toNatClampNeg) (AG_tsA hA _) (fun X => (yes X).trans rfl)
      · refine OK_1 h (v := m.1 37 (m.2.2 0) (nI i).toNatClampNeg) (w := m.1 54 0 (46 + 3 * (nI i).toNatClampNeg)) ?_ (fun X => (yes X).trans rfl)
        rw [ei, ← s3, ab_aft (by omega)]
      · refine OK_1 h (v := if inS (m.1 6 (m.2.2 0) 19) (nI i) then 99 else nI (pcN (m.1 38 (m.2.2 0) (nI i).toNatClampNeg).toNatClampNeg)) (w := nI (dpA (m.1 54 0) (m.1 54 0 2).toNatClampNeg (nI i).toNatClampNeg)) ?_ (fun X => (yes X).trans rfl)
        have hlt := nd_lt hV (AG_BO (AG_sy hA) hG.2.2.1.2.1) hi
        have hst : stN (fun j => nvP (abV m (m.2.2 0)) nt j) nt < 4096 := Nat.lt_of_lt_of_le (stN_lt _ nt) (Nat.pow_le_pow_right (n := 2) (by omega) b3)
        rw [ei, a2, nI_clamp (by omega), hG.2.2.2.1.1 i hi, hG.2.2.2.1.2, nI_clamp (by omega)]
        unfold dpA
        have c1 : inS (nI (stN (fun j => nvP (abV m (m.2.2 0)) nt j) nt)) (nI i) ↔ nvP (m.1 54 0) nt i := by
          rw [inS_nI (by omega) (by omega), stN_bit, ← AG_nv hA hi]
          exact ⟨fun z => z.2, fun z => ⟨hi, z⟩⟩
        by_cases c : nvP (m.1 54 0) nt i
        · rw [if_pos (c1.mpr c), if_pos c]
          rfl
        · rw [if_neg (fun z => c (c1.mp z)), if_neg c, AG_ndA hA hi]
    · have e : cl_thing_w m (nI i) w = rfC m 1 := by
        unfold cl_thing_w
        rw [if_neg (show ¬ w = 0 from no_k z (by decide) 0 (by decide)), if_neg (show ¬ w = 1 from no_k z (by decide) 1 (by decide)), if_neg (show ¬ w = 2 from no_k z (by decide) 2 (by decide)), if_neg (show ¬ w = 3 from no_k z (by decide) 3 (by decide)), if_neg (show ¬ w = 4 from no_k z (by decide) 4 (by decide))]
      rw [e]
      exact OK_0 h (fun _ => if_neg (fun w => z.elim w.2.1 (fun y => y w.2.2)))
theorem OK_lived {m : MM} (h : RST m) (x : Int32) : OKo m (cl_lived m x) (fun m1 => Fn_X12_lived m1 [vR 12 0, vI x]) := by
  obtain ⟨-, -, -, -, -, -, -, -, -, hl, h5, -⟩ := id h
  unfold cl_lived
  rcases nI_or (x := x) 4 (by decide) with ⟨k, hk, rfl⟩ | z
  · have ek : (nI k).toNatClampNeg = k := nI_clamp (by omega)
    have yes : ∀ X : Int32, Fn_X12_lived (stC m X) [vR 12 0, vI (nI k)] = if m.1 12 0 39 = 0 then rfM (stC m X) 6 else gvM (stC m X) (m.1 71 0 (nI k).toNatClampNeg) := fun X => if_pos ⟨n_m1 (by omega), (nI_leI (b := 4) (by omega) (by decide)).mpr hk⟩
    rw [if_neg (fun z => z.elim (n_m1 (by omega)) (fun y => by have := (nI_leI (a := 5) (by decide) (by omega)).mp y; omega))]
    rcases hl with ⟨e1, e2⟩ | ⟨e1, e2⟩
    · rw [if_pos e1]
      exact OK_0 h (fun X => (yes X).trans (if_pos e2))
    · rw [if_neg (by rw [e1]; decide)]
      exact OK_1 h (w := m.1 71 0 (nI k).toNatClampNeg) (by rw [ek]; exact h5 k (by omega)) (fun X => (yes X).trans (if_neg (by rw [e2]; decide)))
  · have c : x < 0 ∨ 5 ≤ x := by
      rcases z with w | w
      · exact Or.inl w
      · refine Or.inr ?_
        have h1 := Int32.not_le.mp w
        rw [Int32.lt_iff_toInt_lt, nI_tI (by decide)] at h1
        rw [Int32.le_iff_toInt_le, show (5 : Int32).toInt = 5 by decide]
        omega
    rw [if_pos c]
    exact OK_0 h (fun _ => if_neg (fun w => z.elim w.1 (fun y => y w.2)))
/-- what changes nothing -/
theorem OK_fault {m : MM} (h : INV m) (x : Int32) : OKo m (cl_fault m x) (fun m1 => Fn_X12_fault m1 [vR 12 0, vI x]) := by
  obtain ⟨-, -, -, -, -, -, -, -, ⟨h1, h2⟩, -⟩ := h.1
  unfold cl_fault
  by_cases c : x = 0
  · rw [if_pos c]
    refine ⟨MC_r m, ?_, h⟩
    show some (vI (m.1 11 0 18)) = some (vI (if x = 0 then m.1 12 0 16 else if x = 1 then m.1 12 0 17 else -1))
    rw [if_pos c, h1]
  · rw [if_neg c]
    by_cases d : x = 1
    · rw [if_pos d]
      refine ⟨MC_r m, ?_, h⟩
      show some (vI (m.1 11 0 19)) = some (vI (if x = 0 then m.1 12 0 16 else if x = 1 then m.1 12 0 17 else -1))
      rw [if_neg c, if_pos d, h2]
    · rw [if_neg d]
      refine ⟨MC_r m, ?_, h⟩
      show some (vI (-1)) = some (vI (if x = 0 then m.1 12 0 16 else if x = 1 then m.1 12 0 17 else -1))
      rw [if_neg c, if_neg d]
theorem OK_status {m : MM} (h : INV m) : OKo m (Fn_X11_status m [vR 11 0]) (fun m1 => Fn_X12_status m1 [vR 12 0]) := by
  refine ⟨MC_r m, ?_, h⟩
  show some (vI (m.1 11 0 15)) = some (vI (m.1 12 0 2))
  rw [h.2]
theorem OK_top {m : MM} (h : INV m) : OKo m (Fn_X11_top m [vR 11 0]) (fun m1 => Fn_X12_top m1 [vR 12 0]) := by
  obtain ⟨-, -, -, -, -, -, -, ⟨h1, h2⟩, -⟩ := h.1
  refine ⟨MC_r m, ?_, h⟩
  show some (vL (m.2.1 11 0 16)) = some (vL (m.2.1 12 0 3))
  rw [h1]
theorem OK_bottom {m : MM} (h : INV m) : OKo m (Fn_X11_bottom m [vR 11 0]) (fun m1 => Fn_X12_bottom m1 [vR 12 0]) := by
  obtain ⟨-, -, -, -, -, -, -, ⟨h1, h2⟩, -⟩ := h.1
  refine ⟨MC_r m, ?_, h⟩
  show some (vL (m.2.1 11 0 17)) = some (vL (m.2.1 12 0 4))
  rw [h2]

end
