/-! PART 9ZI: what is asked, is answered alike -/

noncomputable section
/-- the present valley -/
theorem NOW {m : MM} (h : RST m) : ∃ ns nm nt, VGo m (m.2.2 0) (m.1 54 0) (m.2.1 55 0) ns nm nt ∧ m.1 6 (m.2.2 0) 13 = nI ns ∧ m.1 6 (m.2.2 0) 14 = nI nm ∧ m.1 6 (m.2.2 0) 15 = nI nt ∧ m.1 54 0 0 = nI ns ∧ m.1 54 0 1 = nI nm ∧ m.1 54 0 2 = nI nt ∧ ns ≤ 4 ∧ nm ≤ 4 ∧ nt ≤ 12 := by
  obtain ⟨-, ⟨ns, nm, nt, hG⟩, -⟩ := h
  have hV := hG.1.1
  have hS := hG.2.2.1.1
  exact ⟨ns, nm, nt, hG, hV.1.1, hV.2.1.1, hV.2.2.1.1, hS.1.1, hS.2.1.1, hS.2.2.1.1, hS.1.2, hS.2.1.2, hS.2.2.1.2⟩
theorem sp_in {a : Nat → Int32} {x : Int32} {n : Nat} (ha : a 0 = nI n) (hn : n < 2 ^ 31) (h : suP a x) : ∃ i, i < n ∧ x = nI i := arg_in h.1 (by rw [← ha]; exact h.2) hn
theorem mp_in {a : Nat → Int32} {x : Int32} {n : Nat} (ha : a 1 = nI n) (hn : n < 2 ^ 31) (h : maP a x) : ∃ i, i < n ∧ x = nI i := arg_in h.1 (by rw [← ha]; exact h.2) hn
theorem tp_in {a : Nat → Int32} {x : Int32} {n : Nat} (ha : a 2 = nI n) (hn : n < 2 ^ 31) (h : tgP a x) : ∃ i, i < n ∧ x = nI i := arg_in h.1 (by rw [← ha]; exact h.2) hn
theorem nn_or {p q r s : Prop} [Decidable p] [Decidable q] [Decidable r] [Decidable s] : ((p ∨ q) ∨ (r ∨ s)) ↔ ¬ ((¬ p ∧ ¬ q) ∧ (¬ r ∧ ¬ s)) := by
  by_cases x : p
  · simp [x]
  · by_cases y : q
    · simp [y]
    · by_cases z : r
      · simp [z]
      · by_cases w : s <;> simp [x, y, z, w]
theorem OK_heard {m : MM} (h : RST m) (x y : Int32) : OKo m (cl_heard m x y) (fun m1 => Fn_X12_heard m1 [vR 12 0, vI x, vI y]) := by
  obtain ⟨ns, nm, nt, hG, c13, c14, c15, a0, a1, a2, b1, b2, b3⟩ := NOW h
  unfold cl_heard
  refine OK_2 h (w := hdA (m.1 54 0) x y.toNatClampNeg) (q := suP (m.1 54 0) x ∧ maP (m.1 54 0) y) (by unfold npC suP maP; rw [c13, c14, a0, a1]; exact nn_or) (fun q => ?_) (fun _ => rfl)
  obtain ⟨j, hj, rfl⟩ := mp_in a1 (by omega) q.2
  rw [nI_clamp (by omega)]
  exact AG_hdA hG.2.1 hG.1.1 x (by omega)
theorem OK_yes {m : MM} (h : RST m) (x y : Int32) : OKo m (cl_yes m x y) (fun m1 => Fn_X12_yes m1 [vR 12 0, vI x, vI y]) := by
  obtain ⟨ns, nm, nt, hG, c13, c14, c15, a0, a1, a2, b1, b2, b3⟩ := NOW h
  unfold cl_yes
  refine OK_2 h (w := bI (ysA (m.1 54 0) x.toNatClampNeg y.toNatClampNeg)) (q := suP (m.1 54 0) x ∧ maP (m.1 54 0) y) (by unfold npC suP maP; rw [c13, c14, a0, a1]; exact nn_or) (fun q => ?_) (fun _ => rfl)
  obtain ⟨i, hi, rfl⟩ := sp_in a0 (by omega) q.1
  obtain ⟨j, hj, rfl⟩ := mp_in a1 (by omega) q.2
  rw [nI_clamp (by omega), nI_clamp (by omega)]
  exact bI_iff (AG_ysA hG.2.1 hG.1.1 hi hj)
theorem OK_lacks {m : MM} (h : RST m) (x y : Int32) : OKo m (cl_lacks m x y) (fun m1 => Fn_X12_lacks m1 [vR 12 0, vI x, vI y]) := by
  obtain ⟨ns, nm, nt, hG, c13, c14, c15, a0, a1, a2, b1, b2, b3⟩ := NOW h
  unfold cl_lacks
  refine OK_2 h (w := brA (m.1 54 0) y.toNatClampNeg (m.1 54 0 6) - hdA (m.1 54 0) x y.toNatClampNeg) (q := suP (m.1 54 0) x ∧ maP (m.1 54 0) y) (by unfold npC suP maP; rw [c13, c14, a0, a1]; exact nn_or) (fun q => ?_) (fun _ => rfl)
  obtain ⟨j, hj, rfl⟩ := mp_in a1 (by omega) q.2
  rw [nI_clamp (by omega), AG_hdA hG.2.1 hG.1.1 x (show j < 4 by omega), AG_brA hG.2.1 hj, AG_0 hG.2.1 (show 6 ≤ 6 by decide)]
theorem OK_likes {m : MM} (h : RST m) (x y : Int32) : OKo m (cl_likes m x y) (fun m1 => Fn_X12_likes m1 [vR 12 0, vI x, vI y]) := by
  obtain ⟨ns, nm, nt, hG, c13, c14, c15, a0, a1, a2, b1, b2, b3⟩ := NOW h
  unfold cl_likes
  refine OK_2 h (w := m.1 54 0 (128 + 4 * x.toNatClampNeg + y.toNatClampNeg)) (q := suP (m.1 54 0) x ∧ maP (m.1 54 0) y) (by unfold npC suP maP; rw [c13, c14, a0, a1]; exact nn_or) (fun q => ?_) (fun _ => rfl)
  obtain ⟨i, hi, rfl⟩ := sp_in a0 (by omega) q.1
  obtain ⟨j, hj, rfl⟩ := mp_in a1 (by omega) q.2
  have e : (nI i * 4 + nI j).toNatClampNeg = 4 * i + j := by
    rw [show (4 : Int32) = nI 4 from rfl, pk_mul, nI_add, nI_clamp (by omega)]
    omega
  rw [e, nI_clamp (by omega), nI_clamp (by omega), ← AG_l hG.2.1 (show i < 4 by omega) (show j < 4 by omega), ab_lik (by omega) (by omega)]
theorem OK_says {m : MM} (h : RST m) (x y : Int32) : OKo m (cl_says m x y) (fun m1 => Fn_X12_says m1 [vR 12 0, vI x, vI y]) := by
  obtain ⟨ns, nm, nt, hG, c13, c14, c15, a0, a1, a2, b1, b2, b3⟩ := NOW h
  unfold cl_says
  rw [if_if]
  refine OK_2 h (w := m.1 54 0 (80 + 4 * x.toNatClampNeg + y.toNatClampNeg)) (q := tgP (m.1 54 0) x ∧ maP (m.1 54 0) y) (by unfold tgP maP; rw [c15, c14, a2, a1]; exact nn_or) (fun q => ?_) (fun _ => rfl)
  obtain ⟨i, hi, rfl⟩ := tp_in a2 (by omega) q.1
  obtain ⟨j, hj, rfl⟩ := mp_in a1 (by omega) q.2
  rw [nI_clamp (by omega), nI_clamp (by omega)]
  exact AG_y hG.2.1 hi (by omega)
theorem OK_may {m : MM} (h : RST m) (x : Int32) : OKo m (cl_may m x) (fun m1 => Fn_X12_may m1 [vR 12 0, vI x]) := by
  obtain ⟨ns, nm, nt, hG, c13, c14, c15, a0, a1, a2, b1, b2, b3⟩ := NOW h
  unfold cl_may
  refine OK_2 h (w := myA (m.1 54 0) x (m.1 54 0 2).toNatClampNeg) (q := suP (m.1 54 0) x) (by unfold suP; rw [c13, a0]; exact or_nn) (fun q => ?_) (fun _ => rfl)
  rw [c15, a2, nI_clamp (by omega)]
  exact AG_myA hG.2.1 hG.1.1 x nt (Nat.le_refl _)
theorem OK_bare {m : MM} (h : RST m) (x : Int32) : OKo m (cl_bare m x) (fun m1 => Fn_X12_bare m1 [vR 12 0, vI x]) := by
  obtain ⟨ns, nm, nt, hG, c13, c14, c15, a0, a1, a2, b1, b2, b3⟩ := NOW h
  unfold cl_bare
  refine OK_2 h (w := bI (thA (m.1 54 0) x &&& (m.1 54 0 8 ^^^ (-1)) = 0)) (q := suP (m.1 54 0) x) (by unfold suP; rw [c13, a0]; exact or_nn) (fun q => ?_) (fun _ => rfl)
  rw [AG_thA hG.2.1 hG.1.1, AG_8 hG.2.1]
theorem OK_proud {m : MM} (h : RST m) (x : Int32) : OKo m (cl_proud m x) (fun m1 => Fn_X12_proud m1 [vR 12 0, vI x]) := by
  obtain ⟨ns, nm, nt, hG, c13, c14, c15, a0, a1, a2, b1, b2, b3⟩ := NOW h
  unfold cl_proud
  refine OK_2 h (w := prS (m.1 54 0) x.toNatClampNeg (m.1 54 0 2).toNatClampNeg) (q := maP (m.1 54 0) x) (by unfold maP; rw [c14, a1]; exact or_nn) (fun q => ?_) (fun _ => rfl)
  obtain ⟨j, hj, rfl⟩ := mp_in a1 (by omega) q
  rw [c15, a2, nI_clamp (by omega), nI_clamp (by omega)]
  exact AG_prS hG.2.1 (show j < 4 by omega) nt (Nat.le_refl _)
theorem chA_n (a : Nat → Int32) (d : Nat) : ∀ n, n < 2 ^ 31 → chA a d n = -1 ∨ ¬ chA a d n < 0
  | 0, _ => Or.inl rfl
  | n + 1, h => by
    rw [chA]
    split
    · exact Or.inr (n_m1 (by omega))
    · exact chA_n a d n (by omega)
theorem OK_wouldHave {m : MM} (h : RST m) (x : Int32) : OKo m (cl_wouldHave m x) (fun m1 => Fn_X12_wouldHave m1 [vR 12 0, vI x]) := by
  obtain ⟨ns, nm, nt, hG, c13, c14, c15, a0, a1, a2, b1, b2, b3⟩ := NOW h
  unfold cl_wouldHave
  refine OK_2n h (w := whA (m.1 54 0) x.toNatClampNeg (m.1 54 0 0).toNatClampNeg) (q := maP (m.1 54 0) x) (by unfold maP; rw [c14, a1]; exact or_nn) (fun q => ?_) (fun _ => rfl)
  obtain ⟨j, hj, rfl⟩ := mp_in a1 (by omega) q
  rw [c13, a0, nI_clamp (by omega), nI_clamp (by omega)]
  refine ⟨?_, chA_n _ _ _ (by omega)⟩
  rw [wh_ch hG.2.2.1.1 hG.2.2.1.2.1 (show j < 4 by omega) ns (Nat.le_refl _)]
  exact AG_chA hG.2.1 hG.1.1 (show j < 4 by omega) ns (Nat.le_refl _)
theorem dsA_n (a : Nat → Int32) (x : Int32) (d : Nat) : ∀ n, n < 2 ^ 31 → dsA a x d n = -1 ∨ ∃ k, k < n ∧ dsA a x d n = nI k
  | 0, _ => Or.inl rfl
  | n + 1, h => by
    rw [dsA]
    split
    · exact Or.inr ⟨n, by omega, rfl⟩
    · exact (dsA_n a x d n (by omega)).imp id (fun ⟨k, hk, e⟩ => ⟨k, by omega, e⟩)
theorem AG_dsA {a b : Nat → Int32} {ns nm nt : Nat} (h : AG a b ns nm nt) (hnt : nt ≤ 12) (x : Int32) {d : Nat} (hd : d < 4) : ∀ n, n ≤ nt → dsA a x d n = dsA b x d n
  | 0, _ => rfl
  | n + 1, hn => by
    rw [dsA, dsA, AG_dsA h hnt x hd n (by omega)]
    refine ite_iff (and_congr Iff.rfl ?_) _ _
    rcases dsA_n b x d n (by omega) with e | ⟨k, hk, e⟩
    · rw [e]; simp
    · rw [e, nI_clamp (by omega), (AG_t h (show k < nt by omega)).2.1, (AG_t h (show n < nt by omega)).2.1, AG_y h (show k < nt by omega) hd, AG_y h (show n < nt by omega) hd]
theorem OK_dearest {m : MM} (h : RST m) (x y : Int32) : OKo m (cl_dearest m x y) (fun m1 => Fn_X12_dearest m1 [vR 12 0, vI x, vI y]) := by
  obtain ⟨ns, nm, nt, hG, c13, c14, c15, a0, a1, a2, b1, b2, b3⟩ := NOW h
  unfold cl_dearest
  refine OK_2n h (w := dsA (m.1 54 0) (hsA (m.1 54 0) x) y.toNatClampNeg (m.1 54 0 2).toNatClampNeg) (q := suP (m.1 54 0) x ∧ maP (m.1 54 0) y) (by unfold npC suP maP; rw [c13, c14, a0, a1]; exact nn_or) (fun q => ?_) (fun _ => rfl)
  obtain ⟨j, hj, rfl⟩ := mp_in a1 (by omega) q.2
  rw [c15, a2, nI_clamp (by omega), nI_clamp (by omega), ← bf_ds hG.1.1 x j, AG_hsA hG.2.1 hG.1.1, AG_dsA hG.2.1 b3 _ (show j < 4 by omega) nt (Nat.le_refl _)]
  refine ⟨rfl, ?_⟩
  rcases dsA_n (m.1 54 0) (hsA (m.1 54 0) x) j nt (by omega) with e | ⟨k, hk, e⟩
  · exact Or.inl e
  · rw [e]; exact Or.inr (n_m1 (by omega))
theorem OK_needs {m : MM} (h : RST m) (x : Int32) : OKo m (cl_needs m x) (fun m1 => Fn_X12_needs m1 [vR 12 0, vI x]) := by
  obtain ⟨ns, nm, nt, hG, c13, c14, c15, a0, a1, a2, b1, b2, b3⟩ := NOW h
  unfold cl_needs
  refine OK_2 h (w := nI (ndA (m.1 54 0) (m.1 54 0 2).toNatClampNeg x.toNatClampNeg)) (q := tgP (m.1 54 0) x) (by unfold tgP; rw [c15, a2]; exact or_nn) (fun q => ?_) (fun _ => rfl)
  obtain ⟨j, hj, rfl⟩ := tp_in a2 (by omega) q
  rw [a2, nI_clamp (by omega), nI_clamp (by omega), hG.2.2.2.1.1 j hj, AG_ndA hG.2.1 hj]
theorem OK_never {m : MM} (h : RST m) (x : Int32) : OKo m (cl_never m x) (fun m1 => Fn_X12_never m1 [vR 12 0, vI x]) := by
  obtain ⟨ns, nm, nt, hG, c13, c14, c15, a0, a1, a2, b1, b2, b3⟩ := NOW h
  unfold cl_never
  refine OK_2 h (w := nvS (m.1 54 0) (m.1 54 0 2).toNatClampNeg x (m.1 54 0 2).toNatClampNeg) (q := suP (m.1 54 0) x) (by unfold suP; rw [c13, a0]; exact or_nn) (fun q => ?_) (fun _ => rfl)
  rw [a2, nI_clamp (by omega), AG_thA hG.2.1 hG.1.1]
  refine nv_th hG.2.2.1.1 x ?_
  rw [hG.2.2.2.1.2]
  exact congrArg nI (stN_cg nt (fun j hj => AG_nv hG.2.1 hj))
theorem AG_chS {a b : Nat → Int32} {ns nm nt : Nat} (h : AG a b ns nm nt) (hV : VA a ns nm nt) {d : Nat} (hd : d < nm) : ∀ n, n ≤ ns → chS a d n = chS b d n
  | 0, _ => rfl
  | n + 1, hn => by
    have m4 := hV.2.1.2
    rw [chS, chS, AG_chS h hV hd n (by omega)]
    congr 1
    refine ite_iff (and_congr (AG_ysA h hV (show n < ns by omega) hd) (not_congr ?_)) _ _
    rw [AG_brA h hd, AG_0 h (show 6 ≤ 6 by decide), AG_thA h hV, AG_8 h, AG_syA h hV _ (show d < 4 by omega)]
theorem OK_cheats {m : MM} (h : RST m) (x : Int32) : OKo m (cl_cheats m x) (fun m1 => Fn_X12_cheats m1 [vR 12 0, vI x]) := by
  obtain ⟨ns, nm, nt, hG, c13, c14, c15, a0, a1, a2, b1, b2, b3⟩ := NOW h
  unfold cl_cheats
  refine OK_2 h (w := chS (m.1 54 0) x.toNatClampNeg (m.1 54 0 0).toNatClampNeg) (q := maP (m.1 54 0) x) (by unfold maP; rw [c14, a1]; exact or_nn) (fun q => ?_) (fun _ => rfl)
  obtain ⟨j, hj, rfl⟩ := mp_in a1 (by omega) q
  rw [c13, a0, nI_clamp (by omega), nI_clamp (by omega)]
  have e := cc_ch (m := m) (g := m.2.2 0) (d := j) ns 0
  rw [Nat.zero_add, show chS (abV m (m.2.2 0)) j 0 = 0 from rfl] at e
  rw [e]
  exact AG_chS hG.2.1 hG.1.1 hj ns (Nat.le_refl _)
theorem OK_toFair {m : MM} (h : RST m) : OKo m (cl_toFair m) (fun m1 => Fn_X12_toFair m1 [vR 12 0]) := by
  obtain ⟨ns, nm, nt, hG, c13, c14, c15, a0, a1, a2, b1, b2, b3⟩ := NOW h
  have := OK_2 h (p := False) (q := True) (v := wfA (abV m (m.2.2 0))) (w := wfA (m.1 54 0)) (by simp) (fun _ => AG_wfA hG.2.1) (fm := fun m1 => Fn_X12_toFair m1 [vR 12 0]) (fun _ => rfl)
  exact this

end
