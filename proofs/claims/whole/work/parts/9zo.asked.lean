/-! PART 9ZO: who is asked, in how many orders, are answered alike -/

noncomputable section
theorem KS_as (N : MM) (q : AS) : KS N (asM N q) := KS_t (KS_M (by decide)) (KS_t (KS_R (by decide)) (KS_R (by decide)))
theorem OK_asked {m : MM} (h : RST m) (x : Int32) : OKo m (cl_asked m x) (fun m1 => Fn_X12_asked m1 [vR 12 0, vI x]) := by
  obtain ⟨ns, nm, nt, hG, c13, c14, c15, a0, a1, a2, b1, b2, b3⟩ := NOW h
  have hv := VG_VAL hG
  unfold cl_asked
  by_cases x1 : x < 0 ∨ m.1 6 (m.2.2 0) 13 ≤ x
  · rw [if_pos x1]
    rw [c13, ← a0] at x1
    exact OK_0 h (fun _ => if_neg (fun z => x1.elim z.1 z.2))
  · rw [if_neg x1]
    have y : suP (m.1 54 0) x := ⟨fun z => x1 (Or.inl z), fun z => x1 (Or.inr (by rw [c13, ← a0]; exact z))⟩
    obtain ⟨i, hi, rfl⟩ := sp_in a0 (by omega) y
    obtain ⟨k1, k2⟩ := KP_2 (SM2_akM m (m.2.2 0)) (akM_2 m (m.2.2 0))
    have hk : ∀ M : MM, M.1 54 0 = m.1 54 0 → (akM m (m.2.2 0)).1 15 0 i = kfF (asF M).1 nm (nI i) ∧ ((akM m (m.2.2 0)).1 15 0 i = -1 ∨ ∃ k, k < nm ∧ (akM m (m.2.2 0)).1 15 0 i = nI k) := fun M e => by
      obtain ⟨-, z⟩ := ak_ok (M := M) hv.1 hv.2.1 hv.2.2.2.2.2 (by rw [e]; exact hG.2.1)
      exact ⟨(z i hi).1, (z i hi).2.2⟩
    unfold cl_as1
    revert k1 k2 hk
    generalize akM m (m.2.2 0) = C
    intro k1 k2 hk
    have e54 : ∀ X, (stC C X).1 54 0 = m.1 54 0 := fun X => k2.1 54 0 (by omega)
    have go : ∀ X, Fn_X12_asked (stC C X) [vR 12 0, vI (nI i)] = onM (asM (stC C X) (asF (stC C X))) (C.1 15 0 i) := by
      intro X
      show (if suP ((stC C X).1 54 0) (nI i) then onM (asM (stC C X) (asF (stC C X))) (kfF (asF (stC C X)).1 ((stC C X).1 54 0 1).toNatClampNeg (nI i)) else rfM _ _) = _
      rw [e54, if_pos y, a1, nI_clamp (by omega), ← (hk _ (e54 X)).1]
    rw [nI_clamp (by omega)]
    unfold onC
    rcases (hk _ (e54 0)).2 with z | ⟨k, hk', z⟩
    · rw [if_pos (by rw [z]; decide), if_pos (by rw [z]; decide)]
      refine OK_sr h k1 k2 (X := asM (stC C 6) (asF (stC C 6))) (KS_as _ _) ((go 6).trans ?_)
      unfold onM
      rw [z, if_pos rfl]; rfl
    · have n : ¬ C.1 15 0 i < 0 := by rw [z]; exact n_m1 (by omega)
      rw [if_neg n, if_neg n]
      refine OK_s h k1 k2 (X := asM (stC C 0) (asF (stC C 0))) rfl (KS_as _ _) ((go 0).trans ?_)
      unfold onM
      rw [if_neg (show ¬ C.1 15 0 i = -1 by rw [z]; exact nI_n1 (by omega))]; rfl
theorem OK_refusals {m : MM} (h : RST m) : OKo m (cl_refusals m) (fun m1 => Fn_X12_refusals m1 [vR 12 0]) := by
  obtain ⟨ns, nm, nt, hG, c13, c14, c15, a0, a1, a2, b1, b2, b3⟩ := NOW h
  have hv := VG_VAL hG
  obtain ⟨k1, k2⟩ := KP_2 (SM2_akM m (m.2.2 0)) (akM_2 m (m.2.2 0))
  unfold cl_refusals cl_rfs1
  have hk : ∀ M : MM, M.1 54 0 = m.1 54 0 → (akM m (m.2.2 0)).1 0 0 6 = (asF M).2.2 := fun M e => (ak_ok (M := M) hv.1 hv.2.1 hv.2.2.2.2.2 (by rw [e]; exact hG.2.1)).1
  revert k1 k2 hk
  generalize akM m (m.2.2 0) = C
  intro k1 k2 hk
  exact OK_s h k1 k2 (hk (stC C 0) (k2.1 54 0 (by omega))) (KS_as _ _) rfl
theorem KP_52 {m C : MM} (h : SM52 m C) : KP m C ∧ MCo m C := by
  obtain ⟨h1, h2, h3⟩ := h
  refine ⟨⟨fun k j _ => by rw [h1], by rw [h1]; exact ⟨rfl, rfl, rfl, rfl, rfl⟩, by rw [h1]; exact ⟨rfl, rfl, rfl, rfl, rfl⟩, fun k j hk => h2 k j (by omega), ?_, h3⟩, fun k j _ => by rw [h1], fun k j hk => h2 k j (by omega)⟩
  rw [h2 11 0 (by decide), h2 12 0 (by decide)]
  exact ⟨rfl, rfl, rfl, rfl⟩
theorem OK_lr {m : MM} (h : RST m) {fm : MM → Option MV × MM} (hf : ∀ X, fm (stC m X) = lrM (stC m X)) : OKo m (some (vL (-1 : Int32).toInt64), stC m 1) fm := by
  have e := hf 1
  refine ⟨MC_C, ?_, ?_⟩
  · show _ = (fm (stC m 1)).1
    rw [e]; rfl
  · show INV (fm (stC m 1)).2
    rw [e]; exact IN_s h 1
theorem OK_co {m : MM} (h : RST m) {S : Nat} (hS : S < 4096) {fm : MM → Option MV × MM} (hf : ∀ M : MM, M.1 54 0 = m.1 54 0 → fm M = lvM M S) : OKo m (coF (stC m 0) (nI S)) fm := by
  obtain ⟨ns, nm, nt, hG, c13, c14, c15, a0, a1, a2, b1, b2, b3⟩ := NOW h
  have ha : ∀ t, t < nt → m.1 54 0 (46 + 3 * t) = (stC m 0).1 37 ((stC m 0).2.2 0) t := fun t ht => by
    show m.1 54 0 (46 + 3 * t) = m.1 37 (m.2.2 0) t
    rw [← (AG_t hG.2.1 ht).2.2, ab_aft (by omega)]
  obtain ⟨e1, e2⟩ := co_wo (m := stC m 0) hS b3 c15 ha
  unfold coF
  revert e1 e2
  generalize coA (stC m 0) (nI S) = C
  intro e1 e2
  obtain ⟨k1, k2⟩ := KP_52 e2
  have e54 : C.1 54 0 = m.1 54 0 := k2.1 54 0 (by omega)
  have e := hf C e54
  unfold coF2
  rw [nI_clamp (by omega), e1]
  refine ⟨MC_t MC_C k2, ?_, ?_⟩
  · show _ = (fm C).1
    rw [e]
    unfold lvM
    rw [e54, a2, nI_clamp (by omega)]
  · show INV (fm C).2
    rw [e]
    have kw : KS C (woM C S) := KS_RL
    refine ⟨RST_k h (KP_t KP_C (KP_t k1 (KP_t kw.1 (KP_M (by decide))))), ?_⟩
    show (woM C S).1 11 0 15 = 0
    rw [kw.2, e2.1]
    show upd (m.1 11 0) 15 0 15 = 0
    exact upd_eq
theorem OK_orders {m : MM} (h : RST m) (x : Int32) : OKo m (cl_orders m x) (fun m1 => Fn_X12_orders m1 [vR 12 0, vI x]) := by
  obtain ⟨ns, nm, nt, hG, c13, c14, c15, a0, a1, a2, b1, b2, b3⟩ := NOW h
  have hA := hG.2.1
  have hV := hG.1.1
  unfold cl_orders
  by_cases x1 : x < 0 ∨ m.1 6 (m.2.2 0) 13 ≤ x
  · rw [if_pos x1]
    rw [c13, ← a0] at x1
    exact OK_lr h (fun _ => if_neg (fun z => x1.elim z.1 z.2))
  · rw [if_neg x1]
    have y : suP (m.1 54 0) x := ⟨fun z => x1 (Or.inl z), fun z => x1 (Or.inr (by rw [c13, ← a0]; exact z))⟩
    obtain ⟨e, hlt⟩ := th_st hG.2.2.1.1 x
    obtain ⟨W, hW, eW⟩ := ands hlt (m.1 54 0 8)
    have e1 : thA (abV (stC m 0) ((stC m 0).2.2 0)) x &&& (stC m 0).1 1 ((stC m 0).2.2 0) 5 = nI W := by
      show thA (abV m (m.2.2 0)) x &&& abV m (m.2.2 0) 8 = nI W
      rw [AG_thA hA hV, AG_8 hA, e, eW]
    rw [e1]
    refine OK_co h hW (fun M e54 => ?_)
    show (if suP (M.1 54 0) x then lvM M (thA (M.1 54 0) x &&& M.1 54 0 8).toNatClampNeg else lrM M) = _
    rw [e54, if_pos y, e, eW, nI_clamp (by omega)]
theorem and_nn (x y : Int32) : x &&& ((x &&& y) ^^^ (-1)) = x &&& (y ^^^ (-1)) := by
  apply Int32.toBitVec_inj.mp
  simp only [Int32.toBitVec_and, Int32.toBitVec_xor]
  ext i hi
  simp
  cases x.toBitVec[i] <;> simp
theorem OK_ways {m : MM} (h : RST m) (x : Int32) : OKo m (cl_ways m x) (fun m1 => Fn_X12_ways m1 [vR 12 0, vI x]) := by
  obtain ⟨ns, nm, nt, hG, c13, c14, c15, a0, a1, a2, b1, b2, b3⟩ := NOW h
  have hA := hG.2.1
  have hV := hG.1.1
  unfold cl_ways
  by_cases x1 : x < 0 ∨ m.1 6 (m.2.2 0) 13 ≤ x
  · rw [if_pos x1]
    rw [c13, ← a0] at x1
    exact OK_lr h (fun _ => if_neg (fun z => x1.elim z.1 z.2))
  · rw [if_neg x1]
    have y : suP (m.1 54 0) x := ⟨fun z => x1 (Or.inl z), fun z => x1 (Or.inr (by rw [c13, ← a0]; exact z))⟩
    obtain ⟨e, hlt⟩ := th_st hG.2.2.1.1 x
    obtain ⟨W, hW, eW⟩ := ands hlt (nvS (m.1 54 0) nt x nt ^^^ (-1))
    have en : thA (m.1 54 0) x &&& m.1 6 (m.2.2 0) 19 = nvS (m.1 54 0) nt x nt := by
      refine nv_th hG.2.2.1.1 x ?_
      rw [hG.2.2.2.1.2]
      exact congrArg nI (stN_cg nt (fun j hj => AG_nv hA hj))
    have e1 : thA (abV (stC m 0) ((stC m 0).2.2 0)) x &&& ((stC m 0).1 6 ((stC m 0).2.2 0) 19 ^^^ (-1)) = nI W := by
      show thA (abV m (m.2.2 0)) x &&& (m.1 6 (m.2.2 0) 19 ^^^ (-1)) = nI W
      rw [AG_thA hA hV, ← and_nn, en, e, eW]
    rw [e1]
    refine OK_co h hW (fun M e54 => ?_)
    show (if suP (M.1 54 0) x then lvM M (thA (M.1 54 0) x &&& (nvS (M.1 54 0) (M.1 54 0 2).toNatClampNeg x (M.1 54 0 2).toNatClampNeg ^^^ (-1))).toNatClampNeg else lrM M) = _
    rw [e54, if_pos y, a2, nI_clamp (by omega), e, eW, nI_clamp (by omega)]

end
