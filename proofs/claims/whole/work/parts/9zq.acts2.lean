/-! PART 9ZQ: what is done, is done alike, on -/

noncomputable section
theorem OK_feign {m : MM} (h : RST m) (x : Int32) : OKo m (cl_feign m x) (fun m1 => Fn_X12_feign m1 [vR 12 0, vI x]) := by
  obtain ⟨ns, nm, nt, hG, c13, c14, c15, a0, a1, a2, b1, b2, b3⟩ := NOW h
  have hA := hG.2.1
  have hV := hG.1.1
  have hS := hG.2.2.1
  unfold cl_feign
  by_cases x1 : x < 0 ∨ m.1 6 (m.2.2 0) 15 ≤ x
  · rw [if_pos x1]
    rw [c15, ← a2] at x1
    exact OK_0 h (fun _ => if_neg (fun z => x1.elim z.1 z.2))
  · rw [if_neg x1]
    have y : tgP (m.1 54 0) x := ⟨fun z => x1 (Or.inl z), fun z => x1 (Or.inr (by rw [c15, ← a2]; exact z))⟩
    obtain ⟨i, hi, rfl⟩ := tp_in a2 (by omega) y
    have ei : (nI i).toNatClampNeg = i := nI_clamp (by omega)
    have hf : ∀ M : MM, M.1 54 0 = m.1 54 0 → Fn_X12_feign M [vR 12 0, vI (nI i)] = fgR M i := by
      intro M e
      show (if tgP (M.1 54 0) (nI i) then fgR M (nI i).toNatClampNeg else rfM M 1) = _
      rw [e, if_pos y, ei]
    rw [ei]
    by_cases c : mgA (abV m (m.2.2 0)) i
    · have c' := (AG_mgA hA hV hi).mp c
      rw [if_pos c]
      unfold cl_feign1
      have eC := cg_pt (f := 6) (how := 9) hV (Or.inr ⟨rfl, rfl⟩) hi
      have hC : CFo m (cgM m (m.2.2 0) 6 i) (m.2.2 0) := CF_cg
      have hVC : VC2 (cgM m (m.2.2 0) 6 i) (m.2.2 0) ns nm nt := VC2_d hG.1 (SML_cg _ _ _ _) (DDo_cg (DDo_of hG.1) (by decide))
      revert eC hC hVC
      generalize cgM m (m.2.2 0) 6 i = C
      intro eC hC hVC
      have e54 : ∀ X, (stC C X).1 54 0 = m.1 54 0 := fun X => hC.1 54 0 (by omega)
      have hAb : AG (abV C (m.2.2 0)) (ptA (m.1 54 0) 9 i) ns nm nt := by rw [eC]; exact AG_pt hA hV (Or.inr rfl) hi
      have hS' := VS_pt hS (Or.inr rfl) hi c'
      have ev : nI (pcN (thA (abV C (C.2.2 0)) (C.1 35 (C.2.2 0) (nI i).toNatClampNeg) &&& abV C (C.2.2 0) 9).toNatClampNeg) = nI (pcN (thA (ptA (m.1 54 0) 9 i) (m.1 54 0 (44 + 3 * i)) &&& ptA (m.1 54 0) 9 i 9).toNatClampNeg) := by
        rw [hC.2, hC.1 35 _ (by omega), nI_clamp (by omega), AG_thA hAb hVC.1, AG_9 hAb, ← (AG_t hA hi).1, ab_of (by omega)]
      rw [ev]
      refine OK_v h hG hC hVC hAb hS' (fun t _ => pt_hi hS.1 (Or.inr rfl) hi (by omega)) (fun j hj => pt_hi hS.1 (Or.inr rfl) hi (by omega)) (fun X => (hf _ (e54 X)).trans ?_)
      have ep : putA (stC C X) 9 i = mRow (stC C X) 54 0 (ptA (m.1 54 0) 9 i) := by
        rw [← e54 X]
        unfold putA ptA
        exact mRow2 _ _ _ _ _
      unfold fgR
      rw [ep, e54, if_pos c', show (mRow (stC C X) 54 0 (ptA (m.1 54 0) 9 i)).1 54 0 = ptA (m.1 54 0) 9 i from mRow_row _ _ _ _]
    · have c' : ¬ mgA (m.1 54 0) i := fun z => c ((AG_mgA hA hV hi).mpr z)
      rw [if_neg c]
      exact OK_0 h (fun X => (hf (stC m X) rfl).trans (if_neg c'))
/-- what is feigned moves -/
theorem VS_9 {a : Nat → Int32} {ns nm nt F : Nat} (h : VSo a ns nm nt) (hF : F < 4096) : VSo (upd a 9 (nI F)) ns nm nt := by
  obtain ⟨hV, hB, hG, hW, hL, h7⟩ := h
  have e : ∀ j, j ≠ 9 → upd a 9 (nI F) j = a j := fun j hj => upd_ne hj
  have e44 : ∀ j, 44 ≤ j → upd a 9 (nI F) j = a j := fun j hj => upd_ne (by omega)
  obtain ⟨g1, g2, g3, g4, ⟨G, hG', eG, g5⟩, -⟩ := hB
  refine ⟨?_, ⟨fun s hs => by rw [e _ (by omega)]; exact g1 s hs, fun j hj => by rw [e _ (by omega)]; exact g2 j hj, fun t d ht hd => by rw [e _ (by omega)]; exact g3 t d ht hd, fun t ht => ?_, ⟨G, hG', by rw [e _ (by omega)]; exact eG, fun t ht => ⟨(g5 t ht).1, fun A hA eA => (g5 t ht).2 A hA (by rw [← e _ (by omega)]; exact eA)⟩⟩, ⟨F, hF, upd_eq⟩⟩, GN_c hG (fun t ht z => by rw [e _ (by omega)] at z; exact z) e44, fun s hs => ?_, LK_c hL e44, ?_⟩
  · unfold VA at *
    rw [e 0 (by omega), e 1 (by omega), e 2 (by omega), e 4 (by omega), e 5 (by omega)]
    exact ⟨hV.1, hV.2.1, hV.2.2.1, fun j hj => by rw [e _ (by omega)]; exact hV.2.2.2.1 j hj, hV.2.2.2.2⟩
  · obtain ⟨A, hA, eA, z⟩ := g4 t ht
    exact ⟨A, hA, by rw [e _ (by omega)]; exact eA, fun o ho => ⟨(z o ho).1, by rw [e _ (by omega), e _ (by omega)]; exact (z o ho).2⟩⟩
  · rw [e _ (by omega), e 4 (by omega)]; exact hW s hs
  · rw [e 7 (by omega), cp_c ns (fun s hs => e _ (by omega))]; exact h7
theorem OK_found {m : MM} (h : RST m) (x : Int32) : OKo m (cl_found m x) (fun m1 => Fn_X12_found m1 [vR 12 0, vI x]) := by
  obtain ⟨ns, nm, nt, hG, c13, c14, c15, a0, a1, a2, b1, b2, b3⟩ := NOW h
  have hA := hG.2.1
  have hV := hG.1.1
  have hS := hG.2.2.1
  unfold cl_found
  by_cases x1 : x < 0 ∨ m.1 6 (m.2.2 0) 15 ≤ x
  · rw [if_pos x1]
    rw [c15, ← a2] at x1
    exact OK_0 h (fun _ => if_neg (fun z => x1.elim z.1 z.2))
  · rw [if_neg x1]
    have y : tgP (m.1 54 0) x := ⟨fun z => x1 (Or.inl z), fun z => x1 (Or.inr (by rw [c15, ← a2]; exact z))⟩
    obtain ⟨i, hi, rfl⟩ := tp_in a2 (by omega) y
    have ei : (nI i).toNatClampNeg = i := nI_clamp (by omega)
    have hf : ∀ M : MM, M.1 54 0 = m.1 54 0 → Fn_X12_found M [vR 12 0, vI (nI i)] = fuR M i := by
      intro M e
      show (if tgP (M.1 54 0) (nI i) then fuR M (nI i).toNatClampNeg else rfM M 1) = _
      rw [e, if_pos y, ei]
    have e9 : m.1 1 (m.2.2 0) 6 = m.1 54 0 9 := AG_9 hA
    obtain ⟨-, -, -, -, -, F, hF, eF⟩ := hS.2.1
    rw [e9]
    by_cases c : inS (m.1 54 0 9) (nI i)
    · rw [if_pos c]
      unfold cl_found1
      have hb : F.testBit i = true := (inS_nI (by omega) (by omega)).mp (by rw [← eF]; exact c)
      have ex : m.1 54 0 9 &&& (((1 : Int32) <<< (nI i &&& 31)) ^^^ (-1)) = m.1 54 0 9 ^^^ ((1 : Int32) <<< (nI i &&& 31)) := by rw [eF]; exact xor_in hF (by omega) hb
      obtain ⟨F', hF', eF'⟩ : ∃ F', F' < 4096 ∧ m.1 54 0 9 ^^^ ((1 : Int32) <<< (nI i &&& 31)) = nI F' := ⟨F ^^^ 2 ^ i, Nat.xor_lt_two_pow (n := 12) hF (Nat.pow_lt_pow_right (by omega) (by omega)), by rw [eF, nIbit (by omega), nIxor]⟩
      have eC : abV (cfoM m (nI i)) (m.2.2 0) = upd (abV m (m.2.2 0)) 9 (nI F') := by
        unfold cfoM
        rw [e9, ex, eF', ab_u1 (p := 9) (by omega)]
      have hC : CFo m (cfoM m (nI i)) (m.2.2 0) := CF_R (by decide)
      have hVC : VC2 (cfoM m (nI i)) (m.2.2 0) ns nm nt := VC2_fo hG.1
      revert eC hC hVC
      generalize cfoM m (nI i) = C
      intro eC hC hVC
      have e54 : ∀ X, (stC C X).1 54 0 = m.1 54 0 := fun X => hC.1 54 0 (by omega)
      have hAb : AG (abV C (m.2.2 0)) (upd (m.1 54 0) 9 (nI F')) ns nm nt := by rw [eC]; exact AG_upd hA _ _
      have hS' := VS_9 hS hF'
      have ev : nI (pcN (thA (abV C (C.2.2 0)) (C.1 35 (C.2.2 0) (nI i).toNatClampNeg) &&& abV C (C.2.2 0) 9).toNatClampNeg) = nI (pcN (thA (upd (m.1 54 0) 9 (nI F')) (m.1 54 0 (44 + 3 * i)) &&& upd (m.1 54 0) 9 (nI F') 9).toNatClampNeg) := by
        rw [hC.2, hC.1 35 _ (by omega), ei, AG_thA hAb hVC.1, AG_9 hAb, ← (AG_t hA hi).1, ab_of (by omega)]
      rw [ev]
      refine OK_v h hG hC hVC hAb hS' (fun t _ => upd_ne (by omega)) (fun j hj => upd_ne (by omega)) (fun X => (hf _ (e54 X)).trans ?_)
      have ep : fuM (stC C X) i = mRow (stC C X) 54 0 (upd (m.1 54 0) 9 (nI F')) := by
        rw [← eF', ← e54 X]
        rfl
      unfold fuR
      rw [ep, e54, if_pos c, show (mRow (stC C X) 54 0 (upd (m.1 54 0) 9 (nI F'))).1 54 0 = upd (m.1 54 0) 9 (nI F') from mRow_row _ _ _ _]
    · rw [if_neg c]
      exact OK_0 h (fun X => (hf (stC m X) rfl).trans (if_neg c))
theorem OK_week {m : MM} (h : RST m) : OKo m (cl_week m) (fun m1 => Fn_X12_week m1 [vR 12 0]) := by
  obtain ⟨ns, nm, nt, hG, c13, c14, c15, a0, a1, a2, b1, b2, b3⟩ := NOW h
  have hA := hG.2.1
  have hV := hG.1.1
  have hS := hG.2.2.1
  unfold cl_week
  have e6 : abV m (m.2.2 0) 6 = m.1 54 0 6 := AG_0 hA (by decide)
  have e64 : m.1 1 (m.2.2 0) 4 = m.1 54 0 6 := e6
  rw [e6]
  by_cases c : ¬ m.1 54 0 6 = 999
  · rw [if_pos c]
    unfold cl_week1
    have hC : CFo m (pwM m (m.2.2 0)) (m.2.2 0) := CF_t (CF_R (by decide)) (CF_R (by decide))
    have hVC : VC2 (pwM m (m.2.2 0)) (m.2.2 0) ns nm nt := VC2_d hG.1 (SML_pw _ _) (DDo_pw (DDo_of hG.1) (by rw [e64]; exact c))
    have hAb := AG_pw hA hV
    revert hAb hC hVC
    generalize pwM m (m.2.2 0) = C
    intro hC hVC hAb
    have ev : C.1 1 (C.2.2 0) 4 = m.1 54 0 6 + 1 := by
      rw [hC.2]
      exact (AG_0 hAb (show 6 ≤ 6 by decide)).trans (wkA_6 hS.1)
    rw [ev]
    have e54 : ∀ X, (stC C X).1 54 0 = m.1 54 0 := fun X => hC.1 54 0 (by omega)
    refine OK_v h hG hC hVC hAb (VS_wk hS) (fun t _ => wkA_ne hS.1 (by omega) (fun s hs => by omega)) (fun j hj => wkA_ne hS.1 (by omega) (fun s hs => by omega)) (fun X => ?_)
    show (if ¬ (stC C X).1 54 0 6 = 999 then gvM (atM (stC C X) (wkA ((stC C X).1 54 0))) ((stC C X).1 54 0 6 + 1) else rfM _ 4) = _
    rw [e54, if_pos c]
  · rw [if_neg c]
    exact OK_0 h (fun X => if_neg c)
theorem OK_wed {m : MM} (h : RST m) (x y : Int32) : OKo m (cl_wed m x y) (fun m1 => Fn_X12_wed m1 [vR 12 0, vI x, vI y]) := by
  obtain ⟨ns, nm, nt, hG, c13, c14, c15, a0, a1, a2, b1, b2, b3⟩ := NOW h
  have hA := hG.2.1
  have hV := hG.1.1
  have hS := hG.2.2.1
  have cd : npC m x y ↔ ¬ (suP (m.1 54 0) x ∧ maP (m.1 54 0) y) := by unfold npC suP maP; rw [c13, c14, a0, a1]; exact nn_or
  unfold cl_wed
  by_cases x1 : npC m x y
  · rw [if_pos x1]
    exact OK_0 h (fun _ => if_neg (cd.mp x1))
  · have q : suP (m.1 54 0) x ∧ maP (m.1 54 0) y := Decidable.byContradiction (fun z => x1 (cd.mpr z))
    rw [if_neg x1]
    obtain ⟨i, hi, rfl⟩ := sp_in a0 (by omega) q.1
    obtain ⟨j, hj, rfl⟩ := mp_in a1 (by omega) q.2
    have ei : (nI i).toNatClampNeg = i := nI_clamp (by omega)
    have ej : (nI j).toNatClampNeg = j := nI_clamp (by omega)
    have hf : ∀ M : MM, M.1 54 0 = m.1 54 0 → Fn_X12_wed M [vR 12 0, vI (nI i), vI (nI j)] = wdR M i j := by
      intro M e
      show (if suP (M.1 54 0) (nI i) ∧ maP (M.1 54 0) (nI j) then wdR M (nI i).toNatClampNeg (nI j).toNatClampNeg else rfM M 1) = _
      rw [e, if_pos q, ei, ej]
    rw [ei, ej]
    by_cases c : wdP (abV m (m.2.2 0)) i j
    · have c' := (AG_wdP hA hV hi hj).mp c
      rw [if_pos c]
      unfold cl_wed1
      have hC : CFo m (mrM m (m.2.2 0) i j) (m.2.2 0) := CF_t (CF_R (by decide)) (CF_t (CF_R (by decide)) (CF_R (by decide)))
      have hVC : VC2 (mrM m (m.2.2 0) i j) (m.2.2 0) ns nm nt := VC2_d hG.1 (SML_mr _ _ _ _) (DDo_mr (DDo_of hG.1) (by omega) (by omega))
      have hAb := AG_mr hA hV hi hj
      revert hAb hC hVC
      generalize mrM m (m.2.2 0) i j = C
      intro hC hVC hAb
      have e54 : ∀ X, (stC C X).1 54 0 = m.1 54 0 := fun X => hC.1 54 0 (by omega)
      have ev : C.1 16 (C.2.2 0) (nI i).toNatClampNeg = m.1 54 0 (13 + 4 * i) - m.1 54 0 (30 + 4 * j) := by
        rw [hC.2, ei, ← ab_cow (show i < 4 by omega), (AG_s hAb hi).2.1]
        unfold wdA
        rw [upd_ne (by omega), upd_ne (by omega), upd_ne (by omega), upd_eq]
      rw [ev]
      have hi4 : ∀ k, k = 10 ∨ 44 ≤ k → wdA (m.1 54 0) i j k = m.1 54 0 k := fun k hk => by
        unfold wdA
        rw [upd_ne (by omega), upd_ne (by omega), upd_ne (by omega), upd_ne (by omega)]
      refine OK_v h hG hC hVC hAb (VS_wd hS hi hj c') (fun t _ => hi4 _ (by omega)) (fun k hk => hi4 _ (by omega)) (fun X => (hf _ (e54 X)).trans ?_)
      unfold wdR
      rw [e54, if_pos c']
    · have c' : ¬ wdP (m.1 54 0) i j := fun z => c ((AG_wdP hA hV hi hj).mpr z)
      rw [if_neg c]
      exact OK_0 h (fun X => (hf (stC m X) rfl).trans (if_neg c'))
theorem OK_back {m : MM} (h : RST m) (x : Int32) : OKo m (cl_back m x) (fun m1 => Fn_X12_back m1 [vR 12 0, vI x]) := by
  obtain ⟨ns, nm, nt, hG, c13, c14, c15, a0, a1, a2, b1, b2, b3⟩ := NOW h
  have hA := hG.2.1
  have hV := hG.1.1
  have hS := hG.2.2.1
  unfold cl_back
  by_cases x1 : x < 0 ∨ m.1 6 (m.2.2 0) 15 ≤ x
  · rw [if_pos x1]
    rw [c15, ← a2] at x1
    exact OK_0 h (fun _ => if_neg (fun z => x1.elim z.1 z.2))
  · rw [if_neg x1]
    have y : tgP (m.1 54 0) x := ⟨fun z => x1 (Or.inl z), fun z => x1 (Or.inr (by rw [c15, ← a2]; exact z))⟩
    obtain ⟨i, hi, rfl⟩ := tp_in a2 (by omega) y
    have ei : (nI i).toNatClampNeg = i := nI_clamp (by omega)
    have hf : ∀ M : MM, M.1 54 0 = m.1 54 0 → Fn_X12_back M [vR 12 0, vI (nI i)] = bkR M i := by
      intro M e
      show (if tgP (M.1 54 0) (nI i) then bkR M (nI i).toNatClampNeg else rfM M 1) = _
      rw [e, if_pos y, ei]
    rw [ei]
    by_cases c : cbP (abV m (m.2.2 0)) i
    · have c' := (AG_cbP hA hV hi).mp c
      rw [if_pos c]
      unfold cl_back1
      have hC : CFo m (feM m (m.2.2 0) i) (m.2.2 0) := CF_t (CF_R (by decide)) (CF_R (by decide))
      have hVC : VC2 (feM m (m.2.2 0) i) (m.2.2 0) ns nm nt := VC2_d hG.1 (SML_fe _ _ _) (DDo_fe (DDo_of hG.1))
      have hAb := AG_fe hA hV (AG_BO (AG_sy hA) hS.2.1) hi c.2.2.1
      revert hAb hC hVC
      generalize feM m (m.2.2 0) i = C
      intro hC hVC hAb
      have e54 : ∀ X, (stC C X).1 54 0 = m.1 54 0 := fun X => hC.1 54 0 (by omega)
      have ho := ow_ns hS.1 hi
      have hi4 : ∀ k, k = 10 ∨ 44 ≤ k → cbA (m.1 54 0) i k = m.1 54 0 k := fun k hk => by
        unfold cbA
        rw [upd_ne (by omega), upd_ne (by omega)]
      have ev : C.1 16 (C.2.2 0) (C.1 35 (C.2.2 0) (nI i).toNatClampNeg).toNatClampNeg = m.1 54 0 (13 + 4 * owA (m.1 54 0) i) - ckA (m.1 54 0) i := by
        rw [hC.2, hC.1 35 _ (by omega), ei, ← ab_of (show i < 12 by omega), (AG_t hA hi).1]
        show C.1 16 (m.2.2 0) (owA (m.1 54 0) i) = _
        rw [← ab_cow (show owA (m.1 54 0) i < 4 by omega), (AG_s hAb ho).2.1]
        unfold cbA
        rw [upd_eq]
      rw [ev]
      refine OK_v h hG hC hVC hAb (VS_cb hS hi c') (fun t _ => hi4 _ (by omega)) (fun k hk => hi4 _ (by omega)) (fun X => (hf _ (e54 X)).trans ?_)
      unfold bkR
      rw [e54, if_pos c']
    · have c' : ¬ cbP (m.1 54 0) i := fun z => c ((AG_cbP hA hV hi).mpr z)
      rw [if_neg c]
      exact OK_0 h (fun X => (hf (stC m X) rfl).trans (if_neg c'))

end
