/-! PART 9ZR: liking, bars, shares -/

noncomputable section
theorem OK_dn {m : MM} (h : RST m) {k : Int32} {fm : MM → Option MV × MM} (hf : ∀ x, fm (stC m x) = (some (vI 0), stM (stC m x) k)) : OKo m (dnC m k) fm := by
  have e := hf k
  refine ⟨MC_C, ?_, ?_⟩
  · show _ = (fm (stC m k)).1
    rw [e]; rfl
  · show INV (fm (stC m k)).2
    rw [e]; exact IN_s h k
theorem i99_ok {z : Int32} {n : Nat} {b : Int64} (hb : b.toInt = n) (hn : n < 2 ^ 31) : i99 z b ↔ ¬ z < 0 ∧ z ≤ nI n := by
  unfold i99
  rw [lg_cmp_lt, lg_cmp_gt, Int64.lt_iff_toInt_lt, Int64.lt_iff_toInt_lt, hb, Int32.toInt_toInt64, Int32.lt_iff_toInt_lt, Int32.le_iff_toInt_le, nI_tI hn]
  have e0 : (0 : Int64).toInt = 0 := by decide
  have e1 : (0 : Int32).toInt = 0 := by decide
  omega
theorem MD_u {a : Nat → Int32} {p : Nat} {x : Int32} (h : MDo a) (h6 : p ≠ 6) (h1 : ∀ s, s < 4 → p ≠ 15 + 4 * s ∧ p ≠ 31 + 4 * s) : MDo (upd a p x) := by
  obtain ⟨m1, m2, m3⟩ := h
  refine ⟨fun s hs => ?_, fun s hs => ?_, ?_⟩
  · rw [upd_ne (fun z => (h1 s hs).1 z.symm)]; exact m1 s hs
  · rw [upd_ne (fun z => (h1 s hs).2 z.symm)]; exact m2 s hs
  · rw [upd_ne (fun z => h6 z.symm)]; exact m3
/-- a liking is told -/
theorem VS_lk {a : Nat → Int32} {ns nm nt i j l : Nat} (h : VSo a ns nm nt) (hi : i < 4) (hj : j < 4) (hl : l ≤ 99) : VSo (upd a (128 + (4 * i + j)) (nI l)) ns nm nt := by
  obtain ⟨hV, hB, hG, hW, hL, h7⟩ := h
  have n4 := hV.1.2
  have n12 := hV.2.2.1.2
  have e : ∀ k, k < 128 → upd a (128 + (4 * i + j)) (nI l) k = a k := fun k hk => upd_ne (by omega)
  obtain ⟨g1, g2, g3, g4, ⟨G, hG', eG, g5⟩, g6⟩ := hB
  refine ⟨?_, ⟨fun s hs => by rw [e _ (by omega)]; exact g1 s hs, fun j hj => by rw [e _ (by omega)]; exact g2 j hj, fun t d ht hd => by rw [e _ (by omega)]; exact g3 t d ht hd, fun t ht => ?_, ⟨G, hG', by rw [e _ (by omega)]; exact eG, fun t ht => ⟨(g5 t ht).1, fun A hA eA => (g5 t ht).2 A hA (by rw [← e _ (by have := (g5 t ht).1; omega)]; exact eA)⟩⟩, by rw [e 9 (by omega)]; exact g6⟩, fun t ht z => ?_, fun s hs => ?_, fun s d hs hd => ?_, ?_⟩
  · unfold VA at *
    rw [e 0 (by omega), e 1 (by omega), e 2 (by omega), e 4 (by omega), e 5 (by omega)]
    exact ⟨hV.1, hV.2.1, hV.2.2.1, fun j hj => by rw [e _ (by omega)]; exact hV.2.2.2.1 j hj, hV.2.2.2.2⟩
  · obtain ⟨A, hA, eA, z⟩ := g4 t ht
    exact ⟨A, hA, by rw [e _ (by omega)]; exact eA, fun o ho => ⟨(z o ho).1, by have := (z o ho).1; rw [e _ (by omega), e _ (by omega)]; exact (z o ho).2⟩⟩
  · rw [e 8 (by omega)] at z
    exact fun q => hG t ht z ((nv_t (fun t ht => e _ (by omega)) ht).mp q)
  · rw [e _ (by omega), e 4 (by omega)]; exact hW s hs
  · by_cases c : 128 + 4 * s + d = 128 + (4 * i + j)
    · rw [c, upd_eq]; exact ⟨l, hl, rfl⟩
    · rw [upd_ne c]; exact hL s d hs hd
  · rw [e 7 (by omega), cp_c ns (fun s hs => e _ (by omega))]; exact h7
theorem OK_like {m : MM} (h : RST m) (x y w : Int32) : OKo m (cl_like m x y w) (fun m1 => Fn_X12_like m1 [vR 12 0, vI x, vI y, vI w]) := by
  obtain ⟨ns, nm, nt, hG, c13, c14, c15, a0, a1, a2, b1, b2, b3⟩ := NOW h
  have hA := hG.2.1
  have hV := hG.1.1
  have hS := hG.2.2.1
  have cd : npC m x y ↔ ¬ (suP (m.1 54 0) x ∧ maP (m.1 54 0) y) := by unfold npC suP maP; rw [c13, c14, a0, a1]; exact nn_or
  have hi := i99_ok (z := w) (n := 99) (b := 99) (by decide) (by decide)
  unfold cl_like
  by_cases x1 : npC m x y
  · rw [if_pos x1]
    exact OK_dn h (fun _ => if_neg (fun z => cd.mp x1 z.1))
  · have q : suP (m.1 54 0) x ∧ maP (m.1 54 0) y := Decidable.byContradiction (fun z => x1 (cd.mpr z))
    rw [if_neg x1]
    by_cases x2 : w < 0
    · rw [if_pos x2]
      exact OK_dn h (fun _ => if_neg (fun z => (hi.mp z.2).1 x2))
    · rw [if_neg x2]
      by_cases x3 : w ≤ 99
      · rw [if_pos x3]
        obtain ⟨i, hi', rfl⟩ := sp_in a0 (by omega) q.1
        obtain ⟨j, hj', rfl⟩ := mp_in a1 (by omega) q.2
        rcases nI_or (x := w) 99 (by decide) with ⟨l, hl, rfl⟩ | z
        · have ek : (nI i * 4 + nI j).toNatClampNeg = 4 * i + j := by
            rw [show (4 : Int32) = nI 4 from rfl, pk_mul, nI_add, nI_clamp (by omega)]
            omega
          rw [ek]
          have eC : abV (mRow m 31 (m.2.2 0) (upd (m.1 31 (m.2.2 0)) (4 * i + j) (nI l))) (m.2.2 0) = upd (abV m (m.2.2 0)) (128 + (4 * i + j)) (nI l) := ab_uL (by omega)
          have hC : CFo m (mRow m 31 (m.2.2 0) (upd (m.1 31 (m.2.2 0)) (4 * i + j) (nI l))) (m.2.2 0) := CF_R (by decide)
          revert eC hC
          generalize mRow m 31 (m.2.2 0) (upd (m.1 31 (m.2.2 0)) (4 * i + j) (nI l)) = C
          intro eC hC
          have e54 : ∀ X, (stC C X).1 54 0 = m.1 54 0 := fun X => hC.1 54 0 (by omega)
          have hAb : AG (abV C (m.2.2 0)) (upd (m.1 54 0) (128 + (4 * i + j)) (nI l)) ns nm nt := by rw [eC]; exact AG_upd hA _ _
          have hS' := VS_lk (i := i) (j := j) hS (by omega) (by omega) hl
          have hVC : VC2 C (m.2.2 0) ns nm nt := ⟨AG_VA (AG_sy hAb) hS'.1, by rw [eC]; exact MD_u hG.1.2 (by omega) (fun s hs => by omega)⟩
          refine OK_v (v := 1) h hG hC hVC hAb hS' (fun t ht => upd_ne (by omega)) ?_ (fun X => ?_)
          · intro k hk
            exact upd_ne (by omega)
          · show (if (suP ((stC C X).1 54 0) (nI i) ∧ maP ((stC C X).1 54 0) (nI j)) ∧ i99 (nI l) 99 then (some (vI 1), stM (mI (stC C X) 54 0 (128 + 4 * (nI i).toNatClampNeg + (nI j).toNatClampNeg) (nI l)) 0) else (some (vI 0), stM (stC C X) 1)) = _
            rw [if_pos ⟨by rw [e54]; exact q, hi.mpr ⟨x2, x3⟩⟩, nI_clamp (by omega), nI_clamp (by omega), ← e54 X, Nat.add_assoc]
            rfl
        · exact absurd x3 (z.resolve_left x2)
      · rw [if_neg x3]
        exact OK_dn h (fun _ => if_neg (fun z => x3 (hi.mp z.2).2))
/-- a bar is told -/
theorem VS_br {a : Nat → Int32} {ns nm nt j : Nat} {x : Int32} (h : VSo a ns nm nt) (hj : j < 4) : VSo (upd a (28 + 4 * j) x) ns nm nt := by
  obtain ⟨hV, hB, hG, hW, hL, h7⟩ := h
  have n4 := hV.1.2
  have n12 := hV.2.2.1.2
  have e : ∀ k, k < 28 ∨ 44 ≤ k → upd a (28 + 4 * j) x k = a k := fun k hk => upd_ne (by omega)
  have e44 : ∀ k, 44 ≤ k → upd a (28 + 4 * j) x k = a k := fun k hk => upd_ne (by omega)
  refine ⟨?_, BO_c hB (fun s hs => e _ (by omega)) (e 8 (by omega)) (e 9 (by omega)) e44, GN_c hG (fun t ht z => by rw [e 8 (by omega)] at z; exact z) e44, fun s hs => ?_, LK_c hL e44, ?_⟩
  · unfold VA at *
    rw [e 0 (by omega), e 1 (by omega), e 2 (by omega), e 4 (by omega), e 5 (by omega)]
    exact ⟨hV.1, hV.2.1, hV.2.2.1, fun j hj => by rw [e _ (by omega)]; exact hV.2.2.2.1 j hj, hV.2.2.2.2⟩
  · rw [e _ (by omega), e 4 (by omega)]; exact hW s hs
  · rw [e 7 (by omega), cp_c ns (fun s hs => e _ (by omega))]; exact h7
theorem OK_bar {m : MM} (h : RST m) (x w : Int32) : OKo m (cl_bar m x w) (fun m1 => Fn_X12_bar m1 [vR 12 0, vI x, vI w]) := by
  obtain ⟨ns, nm, nt, hG, c13, c14, c15, a0, a1, a2, b1, b2, b3⟩ := NOW h
  have hA := hG.2.1
  have hV := hG.1.1
  have hS := hG.2.2.1
  have hi := i99_ok (z := w) (n := 999) (b := 999) (by decide) (by decide)
  unfold cl_bar
  by_cases x1 : x < 0 ∨ m.1 6 (m.2.2 0) 14 ≤ x
  · rw [if_pos x1]
    rw [c14, ← a1] at x1
    exact OK_dn h (fun _ => if_neg (fun z => x1.elim z.1.1 z.1.2))
  · have q : maP (m.1 54 0) x := ⟨fun z => x1 (Or.inl z), fun z => x1 (Or.inr (by rw [c14, ← a1]; exact z))⟩
    rw [if_neg x1]
    by_cases x2 : w < 0
    · rw [if_pos x2]
      exact OK_dn h (fun _ => if_neg (fun z => (hi.mp z.2).1 x2))
    · rw [if_neg x2]
      by_cases x3 : w ≤ 999
      · rw [if_pos x3]
        obtain ⟨j, hj', rfl⟩ := mp_in a1 (by omega) q
        have ek : (nI j).toNatClampNeg = j := nI_clamp (by omega)
        rw [ek]
        have eC : abV (mRow m 32 (m.2.2 0) (upd (m.1 32 (m.2.2 0)) j w)) (m.2.2 0) = upd (abV m (m.2.2 0)) (28 + 4 * j) w := ab_uM (q := 0) (by omega) (by omega)
        have hC : CFo m (mRow m 32 (m.2.2 0) (upd (m.1 32 (m.2.2 0)) j w)) (m.2.2 0) := CF_R (by decide)
        revert eC hC
        generalize mRow m 32 (m.2.2 0) (upd (m.1 32 (m.2.2 0)) j w) = C
        intro eC hC
        have e54 : ∀ X, (stC C X).1 54 0 = m.1 54 0 := fun X => hC.1 54 0 (by omega)
        have hAb : AG (abV C (m.2.2 0)) (upd (m.1 54 0) (28 + 4 * j) w) ns nm nt := by rw [eC]; exact AG_upd hA _ _
        have hS' := VS_br (j := j) (x := w) hS (by omega)
        have hVC : VC2 C (m.2.2 0) ns nm nt := ⟨AG_VA (AG_sy hAb) hS'.1, by rw [eC]; exact MD_u hG.1.2 (by omega) (fun s hs => by omega)⟩
        refine OK_v (v := 1) h hG hC hVC hAb hS' (fun t ht => upd_ne (by omega)) ?_ (fun X => ?_)
        · intro k hk
          exact upd_ne (by omega)
        · show (if maP ((stC C X).1 54 0) (nI j) ∧ i99 w 999 then (some (vI 1), stM (mI (stC C X) 54 0 (28 + 4 * (nI j).toNatClampNeg) w) 0) else (some (vI 0), stM (stC C X) 1)) = _
          rw [if_pos ⟨by rw [e54]; exact q, hi.mpr ⟨x2, x3⟩⟩, ek, ← e54 X]
          rfl
      · rw [if_neg x3]
        exact OK_dn h (fun _ => if_neg (fun z => x3 (hi.mp z.2).2))
/-- the fraction moves on both sides -/
theorem RST_q {m Y : MM} (h : RST m) (h1 : ∀ k j, (k ≠ 11 ∧ k ≠ 12) → Y.1 k j = m.1 k j) (h11 : ∀ j, j ≠ 15 → Y.1 11 0 j = m.1 11 0 j) (h12 : ∀ j, j ≠ 2 → Y.1 12 0 j = m.1 12 0 j) (h2 : Y.2.2 = m.2.2) (hL : ∀ k j, k ≠ 11 ∧ k ≠ 12 → Y.2.1 k j = m.2.1 k j) (hq : Y.2.1 11 0 16 = Y.2.1 12 0 3 ∧ Y.2.1 11 0 17 = Y.2.1 12 0 4) : RST Y := by
  obtain ⟨r1, ⟨ns, nm, nt, r2⟩, ⟨k, q1, q2, q3, q4⟩, r4, r5, ⟨F, B, t1, t2, t3, t4, t5⟩, r7, r8, r9, r10, r11, r12, r13⟩ := h
  have hG := fun g => GG_k (m := m) (m' := Y) (fun k j hk => h1 k j (by unfold kC at hk; omega)) (fun j => hL 29 j (by omega)) g
  have e54 : Y.1 54 0 = m.1 54 0 := h1 54 0 (by omega)
  have e55 : Y.2.1 55 0 = m.2.1 55 0 := hL 55 0 (by omega)
  refine ⟨by rw [h2]; exact r1, ⟨ns, nm, nt, by rw [h2, e54, e55]; exact VG_c r2 (hG _) (fun _ _ => rfl) (fun _ _ => rfl)⟩, ⟨k, q1, by rw [h11 14 (by decide)]; exact q2, by rw [h12 40 (by decide)]; exact q3, fun i hi => ?_⟩, fun g hg => ?_, fun i hi => ?_, ⟨F, B, t1, by rw [h1 4 0 (by omega)]; exact t2, by rw [h12 10 (by decide)]; exact t3, t4, fun j hj => ?_⟩, fun i hi => ?_, hq, by rw [h11 18 (by decide), h11 19 (by decide), h12 16 (by decide), h12 17 (by decide)]; exact r9, by rw [h11 11 (by decide), h12 39 (by decide)]; exact r10, fun j hj => ?_, fun o ho => ?_, fun o ho => ?_⟩
  · obtain ⟨n1, n2, n3, z⟩ := q4 i hi
    exact ⟨n1, n2, n3, by rw [e54, e55]; exact VG_c z (hG _) (fun _ _ => rfl) (fun _ _ => rfl)⟩
  · unfold ZZo
    rw [h1 9 g (by omega)]
    exact r4 g hg
  · rw [h1 5 i (by omega), h1 57 0 (by omega), h1 56 0 (by omega), hL 58 0 (by omega), hL 28 i (by omega)]
    exact r5 i hi
  · rw [h1 26 0 (by omega), h1 59 0 (by omega)]
    exact t5 j hj
  · rw [hL 27 0 (by omega)]; exact r7 i hi
  · rw [h1 53 0 (by omega), h1 71 0 (by omega)]; exact r11 j hj
  · rw [h1 69 0 (by omega)]; exact r12 o ho
  · rw [h1 20 0 (by omega), h1 69 0 (by omega)]; exact r13 o ho
theorem OK_share {m : MM} (h : RST m) (x y : Int32) : OKo m (cl_share m x y) (fun m1 => Fn_X12_share m1 [vR 12 0, vI x, vI y]) := by
  obtain ⟨ns, nm, nt, hG, c13, c14, c15, a0, a1, a2, b1, b2, b3⟩ := NOW h
  have hA := hG.2.1
  have hV := hG.1.1
  have hS := hG.2.2.1
  have cd : npC m x y ↔ ¬ (suP (m.1 54 0) x ∧ maP (m.1 54 0) y) := by unfold npC suP maP; rw [c13, c14, a0, a1]; exact nn_or
  unfold cl_share
  by_cases x1 : npC m x y
  · rw [if_pos x1]
    exact OK_dn h (fun _ => if_neg (cd.mp x1))
  · have q : suP (m.1 54 0) x ∧ maP (m.1 54 0) y := Decidable.byContradiction (fun z => x1 (cd.mpr z))
    rw [if_neg x1]
    obtain ⟨j, hj, rfl⟩ := mp_in a1 (by omega) q.2
    have ej : (nI j).toNatClampNeg = j := nI_clamp (by omega)
    rw [ej, AG_thA hA hV, AG_syA hA hV _ (show j < 4 by omega), AG_hdA hA hV _ (show j < 4 by omega)]
    have hf : ∀ M : MM, M.1 54 0 = m.1 54 0 → Fn_X12_share M [vR 12 0, vI x, vI (nI j)] = if syA (m.1 54 0) (thA (m.1 54 0) x) j = 0 then (some (vI 0), stM M 6) else (some (vI 1), tbM M (hdA (m.1 54 0) x j).toNatClampNeg (syA (m.1 54 0) (thA (m.1 54 0) x) j).toNatClampNeg) := by
      intro M e
      show (if suP (M.1 54 0) x ∧ maP (M.1 54 0) (nI j) then shR M x (nI j).toNatClampNeg else _) = _
      rw [e, if_pos q, ej]
      unfold shR
      rw [e]
    obtain ⟨v, hv, ev⟩ := syA_le hS.1 hS.2.1 (thA (m.1 54 0) x) (show j < 4 by omega)
    have ez : (0 : Int32) < syA (m.1 54 0) (thA (m.1 54 0) x) j ↔ ¬ syA (m.1 54 0) (thA (m.1 54 0) x) j = 0 := by
      rw [ev, show (0 : Int32) = nI 0 from rfl, nI_ltI (by omega) (by omega), nI_eq (by omega) (by omega)]
      omega
    by_cases c : syA (m.1 54 0) (thA (m.1 54 0) x) j = 0
    · rw [if_neg (fun z => ez.mp z c)]
      exact OK_dn h (fun X => (hf (stC m X) rfl).trans (if_pos c))
    · rw [if_pos (ez.mpr c)]
      generalize (hdA (m.1 54 0) x j).toNatClampNeg = p at *
      have hf := fun M e => (hf M e).trans (if_neg c)
      generalize (syA (m.1 54 0) (thA (m.1 54 0) x) j).toNatClampNeg = r at *
      have e54 : (stC (tfM m p r) 0).1 54 0 = m.1 54 0 := rfl
      have e := hf _ e54
      refine ⟨⟨fun k j hk => if_neg (fun z => by omega), fun k j hk => (if_neg (fun z => by omega)).trans (if_neg (fun z => by omega))⟩, ?_, ?_⟩
      · show _ = (Fn_X12_share (stC (tfM m p r) 0) [vR 12 0, vI x, vI (nI j)]).1
        rw [e]; rfl
      · show INV (Fn_X12_share (stC (tfM m p r) 0) [vR 12 0, vI x, vI (nI j)]).2
        rw [e]
        refine ⟨RST_q (Y := tbM (stC (tfM m p r) 0) p r) h (fun k j hk => (if_neg (fun z => hk.2 z.1)).trans (if_neg (fun z => hk.1 z.1))) (fun j hj => upd_ne hj) (fun j hj => upd_ne hj) rfl (fun k j hk => (if_neg (fun z => hk.2 z.1)).trans ((if_neg (fun z => hk.2 z.1)).trans ((if_neg (fun z => hk.1 z.1)).trans (if_neg (fun z => hk.1 z.1))))) ⟨rfl, rfl⟩, ?_⟩
        show upd (m.1 11 0) 15 0 15 = upd (m.1 12 0) 2 0 2
        rw [upd_eq, upd_eq]

end
