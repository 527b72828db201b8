/-! PART 9ZM: the village is answered alike -/

noncomputable section
theorem KS_f {m X : MM} (h1 : ∀ k j, k ≠ 12 → ¬ (60 ≤ k ∧ k ≤ 68) → k ≠ 70 → X.1 k j = m.1 k j) (h2 : ∀ j, j = 10 ∨ j = 16 ∨ j = 17 ∨ j = 39 ∨ j = 40 → X.1 12 0 j = m.1 12 0 j) (h3 : ∀ k j, k ≠ 68 → X.2.1 k j = m.2.1 k j) (h4 : X.2.2 = m.2.2) : KS m X := by
  have e11 : X.1 11 0 = m.1 11 0 := h1 11 0 (by decide) (by decide) (by decide)
  have e4 : X.1 4 0 = m.1 4 0 := h1 4 0 (by decide) (by decide) (by decide)
  refine ⟨⟨fun k j hk => ?_, ?_, ⟨h2 10 (by decide), h2 16 (by decide), h2 17 (by decide), h2 39 (by decide), h2 40 (by decide)⟩, fun k j hk => h3 k j (by omega), ?_, h4⟩, by rw [e11]⟩
  · unfold kC at hk
    exact h1 k j (by omega) (by omega) (by omega)
  · rw [e11, e4]; exact ⟨rfl, rfl, rfl, rfl, rfl⟩
  · rw [h3 11 0 (by decide), h3 12 0 (by decide)]; exact ⟨rfl, rfl, rfl, rfl⟩
theorem c1_2 (m : MM) (v s d : Nat) (w : Int32) : (vgC1 m v s d w).2.2 = m.2 := by
  unfold vgC1
  split
  · rfl
  · exact mkM_2 m v s d w
theorem vgI_2 (v s : Nat) (w : Int32) : ∀ k d m, (vgI v s w k d m).2 = m.2
  | 0, _, _ => rfl
  | k + 1, d, m => by
    rw [vgI, vgI_2 v s w k]
    exact c1_2 m v s d w
theorem vgO_2 (v nm : Nat) (w : Int32) : ∀ k s m, (vgO v nm w k s m).2 = m.2
  | 0, _, _ => rfl
  | k + 1, s, m => by
    rw [vgO, vgO_2 v nm w k, vgI_2]
    rfl
theorem vgZ_2 (m : MM) (T : Nat) (su : Int32) : (vgZ m T su).2 = m.2 := by
  unfold vgZ
  split
  · rfl
  · rfl
theorem vgW_2 (nm : Nat) : ∀ s r T su m, (vgW nm s r T su m).2 = m.2
  | 0, _, T, su, m => vgZ_2 m T su
  | s + 1, r, T, su, m => by
    rw [vgW]
    split
    · split
      · rfl
      · rw [vgW_2 nm s]; rfl
    · rw [vgW_2 nm s]; rfl
theorem vgL_2 (nm ns : Nat) : ∀ k r m, (vgL nm ns k r m).2 = m.2
  | 0, _, _ => rfl
  | k + 1, r, m => by
    rw [vgL, vgL_2 nm ns k, vgW_2]
theorem vgM_2 (m : MM) (v : Nat) (w : Int32) : (vgM m v w).2 = m.2 := by
  unfold vgM vgS
  rw [vgL_2]
  exact vgO_2 _ _ _ _ _ _
theorem bs_o (L : Nat → Nat → Int32) (ns nm : Nat) (o t e : Nat → Int32) {j : Nat} (h : j ≠ 28 ∧ j ≠ 29) : ∀ c, (bsV L ns nm o t e c).1 j = o j
  | 0 => rfl
  | c + 1 => by
    rw [bsV]
    split
    · exact bs_o L ns nm o t e h c
    · show upd (upd _ 28 _) 29 _ j = _
      rw [upd_ne h.2, upd_ne h.1]
      exact bs_o L ns nm o t e h c
theorem mRow_kk {m : MM} {k k' g h : Nat} {f : Nat → Int32} (e : k' ≠ k) : (mRow m k g f).1 k' h = m.1 k' h := if_neg (fun z => e z.1)
theorem vlM_k (N : MM) (q : (Nat → Int32) × (Nat → Int32) × (Nat → Int32)) : (∀ k g, k ≠ 12 → k ≠ 64 → k ≠ 65 → (vlM N q).1 k g = N.1 k g) ∧ (vlM N q).1 12 0 = q.1 ∧ (vlM N q).1 65 0 = q.2.2 ∧ (vlM N q).2 = N.2 := by
  refine ⟨fun k g a b c => ?_, ?_, mRow_row _ _ _ _, rfl⟩
  · show (mRow (mRow (mRow N 12 0 q.1) 64 0 q.2.1) 65 0 q.2.2).1 k g = _
    exact (if_neg (fun z => c z.1)).trans ((if_neg (fun z => b z.1)).trans (if_neg (fun z => a z.1)))
  · show (mRow (mRow (mRow N 12 0 q.1) 64 0 q.2.1) 65 0 q.2.2).1 12 0 = _
    rw [mRow_kk (by decide), mRow_kk (by decide)]
    exact mRow_row _ _ _ _
/-- the village laid, on both sides -/
theorem VG_at {m : MM} (h : RST m) {w : Int32} (hw : ¬ (w < 0 ∨ 99 < w)) : KP m (vgM m (m.2.2 0) w) ∧ MCo m (vgM m (m.2.2 0) w) ∧ ∀ M : MM, M.1 54 0 = m.1 54 0 → KS M (lyV M w) ∧ (lyV M w).1 12 0 28 = (vgM m (m.2.2 0) w).1 8 0 4 ∧ (lyV M w).1 12 0 29 = (vgM m (m.2.2 0) w).1 8 0 5 ∧ ∀ s nm, nm ≤ 4 → m.1 54 0 1 = nI nm → suP (m.1 54 0) (nI s) → s < 4 → ∃ g, g ≤ nm ∧ (lyV M w).1 65 0 s = nI g ∧ (vgM m (m.2.2 0) w).1 42 0 s = dgC nm g := by
  obtain ⟨ns, nm, nt, hG, c13, c14, c15, a0, a1, a2, b1, b2, b3⟩ := NOW h
  obtain ⟨k1, k2⟩ := KP_8 (SM8_M m (m.2.2 0) w) (vgM_2 m (m.2.2 0) w)
  refine ⟨k1, k2, fun M e => ?_⟩
  obtain ⟨q, S, -, -, x1, x2, x3, x4, x5⟩ := vg_ok (VG_VAL hG) hw hG.2.1 (M.1 12 0) (M.1 64 0) (M.1 65 0)
  obtain ⟨o1, o2, -⟩ := lvO_ne M w nm b2 ns
  have ey : lyV M w = vlM (lvO M w nm ns) (bsV (lsV (m.1 54 0) w) ns nm (upd (M.1 12 0) 28 (-1)) (M.1 64 0) (M.1 65 0) ((nm + 1) ^ ns)) := by
    unfold lyV
    rw [e, a0, a1, nI_clamp (by omega), nI_clamp (by omega)]
  obtain ⟨v1, v2, v3, v4⟩ := vlM_k (lvO M w nm ns) (bsV (lsV (m.1 54 0) w) ns nm (upd (M.1 12 0) 28 (-1)) (M.1 64 0) (M.1 65 0) ((nm + 1) ^ ns))
  rw [ey]
  refine ⟨KS_f (fun k j z1 z2 z3 => ?_) (fun j hj => ?_) (fun k j _ => ?_) ?_, ?_, ?_, fun s nm' hn' en hs hs4 => ?_⟩
  · rw [v1 k j z1 (by omega) (by omega), o2 k j (by omega) (by omega)]
  · rw [v2, bs_o _ _ _ _ _ _ (by omega), upd_ne (by omega)]
  · rw [v4, o1]
  · rw [v4, o1]
  · rw [v2, x1, x3]
  · rw [v2, x2, x4]
  · have e1 := nI_inj (by omega) (by omega) (a1.symm.trans en)
    obtain ⟨i', hi', e'⟩ := sp_in a0 (by omega) hs
    have := nI_inj (by omega) (by omega) e'
    obtain ⟨g, g1, g2, g3⟩ := x5 s (by omega)
    exact ⟨g, by omega, by rw [v3]; exact g2, by rw [← e1]; exact g3⟩
theorem OK_village {m : MM} (h : RST m) (w x : Int32) : OKo m (cl_village m w x) (fun m1 => Fn_X12_village m1 [vR 12 0, vI w, vI x]) := by
  unfold cl_village
  by_cases xw : w < 0 ∨ 99 < w
  · rw [if_pos xw]
    exact OK_0 h (fun _ => if_neg (fun z => xw.elim z.1.1 z.1.2))
  · rw [if_neg xw]
    by_cases x1 : x < 0
    · rw [if_pos x1]
      exact OK_0 h (fun _ => if_neg (fun z => z.2.1 x1))
    · rw [if_neg x1]
      by_cases x2 : x ≤ 1
      · rw [if_pos x2]
        obtain ⟨k1, k2, k3⟩ := VG_at h xw
        unfold cl_vg1
        generalize vgM m (m.2.2 0) w = C at *
        obtain ⟨s1, s2, s3, -⟩ := k3 (stC C 0) (k2.1 54 0 (by omega))
        refine OK_s h k1 k2 (X := lyV (stC C 0) w) (w := if x = 0 then (lyV (stC C 0) w).1 12 0 28 else (lyV (stC C 0) w).1 12 0 29) (by rw [s2, s3]) s1 ?_
        exact if_pos ⟨⟨fun z => xw (Or.inl z), fun z => xw (Or.inr z)⟩, x1, x2⟩
      · rw [if_neg x2]
        exact OK_0 h (fun _ => if_neg (fun z => x2 z.2.2))
theorem OK_villager {m : MM} (h : RST m) (w x : Int32) : OKo m (cl_villager m w x) (fun m1 => Fn_X12_villager m1 [vR 12 0, vI w, vI x]) := by
  obtain ⟨ns, nm, nt, hG, c13, c14, c15, a0, a1, a2, b1, b2, b3⟩ := NOW h
  unfold cl_villager
  by_cases xw : w < 0 ∨ 99 < w
  · rw [if_pos xw]
    exact OK_0 h (fun _ => if_neg (fun z => xw.elim z.1.1 z.1.2))
  · rw [if_neg xw]
    by_cases x1 : x < 0 ∨ m.1 6 (m.2.2 0) 13 ≤ x
    · rw [if_pos x1]
      rw [c13, ← a0] at x1
      exact OK_0 h (fun _ => if_neg (fun z => x1.elim z.2.1 z.2.2))
    · rw [if_neg x1]
      have y : suP (m.1 54 0) x := ⟨fun z => x1 (Or.inl z), fun z => x1 (Or.inr (by rw [c13, ← a0]; exact z))⟩
      obtain ⟨i, hi, rfl⟩ := sp_in a0 (by omega) y
      have ei : (nI i).toNatClampNeg = i := nI_clamp (by omega)
      obtain ⟨k1, k2, k3⟩ := VG_at h xw
      unfold cl_vr1
      generalize vgM m (m.2.2 0) w = C at *
      have e54 : ∀ X, (stC C X).1 54 0 = m.1 54 0 := fun X => k2.1 54 0 (by omega)
      have go : ∀ X, Fn_X12_villager (stC C X) [vR 12 0, vI w, vI (nI i)] = vrR (stC C X) w i := by
        intro X
        show (if (¬ w < 0 ∧ ¬ 99 < w) ∧ suP ((stC C X).1 54 0) (nI i) then vrR (stC C X) w (nI i).toNatClampNeg else rfM (stC C X) 1) = _
        rw [e54, ei, if_pos ⟨⟨fun z => xw (Or.inl z), fun z => xw (Or.inr z)⟩, y⟩]
      rw [ei]
      unfold onC
      obtain ⟨s1, -, -, s4⟩ := k3 (stC C 0) (e54 0)
      obtain ⟨g, g1, g2, g3⟩ := s4 i nm b2 a1 y (by omega)
      obtain ⟨r1, -, -, r4⟩ := k3 (stC C 6) (e54 6)
      obtain ⟨f, f1, f2, f3⟩ := r4 i nm b2 a1 y (by omega)
      by_cases c : g < nm
      · have ec : C.1 42 0 i = nI g := g3.trans (if_pos c)
        rw [ec, if_neg (n_m1 (by omega)), if_neg (n_m1 (by omega))]
        refine OK_s h k1 k2 (X := lyV (stC C 0) w) rfl s1 ((go 0).trans ?_)
        unfold vrR
        rw [g2, e54, a1, if_neg (fun z => by have := nI_inj (by omega) (by omega) z; omega)]
      · have ec : C.1 42 0 i = -1 := g3.trans (if_neg c)
        rw [ec, if_pos (show (-1 : Int32) < 0 by decide), if_pos (show (-1 : Int32) < 0 by decide)]
        have ef : f = nm := by
          by_cases d : f < nm
          · rw [f3, show dgC nm f = nI f from if_pos d] at ec
            exact absurd ec (nI_n1 (by omega))
          · omega
        refine OK_sr h k1 k2 (X := lyV (stC C 6) w) r1 ((go 6).trans ?_)
        unfold vrR
        rw [f2, e54, a1, ef, if_pos rfl]

end
