/-! PART 9ZK: plans are answered alike -/

noncomputable section
/-- scratch of the model's -/
def KS (m m' : MM) : Prop := KP m m' ∧ m'.1 11 0 15 = m.1 11 0 15
theorem KS_r (m : MM) : KS m m := ⟨KP_r m, rfl⟩
theorem KS_t {a b c : MM} (h : KS a b) (h' : KS b c) : KS a c := ⟨KP_t h.1 h'.1, h'.2.trans h.2⟩
theorem KS_R {m : MM} {k g : Nat} {f : Nat → Int32} (h : (60 ≤ k ∧ k ≤ 68) ∨ k = 70) : KS m (mRow m k g f) := ⟨KP_R (by omega), congrFun (show (mRow m k g f).1 11 0 = m.1 11 0 from if_neg (fun z => by omega)) 15⟩
theorem KS_M {m : MM} {j : Nat} {x : Int32} (h : j ≠ 10 ∧ j ≠ 16 ∧ j ≠ 17 ∧ j ≠ 39 ∧ j ≠ 40) : KS m (mI m 12 0 j x) := ⟨KP_M h, rfl⟩
theorem KS_RL {m : MM} {f : Nat → Int64} : KS m (mRowL m 68 0 f) := by
  refine ⟨⟨fun _ _ _ => rfl, ⟨rfl, rfl, rfl, rfl, rfl⟩, ⟨rfl, rfl, rfl, rfl, rfl⟩, fun k j h => if_neg (fun z => by omega), ⟨rfl, rfl, rfl, rfl⟩, rfl⟩, rfl⟩
theorem KS_la (m : MM) (s : Int32) : KS m (laM m s) := KS_R (by decide)
/-- both answer, with scratch -/
theorem OK_s {m C X : MM} (h : RST m) (hk : KP m C) (hm : MCo m C) {v w : Int32} (hv : v = w) {fm : MM → Option MV × MM} (hS : KS (stC C 0) X) (hf : fm (stC C 0) = gvM X w) : OKo m (gvC C v) fm := by
  refine ⟨MC_t hm MC_C, ?_, ?_⟩
  · show _ = (fm (stC C 0)).1
    rw [hf, ← hv]; rfl
  · show INV (fm (stC C 0)).2
    rw [hf]
    refine ⟨RST_k h (KP_t hk (KP_t KP_C (KP_t hS.1 (KP_M (by decide))))), ?_⟩
    show X.1 11 0 15 = 0
    rw [hS.2]
    show upd (C.1 11 0) 15 0 15 = 0
    exact upd_eq
theorem OK_sr {m C X : MM} (h : RST m) (hk : KP m C) (hm : MCo m C) {x : Int32} {fm : MM → Option MV × MM} (hS : KS (stC C x) X) (hf : fm (stC C x) = rfM X x) : OKo m (rfC C x) fm := by
  refine ⟨MC_t hm MC_C, ?_, ?_⟩
  · show _ = (fm (stC C x)).1
    rw [hf]; rfl
  · show INV (fm (stC C x)).2
    rw [hf]
    refine ⟨RST_k h (KP_t hk (KP_t KP_C (KP_t hS.1 (KP_M (by decide))))), ?_⟩
    show X.1 11 0 15 = x
    rw [hS.2]
    show upd (C.1 11 0) 15 x 15 = x
    exact upd_eq
theorem KP_k {m C : MM} (h : ∀ k j, k ≠ 0 → k ≠ 3 → k ≠ 8 → k ≠ 13 → k ≠ 14 → k ≠ 15 → ¬ (22 ≤ k ∧ k ≤ 25) → ¬ (40 ≤ k ∧ k ≤ 42) → C.1 k j = m.1 k j) (h2 : C.2 = m.2) : KP m C ∧ MCo m C := by
  refine ⟨⟨fun k j hk => ?_, ?_, ?_, fun k j _ => by rw [h2], ⟨by rw [h2], by rw [h2], by rw [h2], by rw [h2]⟩, by rw [h2]⟩, fun k j hk => ?_, fun k j _ => by rw [h2]⟩
  · unfold kC at hk
    exact h k j (by omega) (by omega) (by omega) (by omega) (by omega) (by omega) (by omega) (by omega)
  · rw [h 11 0 (by decide) (by decide) (by decide) (by decide) (by decide) (by decide) (by decide) (by decide), h 4 0 (by decide) (by decide) (by decide) (by decide) (by decide) (by decide) (by decide) (by decide)]
    exact ⟨rfl, rfl, rfl, rfl, rfl⟩
  · rw [h 12 0 (by decide) (by decide) (by decide) (by decide) (by decide) (by decide) (by decide) (by decide)]
    exact ⟨rfl, rfl, rfl, rfl, rfl⟩
  · exact h k j (by omega) (by omega) (by omega) (by omega) (by omega) (by omega) (by omega) (by omega)
theorem KP_3 {m C : MM} (h : SM3 m C) (h2 : C.2 = m.2) : KP m C ∧ MCo m C := KP_k (fun k j _ a _ _ _ _ b _ => h k j a b) h2
theorem KP_8 {m C : MM} (h : SM8 m C) (h2 : C.2 = m.2) : KP m C ∧ MCo m C := KP_k (fun k j _ a b _ _ _ c d => h k j a b c d) h2
theorem KP_2 {m C : MM} (h : SM2 m C) (h2 : C.2 = m.2) : KP m C ∧ MCo m C := KP_k (fun k j a _ _ _ b c _ _ => h k j a b c) h2
theorem VG_VAL {m : MM} {g : Nat} {a : Nat → Int32} {N : Nat → Int64} {ns nm nt : Nat} (h : VGo m g a N ns nm nt) : VAL m g ns nm nt := by
  obtain ⟨hC, hA, hS, hN, -⟩ := h
  obtain ⟨s1, s2, s3, s4, s5, s6⟩ := hS
  refine ⟨hC, AG_BO (AG_sy hA) s2, hN, AG_GN (AG_sy hA) s3, fun s hs => ?_, fun s d hs hd => by rw [AG_l hA hs hd]; exact s5 s d hs hd⟩
  obtain ⟨T, W, e1, e2, q⟩ := s4 s hs
  exact ⟨T, W, by rw [(AG_s hA hs).2.2.1]; exact e1, by rw [AG_0 hA (by decide)]; exact e2, q⟩
/-- the class's plan and what it is called by -/
theorem PS_ok {m : MM} (h : RST m) (s d w : Int32) : (wpF (m.1 54 0) s d w = 1 ∧ cl_ps m s d w = (1, m)) ∨ (wpF (m.1 54 0) s d w = 7 ∧ cl_ps m s d w = (7, m)) ∨ (wpF (m.1 54 0) s d w = 0 ∧ ∃ i j C, s = nI i ∧ d = nI j ∧ i < 4 ∧ j < 4 ∧ m.1 54 0 (15 + 4 * i) = -1 ∧ m.1 54 0 (31 + 4 * j) = -1 ∧ cl_ps m s d w = cl_ps1 C ∧ PLo (m.1 54 0) i j w C ∧ SM3 m C ∧ C.2 = m.2) := by
  obtain ⟨ns, nm, nt, hG, c13, c14, c15, a0, a1, a2, b1, b2, b3⟩ := NOW h
  unfold cl_ps wpF
  have cd : npC m s d ↔ ¬ (suP (m.1 54 0) s ∧ maP (m.1 54 0) d) := by unfold npC suP maP; rw [c13, c14, a0, a1]; exact nn_or
  by_cases x : npC m s d
  · rw [if_pos x, if_pos (fun z => cd.mp x z.1)]
    exact Or.inl ⟨rfl, rfl⟩
  · have y : suP (m.1 54 0) s ∧ maP (m.1 54 0) d := Decidable.byContradiction (fun z => x (cd.mpr z))
    rw [if_neg x]
    by_cases xw : w < 0 ∨ 99 < w
    · rw [if_pos xw, if_pos (fun z => xw.elim z.2.1 z.2.2)]
      exact Or.inl ⟨rfl, rfl⟩
    · rw [if_neg xw, if_neg (fun z => z ⟨y, fun q => xw (Or.inl q), fun q => xw (Or.inr q)⟩)]
      obtain ⟨i, hi, rfl⟩ := sp_in a0 (by omega) y.1
      obtain ⟨j, hj, rfl⟩ := mp_in a1 (by omega) y.2
      rw [nI_clamp (by omega), nI_clamp (by omega), (AG_s hG.2.1 hi).2.2.2, (AG_d hG.2.1 hj).2.2.2]
      by_cases x1 : m.1 54 0 (15 + 4 * i) = -1
      · rw [if_neg (show ¬ ¬ m.1 54 0 (15 + 4 * i) = -1 from fun z => z x1)]
        by_cases x2 : m.1 54 0 (31 + 4 * j) = -1
        · rw [if_neg (show ¬ ¬ m.1 54 0 (31 + 4 * j) = -1 from fun z => z x2), if_neg (show ¬ (¬ m.1 54 0 (15 + 4 * i) = -1 ∨ ¬ m.1 54 0 (31 + 4 * j) = -1) from fun z => z.elim (fun q => q x1) (fun q => q x2))]
          refine Or.inr (Or.inr ⟨rfl, i, j, mkM m (m.2.2 0) i j w, rfl, rfl, by omega, by omega, x1, x2, rfl, ?_, SM3_mk _ _ _ _ _, mkM_2 _ _ _ _ _⟩)
          exact AG_PLo hG.2.1 hG.1.1 hi hj (mk_val (VG_VAL hG) hi hj xw)
        · rw [if_pos (show ¬ m.1 54 0 (31 + 4 * j) = -1 from x2), if_pos (show ¬ m.1 54 0 (15 + 4 * i) = -1 ∨ ¬ m.1 54 0 (31 + 4 * j) = -1 from Or.inr x2)]
          exact Or.inr (Or.inl ⟨rfl, rfl⟩)
      · rw [if_pos (show ¬ m.1 54 0 (15 + 4 * i) = -1 from x1), if_pos (show ¬ m.1 54 0 (15 + 4 * i) = -1 ∨ ¬ m.1 54 0 (31 + 4 * j) = -1 from Or.inl x1)]
        exact Or.inr (Or.inl ⟨rfl, rfl⟩)
theorem le0 : ¬ (1 : Int32) ≤ 0 ∧ ¬ (7 : Int32) ≤ 0 ∧ (0 : Int32) ≤ 0 := by decide
/-- one number of a plan -/
theorem OK_lst {m : MM} (h : RST m) (k : Nat) (s d w w2 : Int32) {fm : MM → Option MV × MM} (hw : wpF (m.1 54 0) s d w2 = wpF (m.1 54 0) s d w) {Rf Rv : MM → Option MV × MM} (hf : ∀ M : MM, M.1 54 0 = m.1 54 0 → (fm M = if wpF (m.1 54 0) s d w2 ≤ 0 then Rv M else rfM M (wpF (m.1 54 0) s d w2))) (hv : ∀ i j (C M : MM), s = nI i → d = nI j → i < 4 → j < 4 → PLo (m.1 54 0) i j w C → M.1 54 0 = m.1 54 0 → (C.1 3 0 13 = -1 ∧ Rv M = rfM (laM M s) 6) ∨ (¬ C.1 3 0 13 < 0 ∧ Rv M = gvM (laM M s) (C.1 3 0 k))) : OKo m (cl_lst k (cl_ps m s d w)) fm := by
  unfold cl_lst
  rcases PS_ok h s d w with ⟨e1, e2⟩ | ⟨e1, e2⟩ | ⟨e1, i, j, C, es, ed, hi, hj, -, -, e2, hP, hC, hC2⟩
  · rw [e2, if_neg (show ¬ (1 : Int32) = 0 by decide)]
    exact OK_0 h (fun X => (hf (stC m X) rfl).trans (by rw [hw, e1]; exact if_neg le0.1))
  · rw [e2, if_neg (show ¬ (7 : Int32) = 0 by decide)]
    exact OK_0 h (fun X => (hf (stC m X) rfl).trans (by rw [hw, e1]; exact if_neg le0.2.1))
  · obtain ⟨k1, k2⟩ := KP_3 hC hC2
    have e54 : ∀ X, (stC C X).1 54 0 = m.1 54 0 := fun X => k2.1 54 0 (by omega)
    have go : ∀ X, fm (stC C X) = Rv (stC C X) := fun X => (hf (stC C X) (e54 X)).trans (by rw [hw, e1]; exact if_pos le0.2.2)
    rw [e2]
    unfold cl_ps1
    rcases hv i j C (stC C 0) es ed hi hj hP (e54 0) with ⟨q1, -⟩ | ⟨q1, q2⟩
    · have n : ¬ ¬ C.1 3 0 13 < 0 := fun z => z (by rw [q1]; decide)
      rcases hv i j C (stC C 6) es ed hi hj hP (e54 6) with ⟨-, q2⟩ | ⟨q2, -⟩
      · rw [if_neg n, if_neg (show ¬ (6 : Int32) = 0 by decide)]
        exact OK_sr h k1 k2 (KS_la _ s) ((go 6).trans q2)
      · exact absurd q2 n
    · rw [if_pos q1, if_pos rfl]
      exact OK_s h k1 k2 rfl (KS_la _ s) ((go 0).trans q2)
theorem OK_least {m : MM} (h : RST m) (s d w : Int32) : OKo m (cl_lst 12 (cl_ps m s d w)) (fun m1 => Fn_X12_least m1 [vR 12 0, vI s, vI d, vI w]) := by
  refine OK_lst h 12 s d w w rfl (Rf := fun M => rfM M 6) (Rv := fun M => leR M s d w) (fun M e => by show (if wpF (M.1 54 0) s d w ≤ 0 then leR M s d w else rfM M (wpF (M.1 54 0) s d w)) = _; rw [e]) (fun i j C M es ed hi hj hP e => ?_)
  show _ ∨ (_ ∧ leR M s d w = _)
  unfold leR
  rw [e, es, ed, nI_clamp (by omega), nI_clamp (by omega)]
  rcases hP.2 with ⟨e1, e2, -⟩ | ⟨Z, F, S, z1, -, -, e1, -, e3, -, -, -, -, e4, -⟩
  · exact Or.inl ⟨e1, if_pos e2⟩
  · refine Or.inr ⟨by rw [e1]; exact n_m1 (by omega), ?_⟩
    rw [e4, if_neg (nI_n1 (by omega)), e3]
theorem OK_leastSet {m : MM} (h : RST m) (s d w : Int32) : OKo m (cl_lst 13 (cl_ps m s d w)) (fun m1 => Fn_X12_leastSet m1 [vR 12 0, vI s, vI d, vI w]) := by
  refine OK_lst h 13 s d w w rfl (Rf := fun M => rfM M 6) (Rv := fun M => onM (laM M s) (plA (M.1 54 0) s.toNatClampNeg d.toNatClampNeg w 0)) (fun M e => by show (if wpF (M.1 54 0) s d w ≤ 0 then onM (laM M s) (plA (M.1 54 0) s.toNatClampNeg d.toNatClampNeg w 0) else rfM M (wpF (M.1 54 0) s d w)) = _; rw [e]) (fun i j C M es ed hi hj hP e => ?_)
  show _ ∨ (_ ∧ onM (laM M s) (plA (M.1 54 0) s.toNatClampNeg d.toNatClampNeg w 0) = _)
  unfold onM
  rw [e, es, ed, nI_clamp (by omega), nI_clamp (by omega)]
  rcases hP.2 with ⟨e1, e2, -⟩ | ⟨Z, F, S, z1, -, -, e1, -, e3, -, -, -, -, e4, -⟩
  · refine Or.inl ⟨e1, ?_⟩
    show (some (vI (plA (m.1 54 0) i j w 0)), stM (laM M (nI i)) (if plA (m.1 54 0) i j w 0 = -1 then 6 else 0)) = rfM (laM M (nI i)) 6
    rw [e2]; rfl
  · refine Or.inr ⟨by rw [e1]; exact n_m1 (by omega), ?_⟩
    show (some (vI (plA (m.1 54 0) i j w 0)), stM (laM M (nI i)) (if plA (m.1 54 0) i j w 0 = -1 then 6 else 0)) = gvM (laM M (nI i)) (C.1 3 0 13)
    rw [e4, if_neg (nI_n1 (by omega)), e1]
    rfl
theorem OK_fewest {m : MM} (h : RST m) (s d w : Int32) : OKo m (cl_lst 14 (cl_ps m s d w)) (fun m1 => Fn_X12_fewest m1 [vR 12 0, vI s, vI d, vI w]) := by
  refine OK_lst h 14 s d w w rfl (Rf := fun M => rfM M 6) (Rv := fun M => fwR M s d w) (fun M e => by show (if wpF (M.1 54 0) s d w ≤ 0 then fwR M s d w else rfM M (wpF (M.1 54 0) s d w)) = _; rw [e]) (fun i j C M es ed hi hj hP e => ?_)
  show _ ∨ (_ ∧ fwR M s d w = _)
  unfold fwR
  rw [e, es, ed, nI_clamp (by omega), nI_clamp (by omega)]
  rcases hP.2 with ⟨e1, -, e2, -⟩ | ⟨Z, F, S, z1, f1, -, e1, -, -, -, e3, -, -, -, e4, -⟩
  · exact Or.inl ⟨e1, if_pos e2⟩
  · refine Or.inr ⟨by rw [e1]; exact n_m1 (by omega), ?_⟩
    rw [e4, if_neg (nI_n1 (by omega)), nI_clamp (by omega), e3]
theorem wp_99 (a : Nat → Int32) (s d : Int32) : wpF a s d 0 = wpF a s d 99 := by
  unfold wpF
  have e : (¬ (0 : Int32) < 0 ∧ ¬ (99 : Int32) < 0) ↔ (¬ (99 : Int32) < 0 ∧ ¬ (99 : Int32) < 99) := by decide
  rw [ite_iff (not_congr (and_congr Iff.rfl e))]
/-- soonest, by the class's plan -/
theorem sn_eq {a : Nat → Int32} {i j : Nat} {C : MM} (hP : PLo a i j 99 C) : (C.1 3 0 13 = -1 ∧ snA a i j = 1000000) ∨ (¬ C.1 3 0 13 < 0 ∧ snA a i j = C.1 3 0 15 ∧ ∃ v, v ≤ 99 ∧ C.1 3 0 15 = nI v) := by
  unfold snA
  rcases hP.2 with ⟨e1, -, -, e2⟩ | ⟨Z, F, S, z1, f1, s1, e1, -, -, -, e3, e5, ⟨v, hv, ev⟩, -, -, e4⟩
  · exact Or.inl ⟨e1, if_pos e2⟩
  · refine Or.inr ⟨by rw [e1]; exact n_m1 (by omega), ?_, v, hv, e5.trans ev⟩
    rw [e4, if_neg (nI_n1 (by omega)), nI_clamp (by omega), e5]
theorem OK_soonest {m : MM} (h : RST m) (s d : Int32) : OKo m (cl_lst 15 (cl_ps m s d 99)) (fun m1 => Fn_X12_soonest m1 [vR 12 0, vI s, vI d]) := by
  refine OK_lst h 15 s d 99 0 (wp_99 _ _ _) (Rf := fun M => rfM M 6) (Rv := fun M => soR M s d) (fun M e => by show (if wpF (M.1 54 0) s d 0 ≤ 0 then soR M s d else rfM M (wpF (M.1 54 0) s d 0)) = _; rw [e]) (fun i j C M es ed hi hj hP e => ?_)
  show _ ∨ (_ ∧ soR M s d = _)
  unfold soR
  rw [e, es, ed, nI_clamp (by omega), nI_clamp (by omega)]
  rcases sn_eq hP with ⟨e1, e2⟩ | ⟨e1, e2, v, hv, ev⟩
  · exact Or.inl ⟨e1, if_pos e2⟩
  · refine Or.inr ⟨e1, ?_⟩
    rw [e2, ev, if_neg (fun z => by have := nI_inj (q := 1000000) (by omega) (by decide) z; omega)]
theorem OK_most {m : MM} (h : RST m) (s d w : Int32) : OKo m (cl_most m s d w) (fun m1 => Fn_X12_most m1 [vR 12 0, vI s, vI d, vI w]) := by
  obtain ⟨ns, nm, nt, hG, c13, c14, c15, a0, a1, a2, b1, b2, b3⟩ := NOW h
  unfold cl_most
  have cd : npC m s d ↔ ¬ (suP (m.1 54 0) s ∧ maP (m.1 54 0) d) := by unfold npC suP maP; rw [c13, c14, a0, a1]; exact nn_or
  by_cases x : npC m s d
  · rw [if_pos x]
    exact OK_0 h (fun _ => if_neg (fun z => cd.mp x z.1))
  · have y : suP (m.1 54 0) s ∧ maP (m.1 54 0) d := Decidable.byContradiction (fun z => x (cd.mpr z))
    rw [if_neg x]
    by_cases xw : w < 0 ∨ 99 < w
    · rw [if_pos xw]
      exact OK_0 h (fun _ => if_neg (fun z => xw.elim z.2.1 z.2.2))
    · rw [if_neg xw]
      obtain ⟨i, hi, rfl⟩ := sp_in a0 (by omega) y.1
      obtain ⟨j, hj, rfl⟩ := mp_in a1 (by omega) y.2
      have ei : (nI i).toNatClampNeg = i := nI_clamp (by omega)
      have ej : (nI j).toNatClampNeg = j := nI_clamp (by omega)
      have hq : (suP (m.1 54 0) (nI i) ∧ maP (m.1 54 0) (nI j)) ∧ (¬ w < 0 ∧ ¬ 99 < w) := ⟨y, fun q => xw (Or.inl q), fun q => xw (Or.inr q)⟩
      rw [ei, ej, (AG_s hG.2.1 hi).2.2.2]
      by_cases x1 : m.1 54 0 (15 + 4 * i) = -1
      · rw [if_neg (fun z => z x1)]
        obtain ⟨C, eC⟩ : ∃ C, C = mkM m (m.2.2 0) i j w := ⟨_, rfl⟩
        have hP := AG_PLo hG.2.1 hG.1.1 hi hj (mk_val (VG_VAL hG) hi hj xw)
        obtain ⟨k1, k2⟩ := KP_3 (SM3_mk m (m.2.2 0) i j w) (mkM_2 _ _ _ _ _)
        rw [← eC] at hP k1 k2 ⊢
        unfold cl_mo1
        have e54 : (stC C 0).1 54 0 = m.1 54 0 := k2.1 54 0 (by omega)
        refine OK_s h k1 k2 (X := laM (stC C 0) (nI i)) (w := hdA (m.1 54 0) (nI i) j + msF (m.1 54 0) (m.1 54 0 2).toNatClampNeg (hsN (m.1 54 0) i) i j w (hsN (m.1 54 0) i + 1)) hP.1 (KS_la _ _) ?_
        show (if (suP ((stC C 0).1 54 0) (nI i) ∧ maP ((stC C 0).1 54 0) (nI j)) ∧ (¬ w < 0 ∧ ¬ 99 < w) then (if (stC C 0).1 54 0 (15 + 4 * (nI i).toNatClampNeg) = -1 then moR (stC C 0) (nI i).toNatClampNeg (nI j).toNatClampNeg w else rfM (stC C 0) 7) else rfM (stC C 0) 1) = _
        rw [e54, if_pos hq, ei, ej, if_pos x1]
        unfold moR
        rw [e54]
      · rw [if_pos x1]
        refine OK_0 h (fun X => ?_)
        show (if (suP (m.1 54 0) (nI i) ∧ maP (m.1 54 0) (nI j)) ∧ (¬ w < 0 ∧ ¬ 99 < w) then (if m.1 54 0 (15 + 4 * (nI i).toNatClampNeg) = -1 then moR (stC m X) (nI i).toNatClampNeg (nI j).toNatClampNeg w else rfM (stC m X) 7) else rfM (stC m X) 1) = _
        rw [if_pos hq, ei, if_neg x1]

end
