/-! PART 9ZL: rivals, the cheapest and who is within reach -/

noncomputable section
theorem KS_i {p : Prop} [Decidable p] {m a b : MM} (ha : KS m a) (hb : KS m b) : KS m (mite p a b) := by
  unfold mite
  split
  · exact ha
  · exact hb
theorem KS_ly {m : MM} (i d : Nat) : KS m (lyM m i d) := KS_i (KS_la _ _) (KS_r _)
theorem KS_lk (m : MM) (i : Nat) : ∀ k, KS m (lkM m i k)
  | 0 => KS_r m
  | k + 1 => KS_t (KS_lk m i k) (KS_ly i k)
/-- the class's plan, made -/
theorem PL_at {m : MM} (h : RST m) {i j : Nat} {w : Int32} (hi : i < 4) (hj : j < 4) (si : suP (m.1 54 0) (nI i)) (sj : maP (m.1 54 0) (nI j)) (hw : ¬ (w < 0 ∨ 99 < w)) : PLo (m.1 54 0) i j w (mkM m (m.2.2 0) i j w) ∧ KP m (mkM m (m.2.2 0) i j w) ∧ MCo m (mkM m (m.2.2 0) i j w) := by
  obtain ⟨ns, nm, nt, hG, c13, c14, c15, a0, a1, a2, b1, b2, b3⟩ := NOW h
  obtain ⟨i', hi', e⟩ := sp_in a0 (by omega) si
  obtain ⟨j', hj', e'⟩ := mp_in a1 (by omega) sj
  have q := nI_inj (by omega) (by omega) e
  have q' := nI_inj (by omega) (by omega) e'
  exact ⟨AG_PLo hG.2.1 hG.1.1 (show i < ns by omega) (show j < nm by omega) (mk_val (VG_VAL hG) (by omega) (by omega) hw), KP_3 (SM3_mk _ _ _ _ _) (mkM_2 _ _ _ _ _)⟩
/-- how soon: the class's and the model's word for never -/
def SNo (x y : Int32) : Prop := (x = 100 ∧ y = 1000000) ∨ ∃ v, v ≤ 99 ∧ x = nI v ∧ y = nI v
theorem SN_ok {a : Nat → Int32} {i j : Nat} {C : MM} (hP : PLo a i j 99 C) : SNo (cl_sn C) (snA a i j) := by
  unfold cl_sn
  rcases sn_eq hP with ⟨e1, e2⟩ | ⟨e1, e2, v, hv, ev⟩
  · exact Or.inl ⟨if_neg (fun z => z (by rw [e1]; decide)), e2⟩
  · exact Or.inr ⟨v, hv, (if_pos e1).trans ev, e2.trans ev⟩
theorem SN_6 {x y x' y' : Int32} (h : SNo x y) (h' : SNo x' y') : (x ≤ 99 ∨ x' ≤ 99) ↔ ¬ (y = 1000000 ∧ y' = 1000000) := by
  have k : ∀ v, v ≤ 99 → nI v ≤ 99 := fun v hv => (nI_leI (b := 99) (by omega) (by decide)).mpr hv
  have n : ∀ v, v ≤ 99 → ¬ nI v = 1000000 := fun v hv z => by have := nI_inj (q := 1000000) (by omega) (by decide) z; omega
  rcases h with ⟨rfl, rfl⟩ | ⟨v, hv, rfl, rfl⟩
  · rcases h' with ⟨rfl, rfl⟩ | ⟨v', hv', rfl, rfl⟩
    · decide
    · exact ⟨fun _ z => n v' hv' z.2, fun _ => Or.inr (k v' hv')⟩
  · exact ⟨fun _ z => n v hv z.1, fun _ => Or.inl (k v hv)⟩
theorem SN_e {x y x' y' : Int32} (h : SNo x y) (h' : SNo x' y') : (x = x' ↔ y = y') ∧ (x' ≤ x ↔ ¬ y < y') := by
  have k1 : (1000000 : Int32) = nI 1000000 := rfl
  have k2 : (100 : Int32) = nI 100 := rfl
  rcases h with ⟨rfl, rfl⟩ | ⟨v, hv, rfl, rfl⟩
  · rcases h' with ⟨rfl, rfl⟩ | ⟨v', hv', rfl, rfl⟩
    · decide
    · rw [k1, k2, nI_eq (by omega) (by omega), nI_eq (by omega) (by omega), nI_leI (by omega) (by omega), nI_ltI (by omega) (by omega)]
      omega
  · rcases h' with ⟨rfl, rfl⟩ | ⟨v', hv', rfl, rfl⟩
    · rw [k1, k2, nI_eq (by omega) (by omega), nI_eq (by omega) (by omega), nI_leI (by omega) (by omega), nI_ltI (by omega) (by omega)]
      omega
    · refine ⟨Iff.rfl, ?_⟩
      rw [nI_leI (by omega) (by omega), nI_ltI (by omega) (by omega)]
      omega
theorem RV_e {x y x' y' : Int32} {i j p q : Nat} (h : SNo x y) (h' : SNo x' y') (hi : i < 4) (hj : j < 4) (hp : p ≤ 99) (hq : q ≤ 99) : (if x = x' then (if nI p = nI q then (if nI j ≤ nI i then nI j else nI i) else (if nI p ≤ nI q then nI j else nI i)) else (if x' ≤ x then nI j else nI i)) = (if y < y' ∨ (y = y' ∧ (0 < nI p - nI q ∨ (nI p - nI q = 0 ∧ ¬ nI j ≤ nI i))) then nI i else nI j) := by
  obtain ⟨e1, e2⟩ := SN_e h h'
  by_cases c : x = x'
  · have c1 := e1.mp c
    have c2 : ¬ y < y' := e2.mp (by rw [c]; exact Int32.le_refl _)
    have u1 : 0 < nI p - nI q ↔ nI q < nI p := sub_pos (by omega) (by omega)
    have u2 : nI p - nI q = 0 ↔ nI p = nI q := sub_zero (by omega) (by omega)
    rw [if_pos c]
    by_cases d : nI p = nI q
    · rw [if_pos d]
      by_cases f : nI j ≤ nI i
      · rw [if_pos f, if_neg]
        rintro (z | ⟨-, z | z⟩)
        · exact c2 z
        · have z := u1.mp z; rw [d] at z; exact Int32.lt_irrefl z
        · exact z.2 f
      · rw [if_neg f, if_pos (Or.inr ⟨c1, Or.inr ⟨u2.mpr d, f⟩⟩)]
    · rw [if_neg d]
      have d' : ¬ p = q := fun z => d (by rw [z])
      by_cases f : nI p ≤ nI q
      · have f' := (nI_leI (by omega) (by omega)).mp f
        rw [if_pos f, if_neg]
        rintro (z | ⟨-, z | z⟩)
        · exact c2 z
        · have := (nI_ltI (by omega) (by omega)).mp (u1.mp z); omega
        · exact d (u2.mp z.1)
      · have f' : ¬ p ≤ q := fun z => f ((nI_leI (by omega) (by omega)).mpr z)
        rw [if_neg f, if_pos (Or.inr ⟨c1, Or.inl (u1.mpr ((nI_ltI (by omega) (by omega)).mpr (by omega)))⟩)]
  · have c1 : ¬ y = y' := fun z => c (e1.mpr z)
    rw [if_neg c]
    by_cases f : x' ≤ x
    · rw [if_pos f, if_neg]
      rintro (z | z)
      · exact e2.mp f z
      · exact c1 z.1
    · have : y < y' := Decidable.byContradiction (fun z => f (e2.mpr z))
      rw [if_neg f, if_pos (Or.inl this)]
theorem rv4_if (m : MM) (a b sa sb : Int32) : cl_rv4 m a b sa sb = gvC m (if sa = sb then (if m.1 30 (m.2.2 0) a.toNatClampNeg = m.1 30 (m.2.2 0) b.toNatClampNeg then (if b ≤ a then b else a) else (if m.1 30 (m.2.2 0) a.toNatClampNeg ≤ m.1 30 (m.2.2 0) b.toNatClampNeg then b else a)) else (if sb ≤ sa then b else a)) := by
  unfold cl_rv4
  by_cases c : sa = sb
  · rw [if_pos c, if_pos c]
    by_cases d : m.1 30 (m.2.2 0) a.toNatClampNeg = m.1 30 (m.2.2 0) b.toNatClampNeg
    · rw [if_pos d, if_pos d]
    · rw [if_neg d, if_neg d]
  · rw [if_neg c, if_neg c]
theorem OK_rivals {m : MM} (h : RST m) (a b d : Int32) : OKo m (cl_rivals m a b d) (fun m1 => Fn_X12_rivals m1 [vR 12 0, vI a, vI b, vI d]) := by
  obtain ⟨ns, nm, nt, hG, c13, c14, c15, a0, a1, a2, b1, b2, b3⟩ := NOW h
  have hA := hG.2.1
  have cd : ∀ s, npC m s d ↔ ¬ (suP (m.1 54 0) s ∧ maP (m.1 54 0) d) := fun s => by unfold npC suP maP; rw [c13, c14, a0, a1]; exact nn_or
  unfold cl_rivals
  by_cases x : npC m a d
  · rw [if_pos x]
    exact OK_0 h (fun _ => if_neg (fun z => (cd a).mp x z.1))
  · have y : suP (m.1 54 0) a ∧ maP (m.1 54 0) d := Decidable.byContradiction (fun z => x ((cd a).mpr z))
    rw [if_neg x]
    by_cases x2 : npC m b d
    · rw [if_pos x2]
      exact OK_0 h (fun _ => if_neg (fun z => (cd b).mp x2 ⟨z.2.1, z.1.2⟩))
    · have y2 : suP (m.1 54 0) b ∧ maP (m.1 54 0) d := Decidable.byContradiction (fun z => x2 ((cd b).mpr z))
      rw [if_neg x2]
      by_cases x3 : a = b
      · rw [if_pos x3]
        exact OK_0 h (fun _ => if_neg (fun z => z.2.2 x3))
      · rw [if_neg x3]
        obtain ⟨i, hi, rfl⟩ := sp_in a0 (by omega) y.1
        obtain ⟨k, hk, rfl⟩ := sp_in a0 (by omega) y2.1
        obtain ⟨j, hj, rfl⟩ := mp_in a1 (by omega) y.2
        have ei : (nI i).toNatClampNeg = i := nI_clamp (by omega)
        have ek : (nI k).toNatClampNeg = k := nI_clamp (by omega)
        have ej : (nI j).toNatClampNeg = j := nI_clamp (by omega)
        have hf : ∀ M : MM, M.1 54 0 = m.1 54 0 → Fn_X12_rivals M [vR 12 0, vI (nI i), vI (nI k), vI (nI j)] = if m.1 54 0 (15 + 4 * i) = -1 ∧ m.1 54 0 (15 + 4 * k) = -1 ∧ m.1 54 0 (31 + 4 * j) = -1 then rvR M i k j else rfM M 7 := by
          intro M e
          show (if (suP (M.1 54 0) (nI i) ∧ maP (M.1 54 0) (nI j)) ∧ suP (M.1 54 0) (nI k) ∧ ¬ nI i = nI k then (if M.1 54 0 (15 + 4 * (nI i).toNatClampNeg) = -1 ∧ M.1 54 0 (15 + 4 * (nI k).toNatClampNeg) = -1 ∧ M.1 54 0 (31 + 4 * (nI j).toNatClampNeg) = -1 then rvR M (nI i).toNatClampNeg (nI k).toNatClampNeg (nI j).toNatClampNeg else rfM M 7) else rfM M 1) = _
          rw [e, ei, ek, ej, if_pos ⟨y, y2.1, x3⟩]
        unfold cl_rv0
        rw [ei, ek, ej, (AG_s hA hi).2.2.2, (AG_s hA hk).2.2.2, (AG_d hA hj).2.2.2]
        by_cases p1 : m.1 54 0 (15 + 4 * i) = -1
        · rw [if_neg (show ¬ ¬ m.1 54 0 (15 + 4 * i) = -1 from fun z => z p1)]
          by_cases p2 : m.1 54 0 (15 + 4 * k) = -1
          · rw [if_neg (show ¬ ¬ m.1 54 0 (15 + 4 * k) = -1 from fun z => z p2)]
            by_cases p3 : m.1 54 0 (31 + 4 * j) = -1
            · rw [if_neg (show ¬ ¬ m.1 54 0 (31 + 4 * j) = -1 from fun z => z p3)]
              obtain ⟨hP, k1, k2⟩ := PL_at h (i := i) (j := j) (w := 99) (by omega) (by omega) y.1 y.2 (by decide)
              obtain ⟨C, eC⟩ : ∃ C, C = mkM m (m.2.2 0) i j 99 := ⟨_, rfl⟩
              rw [← eC] at hP k1 k2 ⊢
              unfold cl_rv1
              have h1 := RST_k h k1
              have e1 : C.1 54 0 = m.1 54 0 := k2.1 54 0 (by omega)
              obtain ⟨hQ, l1, l2⟩ := PL_at h1 (i := k) (j := j) (w := 99) (by omega) (by omega) (by rw [e1]; exact y2.1) (by rw [e1]; exact y.2) (by decide)
              rw [ek, ej]
              obtain ⟨D, eD⟩ : ∃ D, D = mkM C (C.2.2 0) k j 99 := ⟨_, rfl⟩
              rw [← eD] at hQ l1 l2 ⊢
              rw [e1] at hQ
              have s1 := SN_ok hP
              have s2 := SN_ok hQ
              have kk := KP_t k1 l1
              have mm := MC_t k2 l2
              have eD54 : ∀ X, (stC D X).1 54 0 = m.1 54 0 := fun X => mm.1 54 0 (by omega)
              have eD30 : ∀ s, s < 4 → s < ns → D.1 30 (D.2.2 0) s = m.1 54 0 (12 + 4 * s) := fun s hs hs' => by
                rw [kk.1 30 _ (by unfold kC; omega), kk.2.2.2.2.2]
                rw [← (AG_s hA hs').1, ab_age (by omega)]
              obtain ⟨p, hp, ep⟩ := hG.2.2.1.2.1.1 i hi
              obtain ⟨q, hq, eq⟩ := hG.2.2.1.2.1.1 k hk
              have go : ∀ X, Fn_X12_rivals (stC D X) [vR 12 0, vI (nI i), vI (nI k), vI (nI j)] = rvR (stC D X) i k j := fun X => (hf _ (eD54 X)).trans (if_pos ⟨p1, p2, p3⟩)
              have sc : ∀ X, KS (stC D X) (laM (laM (stC D X) (nI i)) (nI k)) := fun X => KS_t (KS_la _ _) (KS_la _ _)
              unfold cl_rv2 cl_rv3
              rw [if_if, rv4_if, ei, ek, eD30 i (by omega) hi, eD30 k (by omega) hk, ep, eq, RV_e s1 s2 (by omega) (by omega) hp hq]
              by_cases g : cl_sn C ≤ 99 ∨ cl_sn D ≤ 99
              · rw [if_pos g]
                refine OK_s h kk mm (X := laM (laM (stC D 0) (nI i)) (nI k)) rfl (sc 0) ((go 0).trans ?_)
                unfold rvR
                rw [eD54, if_neg ((SN_6 s1 s2).mp g), ep, eq]
              · rw [if_neg g]
                refine OK_sr h kk mm (sc 6) ((go 6).trans ?_)
                unfold rvR
                rw [eD54, if_pos (Decidable.byContradiction (fun z => g ((SN_6 s1 s2).mpr z)))]
            · rw [if_pos (show ¬ m.1 54 0 (31 + 4 * j) = -1 from p3)]
              exact OK_0 h (fun X => (hf (stC m X) rfl).trans (if_neg (fun z => p3 z.2.2)))
          · rw [if_pos (show ¬ m.1 54 0 (15 + 4 * k) = -1 from p2)]
            exact OK_0 h (fun X => (hf (stC m X) rfl).trans (if_neg (fun z => p2 z.2.1)))
        · rw [if_pos (show ¬ m.1 54 0 (15 + 4 * i) = -1 from p1)]
          exact OK_0 h (fun X => (hf (stC m X) rfl).trans (if_neg (fun z => p1 z.1)))
/-- a plan and the model's price -/
theorem PS_at {m : MM} (h : RST m) {i j : Nat} {w : Int32} (hi : i < 4) (hj : j < 4) (si : suP (m.1 54 0) (nI i)) (sj : maP (m.1 54 0) (nI j)) (p1 : m.1 54 0 (15 + 4 * i) = -1) (hw : ¬ (w < 0 ∨ 99 < w)) : KP m (cl_ps m (nI i) (nI j) w).2 ∧ MCo m (cl_ps m (nI i) (nI j) w).2 ∧ ((¬ (cl_ps m (nI i) (nI j) w).1 = 0 ∧ lyA (m.1 54 0) i j w = 1000000) ∨ ((cl_ps m (nI i) (nI j) w).1 = 0 ∧ ∃ v, v ≤ 1188 ∧ (cl_ps m (nI i) (nI j) w).2.1 3 0 12 = nI v ∧ lyA (m.1 54 0) i j w = nI v)) := by
  have ei : (nI i).toNatClampNeg = i := nI_clamp (by omega)
  have ej : (nI j).toNatClampNeg = j := nI_clamp (by omega)
  have hW : wpF (m.1 54 0) (nI i) (nI j) w = if m.1 54 0 (31 + 4 * j) = -1 then 0 else 7 := by
    unfold wpF
    rw [if_neg (fun z => z ⟨⟨si, sj⟩, fun q => hw (Or.inl q), fun q => hw (Or.inr q)⟩), ei, ej]
    by_cases x : m.1 54 0 (31 + 4 * j) = -1
    · rw [if_pos x, if_neg (fun z => z.elim (fun q => q p1) (fun q => q x))]
    · rw [if_neg x, if_pos (Or.inr x)]
  rcases PS_ok h (nI i) (nI j) w with ⟨e1, e2⟩ | ⟨e1, e2⟩ | ⟨e1, i', j', C, es, ed, hi', hj', -, q2, e2, hP, hC, hC2⟩
  · rw [hW] at e1
    split at e1 <;> exact absurd e1 (by decide)
  · rw [e2]
    refine ⟨KP_r m, MC_r m, Or.inl ⟨show ¬ (7 : Int32) = 0 by decide, if_neg (fun z => ?_)⟩⟩
    rw [hW, if_pos z] at e1
    exact absurd e1 (by decide)
  · have q := nI_inj (by omega) (by omega) es
    have q' := nI_inj (by omega) (by omega) ed
    subst q q'
    obtain ⟨k1, k2⟩ := KP_3 hC hC2
    rw [e2]
    refine ⟨k1, k2, ?_⟩
    unfold cl_ps1 lyA
    rw [if_pos q2]
    rcases hP.2 with ⟨e3, e4, -⟩ | ⟨Z, F, S, z1, -, -, e3, -, e4, ⟨v, hv, ev⟩, -, -, -, e5, -⟩
    · exact Or.inl ⟨by rw [if_neg (show ¬ ¬ C.1 3 0 13 < 0 from fun z => z (by rw [e3]; decide))]; exact (show ¬ (6 : Int32) = 0 by decide), if_pos e4⟩
    · refine Or.inr ⟨if_pos (by rw [e3]; exact n_m1 (by omega)), v, hv, e4.trans ev, ?_⟩
      rw [e5, if_neg (nI_n1 (by omega)), ev]
theorem CH_ok {m : MM} (h : RST m) {i : Nat} {w : Int32} (hi : i < 4) (si : suP (m.1 54 0) (nI i)) (p1 : m.1 54 0 (15 + 4 * i) = -1) (hw : ¬ (w < 0 ∨ 99 < w)) (nm : Nat) (hm : nm ≤ 4) (hs : ∀ j, j < nm → maP (m.1 54 0) (nI j)) : ∀ k j b bw M, j + k = nm → KP m M → MCo m M → ((b = -1 ∧ ckB (m.1 54 0) i w j = (-1, 1000000)) ∨ ∃ x y, x < 4 ∧ y ≤ 1188 ∧ b = nI x ∧ bw = nI y ∧ ckB (m.1 54 0) i w j = (nI x, nI y)) → KP m (cl_chL (nI i) w k j b bw M).2 ∧ MCo m (cl_chL (nI i) w k j b bw M).2 ∧ (cl_chL (nI i) w k j b bw M).1 = (ckB (m.1 54 0) i w nm).1 ∧ ((ckB (m.1 54 0) i w nm).1 = -1 ∨ ¬ (ckB (m.1 54 0) i w nm).1 < 0)
  | 0, j, b, bw, M, e, k1, k2, hb => by
    have : j = nm := by omega
    subst this
    rw [cl_chL]
    refine ⟨k1, k2, ?_⟩
    rcases hb with ⟨e1, e2⟩ | ⟨x, y, hx, -, e1, -, e2⟩
    · rw [e1, e2]; exact ⟨rfl, Or.inl rfl⟩
    · rw [e1, e2]; exact ⟨rfl, Or.inr (n_m1 (by omega))⟩
  | k + 1, j, b, bw, M, e, k1, k2, hb => by
    have e54 : M.1 54 0 = m.1 54 0 := k2.1 54 0 (by omega)
    obtain ⟨l1, l2, l3⟩ := PS_at (RST_k h k1) hi (show j < 4 by omega) (by rw [e54]; exact si) (by rw [e54]; exact hs j (by omega)) (by rw [e54]; exact p1) hw
    rw [e54] at l3
    have go := CH_ok h hi si p1 hw nm hm hs k (j + 1)
    have q1 := KP_t k1 l1
    have q2 := MC_t k2 l2
    rw [cl_chL]
    rcases l3 with ⟨n1, n2⟩ | ⟨n1, v, hv, n2, n3⟩
    · rw [if_neg n1]
      refine go _ _ _ (by omega) q1 q2 ?_
      have ec : ckB (m.1 54 0) i w (j + 1) = ckB (m.1 54 0) i w j := by
        rw [ckB, n2]
        refine if_neg ?_
        rcases hb with ⟨-, e2⟩ | ⟨x, y, hx, hy, -, -, e2⟩
        · rw [e2]; decide
        · rw [e2]
          intro z
          have := (nI_ltI (a := 1000000) (b := y) (by omega) (by omega)).mp z
          omega
      rw [ec]; exact hb
    · rw [if_pos n1, n2]
      rcases hb with ⟨e1, e2⟩ | ⟨x, y, hx, hy, e1, e1', e2⟩
      · have ec : ckB (m.1 54 0) i w (j + 1) = (nI j, nI v) := by
          rw [ckB, n3, e2]
          exact if_pos ((nI_ltI (b := 1000000) (by omega) (by omega)).mpr (by omega))
        rw [if_pos (by rw [e1]; decide)]
        exact go _ _ _ (by omega) q1 q2 (Or.inr ⟨j, v, by omega, hv, rfl, rfl, ec⟩)
      · rw [if_neg (by rw [e1]; exact n_m1 (by omega))]
        by_cases c : bw ≤ nI v
        · rw [if_pos c]
          have ec : ckB (m.1 54 0) i w (j + 1) = ckB (m.1 54 0) i w j := by
            rw [ckB, n3, e2]
            refine if_neg (fun z => ?_)
            rw [e1'] at c
            have c1 := (nI_leI (by omega) (by omega)).mp c
            have c2 := (nI_ltI (by omega) (by omega)).mp z
            omega
          exact go _ _ _ (by omega) q1 q2 (Or.inr ⟨x, y, hx, hy, e1, e1', by rw [ec]; exact e2⟩)
        · rw [if_neg c]
          have ec : ckB (m.1 54 0) i w (j + 1) = (nI j, nI v) := by
            rw [ckB, n3, e2]
            refine if_pos ((nI_ltI (by omega) (by omega)).mpr ?_)
            rw [e1', nI_leI (by omega) (by omega)] at c
            omega
          exact go _ _ _ (by omega) q1 q2 (Or.inr ⟨j, v, by omega, hv, rfl, rfl, ec⟩)
theorem WI_ok {m : MM} (h : RST m) {i : Nat} {w : Int32} (hi : i < 4) (si : suP (m.1 54 0) (nI i)) (p1 : m.1 54 0 (15 + 4 * i) = -1) (hw : ¬ (w < 0 ∨ 99 < w)) (nm : Nat) (hm : nm ≤ 4) (hs : ∀ j, j < nm → maP (m.1 54 0) (nI j)) : ∀ k j b M, j + k = nm → KP m M → MCo m M → b = wnS (m.1 54 0) i w j → KP m (cl_wiL (nI i) w k j b M).2 ∧ MCo m (cl_wiL (nI i) w k j b M).2 ∧ (cl_wiL (nI i) w k j b M).1 = wnS (m.1 54 0) i w nm
  | 0, j, b, M, e, k1, k2, hb => by
    have : j = nm := by omega
    subst this
    rw [cl_wiL]
    exact ⟨k1, k2, hb⟩
  | k + 1, j, b, M, e, k1, k2, hb => by
    have e54 : M.1 54 0 = m.1 54 0 := k2.1 54 0 (by omega)
    obtain ⟨l1, l2, l3⟩ := PS_at (RST_k h k1) hi (show j < 4 by omega) (by rw [e54]; exact si) (by rw [e54]; exact hs j (by omega)) (by rw [e54]; exact p1) hw
    rw [e54] at l3
    rw [cl_wiL]
    refine WI_ok h hi si p1 hw nm hm hs k (j + 1) _ _ (by omega) (KP_t k1 l1) (MC_t k2 l2) ?_
    rw [wnS, ← hb]
    rcases l3 with ⟨n1, n2⟩ | ⟨n1, v, hv, n2, n3⟩
    · rw [if_neg n1, n2, if_pos (by decide)]
      exact (Int32.or_zero).symm
    · rw [if_pos n1, n3, if_neg]
      intro z
      have := (nI_leI (a := 1000000) (by omega) (by omega)).mp z
      omega
theorem ma_k {a : Nat → Int32} {nm : Nat} (a1 : a 1 = nI nm) (hm : nm ≤ 4) (j : Nat) (hj : j < nm) : maP a (nI j) := ⟨n_m1 (by omega), by rw [a1, nI_leI (by omega) (by omega)]; omega⟩
theorem OK_cheapest {m : MM} (h : RST m) (s w : Int32) : OKo m (cl_cheapest m s w) (fun m1 => Fn_X12_cheapest m1 [vR 12 0, vI s, vI w]) := by
  obtain ⟨ns, nm, nt, hG, c13, c14, c15, a0, a1, a2, b1, b2, b3⟩ := NOW h
  have hA := hG.2.1
  unfold cl_cheapest
  by_cases x : s < 0 ∨ m.1 6 (m.2.2 0) 13 ≤ s
  · rw [if_pos x]
    rw [c13, ← a0] at x
    exact OK_0 h (fun _ => if_neg (fun z => x.elim z.1.1 z.1.2))
  · rw [if_neg x]
    have y : suP (m.1 54 0) s := ⟨fun z => x (Or.inl z), fun z => x (Or.inr (by rw [c13, ← a0]; exact z))⟩
    by_cases xw : w < 0 ∨ 99 < w
    · rw [if_pos xw]
      exact OK_0 h (fun _ => if_neg (fun z => xw.elim z.2.1 z.2.2))
    · rw [if_neg xw]
      obtain ⟨i, hi, rfl⟩ := sp_in a0 (by omega) y
      have ei : (nI i).toNatClampNeg = i := nI_clamp (by omega)
      have hf : ∀ M : MM, M.1 54 0 = m.1 54 0 → Fn_X12_cheapest M [vR 12 0, vI (nI i), vI w] = if m.1 54 0 (15 + 4 * i) = -1 then onM (lkM M i nm) (ckB (m.1 54 0) i w nm).1 else rfM M 7 := by
        intro M e
        show (if suP (M.1 54 0) (nI i) ∧ (¬ w < 0 ∧ ¬ 99 < w) then (if M.1 54 0 (15 + 4 * (nI i).toNatClampNeg) = -1 then onM (lkM M (nI i).toNatClampNeg (M.1 54 0 1).toNatClampNeg) (ckB (M.1 54 0) (nI i).toNatClampNeg w (M.1 54 0 1).toNatClampNeg).1 else rfM M 7) else rfM M 1) = _
        rw [e, ei, a1, nI_clamp (by omega), if_pos ⟨y, fun q => xw (Or.inl q), fun q => xw (Or.inr q)⟩]
      rw [ei, (AG_s hA hi).2.2.2, c14, nI_clamp (by omega)]
      by_cases p1 : m.1 54 0 (15 + 4 * i) = -1
      · rw [if_neg (show ¬ ¬ m.1 54 0 (15 + 4 * i) = -1 from fun z => z p1)]
        obtain ⟨k1, k2, k3, k4⟩ := CH_ok h (show i < 4 by omega) y p1 xw nm b2 (ma_k a1 b2) nm 0 (-1) 0 m (by omega) (KP_r m) (MC_r m) (Or.inl ⟨rfl, rfl⟩)
        unfold cl_ch1
        generalize cl_chL (nI i) w nm 0 (-1) 0 m = P at *
        obtain ⟨v, C⟩ := P
        have e54 : ∀ X, (stC C X).1 54 0 = m.1 54 0 := fun X => k2.1 54 0 (by omega)
        have go := fun X => (hf (stC C X) (e54 X)).trans (if_pos p1)
        show OKo m (onC C v) _
        unfold onC
        have k3 : v = _ := k3
        rcases k4 with z | z
        · rw [k3, z, if_pos (show (-1 : Int32) < 0 by decide), if_pos (show (-1 : Int32) < 0 by decide)]
          refine OK_sr h k1 k2 (KS_lk _ i nm) ((go 6).trans ?_)
          unfold onM
          rw [z, if_pos rfl]; rfl
        · rw [k3, if_neg z, if_neg z]
          refine OK_s h k1 k2 rfl (KS_lk _ i nm) ((go 0).trans ?_)
          unfold onM
          rw [if_neg (fun y => z (by rw [y]; decide))]; rfl
      · rw [if_pos (show ¬ m.1 54 0 (15 + 4 * i) = -1 from p1)]
        exact OK_0 h (fun X => (hf (stC m X) rfl).trans (if_neg p1))
theorem OK_within {m : MM} (h : RST m) (s w : Int32) : OKo m (cl_within m s w) (fun m1 => Fn_X12_within m1 [vR 12 0, vI s, vI w]) := by
  obtain ⟨ns, nm, nt, hG, c13, c14, c15, a0, a1, a2, b1, b2, b3⟩ := NOW h
  have hA := hG.2.1
  unfold cl_within
  by_cases x : s < 0 ∨ m.1 6 (m.2.2 0) 13 ≤ s
  · rw [if_pos x]
    rw [c13, ← a0] at x
    exact OK_0 h (fun _ => if_neg (fun z => x.elim z.1.1 z.1.2))
  · rw [if_neg x]
    have y : suP (m.1 54 0) s := ⟨fun z => x (Or.inl z), fun z => x (Or.inr (by rw [c13, ← a0]; exact z))⟩
    by_cases xw : w < 0 ∨ 99 < w
    · rw [if_pos xw]
      exact OK_0 h (fun _ => if_neg (fun z => xw.elim z.2.1 z.2.2))
    · rw [if_neg xw]
      obtain ⟨i, hi, rfl⟩ := sp_in a0 (by omega) y
      have ei : (nI i).toNatClampNeg = i := nI_clamp (by omega)
      have hf : ∀ M : MM, M.1 54 0 = m.1 54 0 → Fn_X12_within M [vR 12 0, vI (nI i), vI w] = if m.1 54 0 (15 + 4 * i) = -1 then gvM (lkM M i nm) (wnS (m.1 54 0) i w nm) else rfM M 7 := by
        intro M e
        show (if suP (M.1 54 0) (nI i) ∧ (¬ w < 0 ∧ ¬ 99 < w) then (if M.1 54 0 (15 + 4 * (nI i).toNatClampNeg) = -1 then gvM (lkM M (nI i).toNatClampNeg (M.1 54 0 1).toNatClampNeg) (wnS (M.1 54 0) (nI i).toNatClampNeg w (M.1 54 0 1).toNatClampNeg) else rfM M 7) else rfM M 1) = _
        rw [e, ei, a1, nI_clamp (by omega), if_pos ⟨y, fun q => xw (Or.inl q), fun q => xw (Or.inr q)⟩]
      rw [ei, (AG_s hA hi).2.2.2, c14, nI_clamp (by omega)]
      by_cases p1 : m.1 54 0 (15 + 4 * i) = -1
      · rw [if_neg (show ¬ ¬ m.1 54 0 (15 + 4 * i) = -1 from fun z => z p1)]
        obtain ⟨k1, k2, k3⟩ := WI_ok h (show i < 4 by omega) y p1 xw nm b2 (ma_k a1 b2) nm 0 0 m (by omega) (KP_r m) (MC_r m) rfl
        unfold cl_wi1
        generalize cl_wiL (nI i) w nm 0 0 m = P at *
        obtain ⟨v, C⟩ := P
        have e54 : ∀ X, (stC C X).1 54 0 = m.1 54 0 := fun X => k2.1 54 0 (by omega)
        exact OK_s h k1 k2 k3 (KS_lk _ i nm) ((hf (stC C 0) (e54 0)).trans (if_pos p1))
      · rw [if_pos (show ¬ m.1 54 0 (15 + 4 * i) = -1 from p1)]
        exact OK_0 h (fun X => (hf (stC m X) rfl).trans (if_neg p1))

end
