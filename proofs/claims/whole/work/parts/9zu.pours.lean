/-! PART 9ZU: pouring, keeping, feeding, alike -/

noncomputable section
def PFo (m : MM) (x p y q n : Int32) : Prop := ∃ t u A B : Nat, ∃ p' q' n' : Nat, t < 4 ∧ u < 4 ∧ x = nI t ∧ y = nI u ∧ A ≤ 60 ∧ B ≤ 60 ∧ m.1 5 t 3 = nI A ∧ m.1 5 u 3 = nI B ∧ p = nI p' ∧ q = nI q' ∧ n = nI n' ∧ p' + n' ≤ A ∧ q' + n' ≤ B ∧ (∀ i, i < A → m.2.1 58 0 (60 * t + i) = m.2.1 28 t i) ∧ (∀ i, i < B → m.2.1 58 0 (60 * u + i) = m.2.1 28 u i)
theorem nI_ofl {x : Int32} {n : Nat} (h0 : ¬ x < 0) (h : x.toInt ≤ n) (hn : n < 2 ^ 30) : ∃ k, k ≤ n ∧ x = nI k := by
  obtain ⟨k, hk, e⟩ := arg_in (x := x) (n := n + 1) h0 (fun z => by
    have z := Int32.le_iff_toInt_le.mp z
    rw [nI_tI (by omega)] at z
    omega) (by omega)
  exact ⟨k, by omega, e⟩
theorem PF_ok {m : MM} (h : RST m) (x p y q n : Int32) : (poF m x p y q n = 0 ∧ cl_pour m x p y q n = alC (cpoM m x p y q n) ∧ PFo m x p y q n) ∨ (¬ poF m x p y q n = 0 ∧ cl_pour m x p y q n = dnC m (poF m x p y q n)) := by
  unfold poF cl_pour
  by_cases x0 : x < 0 ∨ 4 ≤ x
  · rw [if_pos x0, if_neg (fun z => x0.elim z.1.1 z.1.2)]
    exact Or.inr ⟨by decide, rfl⟩
  · rw [if_neg x0]
    by_cases y0 : y < 0 ∨ 4 ≤ y
    · rw [if_pos y0, if_neg (fun z => y0.elim z.2.1.1 z.2.1.2)]
      exact Or.inr ⟨by decide, rfl⟩
    · rw [if_neg y0]
      by_cases p0 : p < 0
      · rw [if_pos p0, if_neg (fun z => z.2.2.1 p0)]
        exact Or.inr ⟨by decide, rfl⟩
      · rw [if_neg p0]
        by_cases q0 : q < 0
        · rw [if_pos q0, if_neg (fun z => z.2.2.2.1 q0)]
          exact Or.inr ⟨by decide, rfl⟩
        · rw [if_neg q0]
          by_cases n0 : 0 ≤ n
          · rw [if_pos n0, if_pos (show trP x ∧ trP y ∧ ¬ p < 0 ∧ ¬ q < 0 ∧ 0 ≤ n from ⟨⟨fun z => x0 (Or.inl z), fun z => x0 (Or.inr z)⟩, ⟨fun z => y0 (Or.inl z), fun z => y0 (Or.inr z)⟩, p0, q0, n0⟩)]
            obtain ⟨t, ht, rfl⟩ := arg_in (n := 4) (fun z => x0 (Or.inl z)) (fun z => x0 (Or.inr z)) (by decide)
            obtain ⟨u, hu, rfl⟩ := arg_in (n := 4) (fun z => y0 (Or.inl z)) (fun z => y0 (Or.inr z)) (by decide)
            rw [nI_clamp (show t < 2 ^ 31 by omega), nI_clamp (show u < 2 ^ 31 by omega)]
            obtain ⟨A, hA, eA, rA⟩ := RST_TR h t ht
            obtain ⟨B, hB, eB, rB⟩ := RST_TR h u hu
            rcases rA with ⟨a1, a2⟩ | ⟨a1, a2, a3, a4⟩
            · rw [if_pos a1, if_pos (Or.inl a2)]
              exact Or.inr ⟨by decide, rfl⟩
            · rw [if_neg (show ¬ m.1 5 t 1 = 0 by rw [a1]; decide)]
              have nA : ¬ m.1 57 0 t = -1 := by rw [a2]; exact nI_n1 (by omega)
              rcases rB with ⟨b1, b2⟩ | ⟨b1, b2, b3, b4⟩
              · rw [if_pos b1, if_pos (Or.inr b2)]
                exact Or.inr ⟨by decide, rfl⟩
              · have nB : ¬ m.1 57 0 u = -1 := by rw [b2]; exact nI_n1 (by omega)
                rw [if_neg (show ¬ m.1 5 u 1 = 0 by rw [b1]; decide), if_neg (fun z => z.elim nA nB), a3, b3]
                by_cases s0 : m.1 5 t 2 = m.1 5 u 2
                · rw [if_pos s0, if_pos s0, a2, b2, eA, eB]
                  have key := po_if (A := A) (B := B) hA hB p0 q0 n0
                  have e0 : (0 : Int32).toInt = 0 := by decide
                  by_cases c : nI A - p < n ∨ nI B - q < n
                  · rw [if_pos c]
                    refine Or.inr ⟨by decide, ?_⟩
                    by_cases c1 : nI A < n
                    · rw [if_pos c1]
                    · rw [if_neg c1]
                      by_cases c2 : nI A - n < p
                      · rw [if_pos c2]
                      · rw [if_neg c2]
                        by_cases c3 : nI B < n
                        · rw [if_pos c3]
                        · rw [if_neg c3, if_neg (fun z => (key.mp c).elim c1 (fun w => w.elim c2 (fun w => w.elim c3 (fun w => w z))))]
                  · have k' := fun z => c (key.mpr z)
                    rw [if_neg c, if_neg (fun z => k' (Or.inl z)), if_neg (fun z => k' (Or.inr (Or.inl z))), if_neg (fun z => k' (Or.inr (Or.inr (Or.inl z)))), if_pos (Decidable.byContradiction (fun z => k' (Or.inr (Or.inr (Or.inr z)))))]
                    refine Or.inl ⟨rfl, rfl, ?_⟩
                    have c1 : ¬ nI A - p < n := fun z => c (Or.inl z)
                    have c2 : ¬ nI B - q < n := fun z => c (Or.inr z)
                    have n0' : ¬ n < 0 := Int32.not_lt.mpr n0
                    rw [Int32.lt_iff_toInt_lt, sb_T hA p0] at c1
                    rw [Int32.lt_iff_toInt_lt, sb_T hB q0] at c2
                    have hp1 : ¬ p.toInt < 0 := fun z => p0 (Int32.lt_iff_toInt_lt.mpr (by rw [e0]; exact z))
                    have hq1 : ¬ q.toInt < 0 := fun z => q0 (Int32.lt_iff_toInt_lt.mpr (by rw [e0]; exact z))
                    have hn1 : ¬ n.toInt < 0 := fun z => n0' (Int32.lt_iff_toInt_lt.mpr (by rw [e0]; exact z))
                    obtain ⟨p', hp', rfl⟩ := nI_ofl (n := 60) p0 (by omega) (by decide)
                    obtain ⟨q', hq', rfl⟩ := nI_ofl (n := 60) q0 (by omega) (by decide)
                    obtain ⟨n', hn', rfl⟩ := nI_ofl (n := 60) n0' (by omega) (by decide)
                    rw [nI_tI (by omega), nI_tI (by omega)] at c1 c2
                    exact ⟨t, u, A, B, p', q', n', ht, hu, rfl, rfl, hA, hB, eA, eB, rfl, rfl, rfl, by omega, by omega, a4, b4⟩
                · rw [if_neg s0, if_neg s0]
                  exact Or.inr ⟨by decide, rfl⟩
          · rw [if_neg n0, if_neg (fun z => n0 z.2.2.2.2)]
            exact Or.inr ⟨by decide, rfl⟩
theorem poF_c {m M : MM} (hM : MCo m M) (x p y q n : Int32) : poF M x p y q n = poF m x p y q n := by
  unfold poF
  rw [hM.1 57 0 (by omega), hM.1 56 0 (by omega)]
theorem OK_pour {m : MM} (h : RST m) (x p y q n : Int32) : OKo m (cl_pour m x p y q n) (fun m1 => Fn_X12_pour m1 [vR 12 0, vI x, vI p, vI y, vI q, vI n]) := by
  have hf : ∀ M, MCo m M → Fn_X12_pour M [vR 12 0, vI x, vI p, vI y, vI q, vI n] = (some (vI (bI (poF m x p y q n = 0))), stM (mite (poF m x p y q n = 0) (poM M x p y q n) M) (poF m x p y q n)) := fun M hM => by
    show (some (vI (bI (poF M x p y q n = 0))), stM (mite (poF M x p y q n = 0) (poM M x p y q n) M) (poF M x p y q n)) = _
    rw [poF_c hM]
  rcases PF_ok h x p y q n with ⟨e1, e2, t, u, A, B, p', q', n', ht, hu, rfl, rfl, hA, hB, eA, eB, rfl, rfl, rfl, h1, h2, a4, b4⟩ | ⟨e1, e2⟩
  · rw [e2]
    unfold cpoM
    rw [nI_clamp (by omega), nI_clamp (by omega), nI_clamp (by omega), nI_clamp (by omega), nI_clamp (by omega)]
    obtain ⟨f, ef⟩ : ∃ f, f = va_cpy (m.2.1 28 t) (m.2.1 28 u) p' q' n' := ⟨_, rfl⟩
    rw [← ef]
    have hM : MCo m (stC (mRowL m 28 u f) 0) := MC_L
    refine ⟨hM, ?_, ?_⟩
    · show _ = (Fn_X12_pour (stC (mRowL m 28 u f) 0) _).1
      rw [hf _ hM]
      show (some (vI 1) : Option MV) = some (vI (bI (poF m (nI t) (nI p') (nI u) (nI q') (nI n') = 0)))
      rw [bI_t e1]
    · show INV (Fn_X12_pour (stC (mRowL m 28 u f) 0) _).2
      rw [hf _ hM]
      show INV (stM (mite (poF m (nI t) (nI p') (nI u) (nI q') (nI n') = 0) (poM (stC (mRowL m 28 u f) 0) (nI t) (nI p') (nI u) (nI q') (nI n')) (stC (mRowL m 28 u f) 0)) (poF m (nI t) (nI p') (nI u) (nI q') (nI n')))
      rw [mite_t e1, e1]
      unfold poM
      rw [nI_clamp (by omega), nI_clamp (by omega), nI_clamp (by omega), nI_clamp (by omega), nI_clamp (by omega)]
      have e58 : (stC (mRowL m 28 u f) 0).2.1 58 0 = m.2.1 58 0 := hM.2 58 0 (by omega)
      rw [e58]
      refine ⟨RST_row1 h hu hB eB (fun i hi => ?_) (fun i j hi hn hj => ?_), st_e (C := m) (x := 0) ?_⟩
      · rw [po_end _ (by omega) (by omega), ef]
        unfold va_cpy
        by_cases c : q' ≤ i ∧ i < q' + n'
        · rw [if_pos c, if_pos (by omega), show 60 * u + i - (60 * u + q') = i - q' by omega, Nat.add_assoc]
          exact a4 _ (by omega)
        · rw [if_neg c, if_neg (by omega)]
          exact b4 i hi
      · rw [po_end _ (by omega) (by omega)]
        exact if_neg (by omega)
      · show upd (m.1 11 0) 15 0 15 = 0
        exact upd_eq
  · rw [e2]
    refine OK_dn h (fun X => ?_)
    show Fn_X12_pour (stC m X) [vR 12 0, vI x, vI p, vI y, vI q, vI n] = _
    rw [hf _ MC_C, mite_f e1, show bI (poF m x p y q n = 0) = 0 from bI_0.mpr e1]
/-! keeping -/
theorem cu_k {z : Int32} {v : Int32} (h : v = -1 ∨ ∃ k, k < 4 ∧ v = nI k) : cuL z v.toInt64 = v.toInt64 := by
  have key : v.toInt64.toInt32.toInt8.toInt32.toInt64 = v.toInt64 ∧ v.toInt64.toInt32.toInt16.toInt32.toInt64 = v.toInt64 ∧ v.toInt64.toInt32.toInt64 = v.toInt64 := by
    rcases h with rfl | ⟨k, hk, rfl⟩
    · decide
    · have : k = 0 ∨ k = 1 ∨ k = 2 ∨ k = 3 := by omega
      rcases this with rfl | rfl | rfl | rfl <;> decide
  unfold cuL
  split
  · exact key.1
  · split
    · exact key.2.1
    · split
      · exact key.2.2
      · rfl
theorem kp_ok {K : Nat → Int32} {nm t : Nat} {C : MM} : ∀ k s c f, (∀ i, i < s + k → (C.1 15 0 i = -1 ∨ ∃ k, k < 4 ∧ C.1 15 0 i = nI k) ∧ (kpP K nm (nI i) ↔ ¬ C.1 15 0 i = -1)) → c = ctF K nm s → ∃ f', (kpL t k s c (mRowL C 28 t f)).2 = mRowL C 28 t f' ∧ (∀ j, f' j = if s ≤ j ∧ j < s + k then (C.1 15 0 j).toInt64 else f j) ∧ (kpL t k s c (mRowL C 28 t f)).1 = ctF K nm (s + k)
  | 0, s, c, f, _, hc => ⟨f, rfl, fun j => (if_neg (by omega)).symm, hc⟩
  | k + 1, s, c, f, h, hc => by
    obtain ⟨h1, h2⟩ := h s (by omega)
    rw [kpL]
    have e15 : (mRowL C 28 t f).1 15 0 s = C.1 15 0 s := rfl
    have ep : ptC (mRowL C 28 t f) t s (C.1 15 0 s).toInt64 = mRowL C 28 t (vp_updL f s (C.1 15 0 s).toInt64) := by
      unfold ptC
      rw [mRowL_row, cu_k h1, mRowL2]
    rw [e15, ep]
    have ec : c + (if 0 ≤ C.1 15 0 s then 1 else 0) = ctF K nm (s + 1) := by
      rw [ctF, hc]
      congr 1
      refine ite_iff (Iff.trans ?_ h2.symm) _ _
      rcases h1 with z | ⟨k, hk, z⟩
      · rw [z]; decide
      · rw [z]
        exact ⟨fun _ => nI_n1 (by omega), fun _ => Int32.not_lt.mp (n_m1 (by omega))⟩
    obtain ⟨f', g1, g2, g3⟩ := kp_ok (K := K) (nm := nm) k (s + 1) _ (vp_updL f s (C.1 15 0 s).toInt64) (fun i hi => h i (by omega)) ec
    refine ⟨f', g1, fun j => ?_, by rw [g3]; congr 1; omega⟩
    rw [g2]
    show (if s + 1 ≤ j ∧ j < s + 1 + k then _ else if j = s then _ else f j) = _
    by_cases c1 : j = s
    · subst c1
      rw [if_neg (by omega), if_pos rfl, if_pos (by omega)]
    · rw [if_neg c1]
      exact ite_iff (by omega) _ _
theorem kp_at (o : Nat → Int64) (K : Nat → Int32) (nm t : Nat) : ∀ n j, kpR o K nm t n j = if 60 * t ≤ j ∧ j < 60 * t + n then (kfF K nm (nI (j - 60 * t))).toInt64 else o j
  | 0, j => (if_neg (by omega)).symm
  | n + 1, j => by
    rw [kpR]
    show (if j = 60 * t + n then _ else kpR o K nm t n j) = _
    rw [kp_at o K nm t n j]
    by_cases c : j = 60 * t + n
    · rw [if_pos c, if_pos (by omega), show j - 60 * t = n by omega]
    · rw [if_neg c]
      exact ite_iff (by omega) _ _
theorem OK_keep {m : MM} (h : RST m) (x : Int32) : OKo m (cl_keep m x) (fun m1 => Fn_X12_keep m1 [vR 12 0, vI x]) := by
  obtain ⟨ns, nm, nt, hG, c13, c14, c15, a0, a1, a2, b1, b2, b3⟩ := NOW h
  have hv := VG_VAL hG
  unfold cl_keep
  by_cases x0 : x < 0 ∨ 4 ≤ x
  · have r : cl_rs m x = 1 := if_pos x0
    rw [r, if_neg (by decide)]
    exact OK_0 h (fun X => if_neg (fun z => x0.elim z.1 z.2))
  · obtain ⟨t, ht, rfl⟩ := arg_in (n := 4) (fun z => x0 (Or.inl z)) (fun z => x0 (Or.inr z)) (by decide)
    have et : (nI t).toNatClampNeg = t := nI_clamp (by omega)
    have er : cl_rs m (nI t) = if m.1 5 t 1 = 0 then 2 else if m.1 6 (m.2.2 0) 13 ≤ m.1 5 t 3 then 0 else 3 := by
      unfold cl_rs
      rw [et]
      exact if_neg x0
    have hf : ∀ M, MCo m M → Fn_X12_keep M [vR 12 0, vI (nI t)] = if m.1 57 0 t = -1 then rfM M 2 else if m.1 57 0 t < m.1 54 0 0 then rfM M 3 else keR M t := fun M hM => by
      show (if ¬ nI t < 0 ∧ ¬ 4 ≤ nI t then (if M.1 57 0 (nI t).toNatClampNeg = -1 then rfM M 2 else if M.1 57 0 (nI t).toNatClampNeg < M.1 54 0 0 then rfM M 3 else keR M (nI t).toNatClampNeg) else rfM M 1) = _
      rw [if_pos ⟨fun z => x0 (Or.inl z), fun z => x0 (Or.inr z)⟩, et, hM.1 57 0 (by omega), hM.1 54 0 (by omega)]
    obtain ⟨q, hq, e3, r⟩ := RST_TR h t ht
    rcases r with ⟨r1, r2⟩ | ⟨r1, r2, -, r4⟩
    · rw [er, if_pos r1, if_neg (by decide)]
      exact OK_0 h (fun X => (hf _ MC_C).trans (if_pos r2))
    · rw [if_neg (show ¬ m.1 5 t 1 = 0 by rw [r1]; decide), e3, c13] at er
      have n1 : ¬ m.1 57 0 t = -1 := by rw [r2]; exact nI_n1 (by omega)
      by_cases c : nI ns ≤ nI q
      · have c' := (nI_leI (by omega) (by omega)).mp c
        rw [er, if_pos c, if_pos rfl, c13, nI_clamp (by omega)]
        have n2 : ¬ m.1 57 0 t < m.1 54 0 0 := by rw [r2, a0]; exact Int32.not_lt.mpr c
        obtain ⟨k1, k2⟩ := KP_2 (SM2_akM m (m.2.2 0)) (akM_2 m (m.2.2 0))
        have hk : ∀ M : MM, M.1 54 0 = m.1 54 0 → ∀ s, s < ns → (akM m (m.2.2 0)).1 15 0 s = kfF (asF M).1 nm (nI s) ∧ (kpP (asF M).1 nm (nI s) ↔ ¬ (akM m (m.2.2 0)).1 15 0 s = -1) ∧ ((akM m (m.2.2 0)).1 15 0 s = -1 ∨ ∃ k, k < nm ∧ (akM m (m.2.2 0)).1 15 0 s = nI k) := fun M e => (ak_ok (M := M) hv.1 hv.2.1 hv.2.2.2.2.2 (by rw [e]; exact hG.2.1)).2
        unfold cl_kp2 cl_kp1
        rw [et]
        revert k1 k2 hk
        generalize akM m (m.2.2 0) = C
        intro k1 k2 hk
        have hs : mRowL C 28 t (C.2.1 28 t) = C := mRowL_self _ _ _
        have base : ∀ M : MM, M.1 54 0 = m.1 54 0 → ∃ f', (kpL t ns 0 0 C).2 = mRowL C 28 t f' ∧ (∀ j, f' j = if 0 ≤ j ∧ j < 0 + ns then (C.1 15 0 j).toInt64 else C.2.1 28 t j) ∧ (kpL t ns 0 0 C).1 = ctF (asF M).1 nm (0 + ns) := fun M e => by
          have z := kp_ok (K := (asF M).1) (nm := nm) (t := t) (C := C) ns 0 0 (C.2.1 28 t) (fun i hi => ⟨(hk M e i (by omega)).2.2.imp id (fun ⟨k, hk, e⟩ => ⟨k, by omega, e⟩), (hk M e i (by omega)).2.1⟩) rfl
          rw [hs] at z
          exact z
        obtain ⟨f, g1, g2, -⟩ := base m rfl
        have hM : MCo m (stC (mRowL C 28 t f) 0) := MC_t k2 MC_L
        obtain ⟨X, eX⟩ : ∃ X, X = stC (mRowL C 28 t f) 0 := ⟨_, rfl⟩
        rw [← eX] at hM
        obtain ⟨-, -, -, g3⟩ := base X (hM.1 54 0 (by omega))
        rw [Nat.zero_add] at g3
        have go := (hf X hM).trans ((if_neg n1).trans (if_neg n2))
        unfold keR at go
        rw [hM.1 54 0 (by omega), hM.2 58 0 (by omega), a0, a1, nI_clamp (by omega), nI_clamp (by omega)] at go
        have eC : gvC (kpL t ns 0 0 C).2 (kpL t ns 0 0 C).1 = (some (vI (ctF (asF X).1 nm ns)), X) := by
          rw [g1, g3, eX]; rfl
        rw [eC]
        refine ⟨hM, ?_, ?_⟩
        · show _ = (Fn_X12_keep X [vR 12 0, vI (nI t)]).1
          rw [go]; rfl
        · show INV (Fn_X12_keep X [vR 12 0, vI (nI t)]).2
          rw [go]
          have h' := RST_k h k1
          obtain ⟨Q, eQ⟩ : ∃ Q, Q = asF X := ⟨_, rfl⟩
          have kk : ∀ s, s < ns → C.1 15 0 s = kfF Q.1 nm (nI s) := fun s hs => by rw [eQ]; exact (hk X (hM.1 54 0 (by omega)) s hs).1
          rw [← eQ]
          show INV (stM (mRowL (asM X Q) 58 0 (kpR (m.2.1 58 0) Q.1 nm t ns)) 0)
          have e3' : C.1 5 t 3 = nI q := by rw [k1.1 5 t (by unfold kC; omega)]; exact e3
          obtain ⟨Y, eY⟩ : ∃ Y, Y = stM (mRowL (asM X Q) 58 0 (kpR (m.2.1 58 0) Q.1 nm t ns)) 0 := ⟨_, rfl⟩
          have y1 : ∀ k j, k ≠ 12 → k ≠ 66 → k ≠ 67 → k ≠ 11 → Y.1 k j = C.1 k j := fun k j z1 z2 z3 z4 => by
            rw [eY, eX]
            exact (if_neg (fun z => by omega)).trans ((if_neg (fun z => by omega)).trans ((if_neg (fun z => by omega)).trans ((if_neg (fun z => by omega)).trans (if_neg (fun z => by omega)))))
          have y11 : ∀ j, j ≠ 15 → Y.1 11 0 j = C.1 11 0 j := fun j hj => by rw [eY, eX]; exact upd_ne hj
          have y12 : ∀ j, j ≠ 2 → j ≠ 32 → Y.1 12 0 j = C.1 12 0 j := fun j hj hj2 => by
            rw [eY, eX]
            show upd (upd (C.1 12 0) 32 Q.2.2) 2 0 j = _
            rw [upd_ne hj, upd_ne hj2]
          have yL : ∀ k j, k ≠ 58 → (k ≠ 28 ∨ j ≠ t) → Y.2.1 k j = C.2.1 k j := fun k j z1 z2 => by
            rw [eY, eX]
            exact (if_neg (fun z => by omega)).trans (if_neg (fun z => by omega))
          have y58 : Y.2.1 58 0 = kpR (m.2.1 58 0) Q.1 nm t ns := by rw [eY]; rfl
          have y28 : Y.2.1 28 t = f := by
            rw [eY, eX]
            show (if (28 : Nat) = 58 ∧ t = 0 then kpR (m.2.1 58 0) Q.1 nm t ns else if (28 : Nat) = 28 ∧ t = t then f else C.2.1 28 t) = f
            rw [if_neg (fun z => absurd z.1 (by decide)), if_pos ⟨rfl, rfl⟩]
          have ye : Y.1 11 0 15 = Y.1 12 0 2 := by
            rw [eY, eX]
            show upd (C.1 11 0) 15 0 15 = upd (upd (C.1 12 0) 32 Q.2.2) 2 0 2
            rw [upd_eq, upd_eq]
          have yd : Y.2.2 = C.2.2 := by rw [eY, eX]; rfl
          have c58 : C.2.1 58 0 = m.2.1 58 0 := k2.2 58 0 (by omega)
          have c28 : C.2.1 28 t = m.2.1 28 t := k1.2.2.2.1 28 t (by omega)
          rw [← eY]
          refine ⟨RST_row h' ht hq e3' (fun k j hk => ?_) ⟨y11 11 (by decide), y11 14 (by decide), y11 18 (by decide), y11 19 (by decide), by rw [y1 4 0 (by decide) (by decide) (by decide) (by decide)]⟩ ⟨y12 10 (by decide) (by decide), y12 16 (by decide) (by decide), y12 17 (by decide) (by decide), y12 39 (by decide) (by decide), y12 40 (by decide) (by decide)⟩ (fun k j hk => yL k j (by omega) (by omega)) ⟨by rw [yL 11 0 (by decide) (Or.inl (by decide))], by rw [yL 11 0 (by decide) (Or.inl (by decide))], by rw [yL 12 0 (by decide) (Or.inl (by decide))], by rw [yL 12 0 (by decide) (Or.inl (by decide))]⟩ yd (fun p hp => ?_) (fun i p hi hn hp => ?_), ye⟩
          · unfold kC at hk
            exact y1 k j (by omega) (by omega) (by omega) (by omega)
          · rw [y58, y28, kp_at, g2]
            by_cases c1 : p < ns
            · rw [if_pos (by omega), if_pos (by omega), kk p c1, show 60 * t + p - 60 * t = p by omega]
            · rw [if_neg (by omega), if_neg (by omega), c28]
              exact r4 p hp
          · rw [y58, kp_at, c58]
            exact if_neg (by omega)
      · rw [er, if_neg c, if_neg (by decide)]
        exact OK_0 h (fun X => (hf _ MC_C).trans ((if_neg n1).trans (if_pos (by rw [r2, a0]; exact Int32.not_le.mp c))))

end
