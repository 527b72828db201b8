/-! PART 9P: all ways of wedding a village -/

noncomputable section
def CLo (C L : Nat → Nat → Int32) (ns nm : Nat) : Prop := ∀ s d, s < ns → d < nm → (C s d = -1 ∧ L s d = 1000000) ∨ ∃ v, v ≤ 1188 ∧ C s d = nI v ∧ L s d = nI v
theorem cst_ls {a : Nat → Int32} {ns nm nt : Nat} (hV : VA a ns nm nt) (hB : BO a ns nm nt) (w : Int32) : CLo (cst a w) (lsV a w) ns nm := by
  intro s d hs hd
  unfold cst lsV lyA
  by_cases c1 : a (15 + 4 * s) = -1
  · rw [if_pos c1]
    by_cases c2 : a (31 + 4 * d) = -1
    · rw [if_pos c2, if_neg (fun z : ¬ a (15 + 4 * s) = -1 ∨ ¬ a (31 + 4 * d) = -1 => z.elim (fun y => y c1) (fun y => y c2))]
      by_cases c3 : plA a s d w 0 = -1
      · rw [if_pos c3, if_pos c3]
        exact Or.inl ⟨rfl, rfl⟩
      · rw [if_neg c3, if_neg c3]
        obtain ⟨v, hv, e⟩ := wtA_le hV hB (plA a s d w 0)
        exact Or.inr ⟨v, hv, e, e⟩
    · rw [if_neg c2, if_pos (Or.inr c2)]
      exact Or.inl ⟨rfl, rfl⟩
  · rw [if_neg c1, if_pos (Or.inl c1)]
    exact Or.inl ⟨rfl, rfl⟩
theorem dgt_le (nm c j : Nat) : dgt nm c j ≤ nm := Nat.le_of_lt_succ (Nat.mod_lt (c / (nm + 1) ^ j) (Nat.succ_pos nm))
theorem neg8 : ∀ k : Nat, k ≤ 3 → nI k - 8 < 0 := by decide
theorem neg8s (k : Nat) : nI k - 8 + 1 = nI (k + 1) - 8 := by
  rw [Int32.sub_eq_add_neg, Int32.add_assoc, Int32.add_comm (-8) 1, ← Int32.add_assoc, ← Int32.sub_eq_add_neg, nI_1]
/-- a way, weighed by both -/
theorem wy_vw {C L : Nat → Nat → Int32} {ns nm c : Nat} (hm : nm ≤ 4) (h : CLo C L ns nm) : ∀ j, j ≤ ns → (∃ T S, T < 16 ∧ S ≤ 1188 * j ∧ (T = 0 → S = 0 ∧ ∀ i, i < j → dgt nm c i = nm) ∧ vwy L ns nm c j = (nI T, nI (pcN T), nI S) ∧ wyC C nm ns c 0 0 = wyC C nm (ns - j) (c / (nm + 1) ^ j) T (nI S)) ∨ (∃ k, k + 1 ≤ j ∧ (vwy L ns nm c j).2.1 = nI k - 8 ∧ wyC C nm ns c 0 0 = none)
  | 0, _ => Or.inl ⟨0, 0, by decide, by omega, fun _ => ⟨rfl, fun i hi => absurd hi (by omega)⟩, rfl, by rw [Nat.sub_zero, Nat.pow_zero, Nat.div_one]; rfl⟩
  | j + 1, hj => by
    have ih := wy_vw (c := c) hm h j (by omega)
    obtain ⟨s, es⟩ : ∃ s, ns - j = s + 1 := ⟨ns - j - 1, by omega⟩
    have es2 : ns - (j + 1) = s := by omega
    have es3 : ns - 1 - j = s := by omega
    have hsn : s < ns := by omega
    have hq := dgt_le nm c j
    have ediv : c / (nm + 1) ^ j / (nm + 1) = c / (nm + 1) ^ (j + 1) := by rw [Nat.div_div_eq_div_mul, ← Nat.pow_succ]
    have edg : c / (nm + 1) ^ j % (nm + 1) = dgt nm c j := rfl
    have hv : vwy L ns nm c (j + 1) = if dgt nm c j = nm then vwy L ns nm c j else ((vwy L ns nm c j).1 ||| 1 <<< (nI (dgt nm c j) &&& 31), (if inS (vwy L ns nm c j).1 (nI (dgt nm c j)) ∨ L (ns - 1 - j) (dgt nm c j) = 1000000 then -9 else (vwy L ns nm c j).2.1) + 1, (vwy L ns nm c j).2.2 + L (ns - 1 - j) (dgt nm c j)) := rfl
    rw [es3] at hv
    rw [es2]
    revert hq hv edg
    generalize dgt nm c j = q
    intro hq edg hv
    rcases ih with ⟨T, S, hT, hS, hz, ev, ew⟩ | ⟨k, hk, ek, ew⟩
    · rw [es, wyC, edg, ediv] at ew
      rw [ev] at hv
      by_cases c1 : q = nm
      · rw [if_neg (show ¬ q < nm by omega)] at ew
        rw [if_pos c1] at hv
        refine Or.inl ⟨T, S, hT, by omega, fun z => ⟨(hz z).1, fun i hi => ?_⟩, hv, ew⟩
        by_cases c2 : i = j
        · rw [c2]; exact edg.trans c1
        · exact (hz z).2 i (by omega)
      · rw [if_pos (show q < nm by omega)] at ew
        rw [if_neg c1] at hv
        have hin : inS (nI T) (nI q) ↔ T.testBit q = true := inS_nI (by omega) (by omega)
        rcases h s q hsn (by omega) with ⟨eC, eL⟩ | ⟨v, hvb, eC, eL⟩
        · rw [if_pos (Or.inr (by rw [eC]; decide))] at ew
          refine Or.inr ⟨0, by omega, ?_, ew⟩
          rw [hv]
          show (if inS (nI T) (nI q) ∨ L s q = 1000000 then (-9 : Int32) else nI (pcN T)) + 1 = _
          rw [if_pos (Or.inr eL)]
          decide
        · by_cases c2 : T.testBit q = true
          · rw [if_pos (Or.inl c2)] at ew
            refine Or.inr ⟨0, by omega, ?_, ew⟩
            rw [hv]
            show (if inS (nI T) (nI q) ∨ L s q = 1000000 then (-9 : Int32) else nI (pcN T)) + 1 = _
            rw [if_pos (Or.inl (hin.mpr c2))]
            decide
          · have nC : ¬ (T.testBit q = true ∨ C s q < 0) := fun z => z.elim c2 (by rw [eC]; exact n_m1 (by omega))
            have nL : ¬ (inS (nI T) (nI q) ∨ L s q = 1000000) := fun z => z.elim (fun y => c2 (hin.mp y)) (fun y => by
              rw [eL, show (1000000 : Int32) = nI 1000000 from rfl] at y
              have := nI_inj (by omega) (by decide) y
              omega)
            have hT2 : T.testBit q = false := by
              cases cb : T.testBit q with
              | false => rfl
              | true => exact absurd cb c2
            rw [if_neg nC, eC, nI_add] at ew
            refine Or.inl ⟨T ||| 2 ^ q, S + v, or_lt16 hT (by omega), by omega, fun z => ?_, ?_, ew⟩
            · have := (or_bt T q q).mpr (Or.inr rfl)
              rw [z, Nat.zero_testBit] at this
              exact Bool.noConfusion this
            · rw [hv]
              show (nI T ||| 1 <<< (nI q &&& 31), (if inS (nI T) (nI q) ∨ L s q = 1000000 then (-9 : Int32) else nI (pcN T)) + 1, nI S + L s q) = _
              rw [if_neg nL, eL, nI_add, or_bit (by omega), nI_1, pc_or12 T (by omega) q (by omega) hT2]
    · rw [hv]
      by_cases c1 : q = nm
      · rw [if_pos c1]
        exact Or.inr ⟨k, by omega, ek, ew⟩
      · rw [if_neg c1]
        show _ ∨ ∃ k, k + 1 ≤ j + 1 ∧ (if inS (vwy L ns nm c j).1 (nI q) ∨ L s q = 1000000 then (-9 : Int32) else (vwy L ns nm c j).2.1) + 1 = nI k - 8 ∧ _
        by_cases c2 : inS (vwy L ns nm c j).1 (nI q) ∨ L s q = 1000000
        · rw [if_pos c2]
          exact Or.inr ⟨0, by omega, by decide, ew⟩
        · rw [if_neg c2, ek]
          exact Or.inr ⟨k + 1, by omega, neg8s k, ew⟩
theorem wy_end {C L : Nat → Nat → Int32} {ns nm : Nat} (c : Nat) (hm : nm ≤ 4) (hn : ns ≤ 4) (h : CLo C L ns nm) : (∃ T S, T < 16 ∧ S ≤ 4752 ∧ (T = 0 → S = 0 ∧ ∀ i, i < ns → dgt nm c i = nm) ∧ vwy L ns nm c ns = (nI T, nI (pcN T), nI S) ∧ wyC C nm ns c 0 0 = some (T, nI S)) ∨ ((vwy L ns nm c ns).2.1 < 0 ∧ wyC C nm ns c 0 0 = none) := by
  rcases wy_vw (c := c) hm h ns (Nat.le_refl _) with ⟨T, S, h1, h2, h3, h4, h5⟩ | ⟨k, h1, h2, h3⟩
  · rw [Nat.sub_self] at h5
    exact Or.inl ⟨T, S, h1, by omega, h3, h4, h5⟩
  · exact Or.inr ⟨by rw [h2]; exact neg8 k (by omega), h3⟩
theorem tr_at {t0 : Nat → Int32} {ns nm c : Nat} : ∀ k, k ≤ ns → ∀ s, s < ns → ns - 1 - s < k → trR t0 ns nm c k s = nI (dgt nm c (ns - 1 - s))
  | 0, _, s, _, h => absurd h (by omega)
  | k + 1, hk, s, hs, h => by
    rw [trR]
    by_cases c1 : s = ns - 1 - k
    · rw [c1, upd_eq, show ns - 1 - (ns - 1 - k) = k by omega]
    · rw [upd_ne c1]
      exact tr_at k (by omega) s hs (by omega)
theorem cp_R {e t : Nat → Int32} : ∀ k s, s < k → cpR e t k s = t s
  | 0, s, h => absurd h (by omega)
  | k + 1, s, h => by
    rw [cpR]
    by_cases c1 : s = k
    · rw [c1, upd_eq]
    · rw [upd_ne c1]
      exact cp_R k s (by omega)
/-- the best way so far, kept by both -/
def RVo (nm ns : Nat) (m : MM) (o e : Nat → Int32) : Prop := (o 28 = -1 ∧ m.1 8 0 4 = 0 ∧ m.1 8 0 5 = 0 ∧ ∀ s, s < ns → m.1 42 0 s = -1) ∨ ∃ q S, q ≤ 12 ∧ S < 2 ^ 31 ∧ o 28 = nI q ∧ o 29 = nI S ∧ m.1 8 0 4 = nI q ∧ m.1 8 0 5 = nI S ∧ ∀ s, s < ns → ∃ g, g ≤ nm ∧ e s = nI g ∧ m.1 42 0 s = dgC nm g
theorem rv_one {L : Nat → Nat → Int32} {nm ns c : Nat} {o t e : Nat → Int32} {m : MM} (hm : nm ≤ 4) (hn : ns ≤ 4) (h : CLo (C40 m) L ns nm) (hR : RVo nm ns m (bsV L ns nm o t e c).1 (bsV L ns nm o t e c).2.2) : CLo (C40 (vgW nm ns c 0 0 m)) L ns nm ∧ RVo nm ns (vgW nm ns c 0 0 m) (bsV L ns nm o t e (c + 1)).1 (bsV L ns nm o t e (c + 1)).2.2 ∧ ((∀ i, i < ns → dgt nm c i = nm) → ¬ (bsV L ns nm o t e (c + 1)).1 28 = -1) := by
  have hE := wy_end c hm hn h
  have hW := vgW_ok (nm := nm) ns c 0 0 m
  rw [bsV]
  revert hR
  generalize bsV L ns nm o t e c = p
  intro hR
  rcases hE with ⟨T, S, hT, hS, hz, ev, ew⟩ | ⟨ev, ew⟩
  · rcases hW with ⟨w1, -⟩ | ⟨T', su', f, w1, w2, w3, -⟩
    · rw [w1] at ew; cases ew
    · rw [w1] at ew
      obtain ⟨rfl, rfl⟩ : T' = T ∧ su' = nI S := by
        have := Option.some.inj ew
        exact ⟨congrArg Prod.fst this, congrArg Prod.snd this⟩
      have hpc := pc_le T' (by omega)
      rw [ev, w2]
      have hneg : ¬ nI (pcN T') < 0 := n_m1 (by omega)
      -- the rows of the way
      have htr : ∀ s, s < ns → trR p.2.1 ns nm c ns s = nI (dgt nm c (ns - 1 - s)) := fun s hs => tr_at ns (Nat.le_refl _) s hs (by omega)
      have hf : ∀ s, s < ns → f s = dgC nm (dgt nm c (ns - 1 - s)) := fun s hs => w3 s hs
      obtain ⟨M, eM⟩ : ∃ M, M = mRow m 41 0 f := ⟨_, rfl⟩
      have m4 : M.1 8 0 4 = m.1 8 0 4 := by rw [eM]; rfl
      have m5 : M.1 8 0 5 = m.1 8 0 5 := by rw [eM]; rfl
      have m40 : M.1 40 0 = m.1 40 0 := by rw [eM]; rfl
      have m41 : M.1 41 0 = f := by rw [eM]; rfl
      have m42 : M.1 42 0 = m.1 42 0 := by rw [eM]; rfl
      rw [← eM]
      unfold vgZ
      obtain ⟨N, eN⟩ : ∃ N, N = vgC (mI (mI M 8 0 4 (nI (pcN T'))) 8 0 5 (nI S)) := ⟨_, rfl⟩
      have n4 : N.1 8 0 4 = nI (pcN T') := by rw [eN]; rfl
      have n5 : N.1 8 0 5 = nI S := by rw [eN]; rfl
      have n40 : N.1 40 0 = m.1 40 0 := by rw [eN]; exact m40
      have n42 : ∀ s, s < 4 → N.1 42 0 s = f s := fun s hs => by
        have : N.1 42 0 = va_cpy (M.1 41 0) (M.1 42 0) 0 0 4 := by rw [eN]; rfl
        rw [this, m41]
        exact cp_at hs
      rw [← eN, m4, m5]
      have cM : CLo (C40 M) L ns nm := by
        intro s d hs hd
        have e : C40 M s d = C40 m s d := congrFun m40 _
        rw [e]; exact h s d hs hd
      have cN : CLo (C40 N) L ns nm := by
        intro s d hs hd
        have e : C40 N s d = C40 m s d := congrFun n40 _
        rw [e]; exact h s d hs hd
      -- both take it
      have take : RVo nm ns N (upd (upd p.1 28 (nI (pcN T'))) 29 (nI S)) (cpR p.2.2 (trR p.2.1 ns nm c ns) ns) := by
        refine Or.inr ⟨pcN T', S, hpc, by omega, ?_, upd_eq, n4, n5, fun s hs => ⟨dgt nm c (ns - 1 - s), dgt_le _ _ _, ?_, ?_⟩⟩
        · rw [upd_ne (by decide)]; exact upd_eq
        · rw [cp_R ns s hs, htr s hs]
        · rw [n42 s (by omega), hf s hs]
      have n28 : (upd (upd p.1 28 (nI (pcN T'))) 29 (nI S)) 28 = nI (pcN T') := by rw [upd_ne (by decide)]; exact upd_eq
      have n29 : (upd (upd p.1 28 (nI (pcN T'))) 29 (nI S)) 29 = nI S := upd_eq
      show CLo _ L ns nm ∧ RVo nm ns _ (if nI (pcN T') < 0 ∨ nI (pcN T') < p.1 28 ∨ (nI (pcN T') = p.1 28 ∧ ¬ nI S < p.1 29) then (p.1, trR p.2.1 ns nm c ns, p.2.2) else (upd (upd p.1 28 (nI (pcN T'))) 29 (nI S), trR p.2.1 ns nm c ns, cpR p.2.2 (trR p.2.1 ns nm c ns) ns)).1 (if nI (pcN T') < 0 ∨ nI (pcN T') < p.1 28 ∨ (nI (pcN T') = p.1 28 ∧ ¬ nI S < p.1 29) then (p.1, trR p.2.1 ns nm c ns, p.2.2) else (upd (upd p.1 28 (nI (pcN T'))) 29 (nI S), trR p.2.1 ns nm c ns, cpR p.2.2 (trR p.2.1 ns nm c ns) ns)).2.2 ∧ (_ → ¬ (if nI (pcN T') < 0 ∨ nI (pcN T') < p.1 28 ∨ (nI (pcN T') = p.1 28 ∧ ¬ nI S < p.1 29) then (p.1, trR p.2.1 ns nm c ns, p.2.2) else (upd (upd p.1 28 (nI (pcN T'))) 29 (nI S), trR p.2.1 ns nm c ns, cpR p.2.2 (trR p.2.1 ns nm c ns) ns)).1 28 = -1)
      rcases hR with ⟨r1, r2, r3, r4⟩ | ⟨q, S0, r1, r2, r3, r4, r5, r6, r7⟩
      · -- nothing yet
        have nn : ¬ (nI (pcN T') < 0 ∨ nI (pcN T') < p.1 28 ∨ (nI (pcN T') = p.1 28 ∧ ¬ nI S < p.1 29)) := by
          rw [r1]
          rintro (z | z | z)
          · exact hneg z
          · exact hneg (Int32.lt_trans z (by decide))
          · exact nI_n1 (by omega) z.1
        rw [if_neg nn, r2, r3]
        by_cases c0 : T' = 0
        · obtain ⟨z1, z2⟩ := hz c0
          have e0 : pcN T' = 0 := by rw [c0]; rfl
          have nc : ¬ ((0 : Int32) < nI (pcN T') ∨ (nI (pcN T') = 0 ∧ nI S < 0)) := by
            rw [e0, z1]
            decide
          rw [if_neg nc]
          refine ⟨cM, Or.inr ⟨pcN T', S, hpc, by omega, n28, n29, ?_, ?_, fun s hs => ⟨nm, Nat.le_refl _, ?_, ?_⟩⟩, fun _ z => nI_n1 (by omega) (n28.symm.trans z)⟩
          · rw [m4, r2, e0]; rfl
          · rw [m5, r3, z1]; rfl
          · show cpR p.2.2 (trR p.2.1 ns nm c ns) ns s = nI nm
            rw [cp_R ns s hs, htr s hs, z2 _ (by omega)]
          · rw [m42, r4 s hs]
            unfold dgC
            rw [if_neg (Nat.lt_irrefl _)]
        · have p0 : 0 < pcN T' := by
            refine Nat.pos_of_ne_zero (fun z => c0 (pc_zero (by omega) z))
          have p1 : (0 : Int32) < nI (pcN T') := (nI_ltI (a := 0) (by decide) (by omega)).mpr p0
          rw [if_pos (Or.inl p1)]
          exact ⟨cN, take, fun _ z => nI_n1 (by omega) (n28.symm.trans z)⟩
      · rw [r3, r4, r5, r6]
        by_cases cc : nI q < nI (pcN T') ∨ (nI (pcN T') = nI q ∧ nI S < nI S0)
        · rw [if_pos cc]
          have nn : ¬ (nI (pcN T') < 0 ∨ nI (pcN T') < nI q ∨ (nI (pcN T') = nI q ∧ ¬ nI S < nI S0)) := by
            rintro (z | z | z)
            · exact hneg z
            · rcases cc with y | y
              · exact absurd (Int32.lt_trans y z) (Int32.lt_irrefl)
              · rw [y.1] at z; exact absurd z (Int32.lt_irrefl)
            · rcases cc with y | y
              · rw [z.1] at y; exact absurd y (Int32.lt_irrefl)
              · exact z.2 y.2
          rw [if_neg nn]
          exact ⟨cN, take, fun _ z => nI_n1 (by omega) (n28.symm.trans z)⟩
        · rw [if_neg cc]
          have yy : nI (pcN T') < 0 ∨ nI (pcN T') < nI q ∨ (nI (pcN T') = nI q ∧ ¬ nI S < nI S0) := by
            rw [nI_ltI (by omega) (by omega), nI_eq (by omega) (by omega)] at cc
            rw [nI_ltI (by omega) (by omega), nI_eq (by omega) (by omega)]
            by_cases y : pcN T' < q
            · exact Or.inr (Or.inl y)
            · by_cases y2 : pcN T' = q
              · exact Or.inr (Or.inr ⟨y2, fun z => cc (Or.inr ⟨y2, z⟩)⟩)
              · exact absurd (Or.inl (by omega)) cc
          rw [if_pos yy]
          refine ⟨cM, Or.inr ⟨q, S0, r1, r2, r3, r4, m4.trans r5, m5.trans r6, fun s hs => ?_⟩, fun _ => by rw [show (p.1 28 : Int32) = nI q from r3]; exact nI_n1 (by omega)⟩
          rw [m42]
          exact r7 s hs
  · rcases hW with ⟨w1, f, w2⟩ | ⟨T', su', f, w1, w2, w3, -⟩
    · rw [w2, if_pos (Or.inl ev)]
      refine ⟨h, hR, fun hd => ?_⟩
      exfalso
      have : ∀ j, j ≤ ns → vwy L ns nm c j = (0, 0, 0) := by
        intro j
        induction j with
        | zero => intro _; rfl
        | succ j ih =>
          intro hj
          rw [vwy, if_pos (hd j (by omega))]
          exact ih (by omega)
      rw [this ns (Nat.le_refl _)] at ev
      exact absurd ev (by decide)
    · rw [w1] at ew; cases ew

end
