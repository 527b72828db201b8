/-! PART 9ZS: trays, alike -/

noncomputable section
/-- the trays move -/
theorem RST_t {m Y : MM} (h : RST m) (h1 : ∀ k j, kC k → k ≠ 5 → k ≠ 56 → k ≠ 57 → Y.1 k j = m.1 k j) (hc : Y.1 11 0 11 = m.1 11 0 11 ∧ Y.1 11 0 14 = m.1 11 0 14 ∧ Y.1 11 0 18 = m.1 11 0 18 ∧ Y.1 11 0 19 = m.1 11 0 19 ∧ Y.1 4 0 5 = m.1 4 0 5) (hm : Y.1 12 0 10 = m.1 12 0 10 ∧ Y.1 12 0 16 = m.1 12 0 16 ∧ Y.1 12 0 17 = m.1 12 0 17 ∧ Y.1 12 0 39 = m.1 12 0 39 ∧ Y.1 12 0 40 = m.1 12 0 40) (hL : ∀ k j, k = 27 ∨ k = 29 ∨ k = 55 → Y.2.1 k j = m.2.1 k j) (hq : Y.2.1 11 0 16 = m.2.1 11 0 16 ∧ Y.2.1 11 0 17 = m.2.1 11 0 17 ∧ Y.2.1 12 0 3 = m.2.1 12 0 3 ∧ Y.2.1 12 0 4 = m.2.1 12 0 4) (h2 : Y.2.2 = m.2.2) (ht : TRR Y) : RST Y := by
  obtain ⟨a1, a2, a3, a4, a5⟩ := hc
  obtain ⟨b1, b2, b3, b4, b5⟩ := hm
  obtain ⟨c1, c2, c3, c4⟩ := hq
  obtain ⟨r1, ⟨ns, nm, nt, r2⟩, ⟨k, q1, q2, q3, q4⟩, r4, r5, ⟨F, B, t1, t2, t3, t4, t5⟩, r7, r8, r9, r10, r11, r12, r13⟩ := h
  have k1 : ∀ k j, kC k → (k ≠ 5 ∧ k ≠ 56 ∧ k ≠ 57) → Y.1 k j = m.1 k j := fun k j z w => h1 k j z w.1 w.2.1 w.2.2
  have hG : ∀ g, GGo m g Y g := fun g => by
    have e : ∀ k, kC k → (k ≠ 5 ∧ k ≠ 56 ∧ k ≠ 57) → Y.1 k g = m.1 k g := fun k hk => k1 k g hk
    refine ⟨abV_d (fun k hk => e k (by unfold kC; omega) (by omega)), fun t _ => by rw [e 38 (by unfold kC; omega) (by omega)], fun j _ _ => by rw [e 6 (by unfold kC; omega) (by omega)], fun j _ _ => by rw [e 9 (by unfold kC; omega) (by omega)], fun x x1 x2 k _ => by rw [e x (by unfold kC; omega) (by omega)], fun i _ => by rw [hL 29 g (by omega)]⟩
  have e54 : Y.1 54 0 = m.1 54 0 := k1 54 0 (by unfold kC; omega) (by omega)
  have e55 : Y.2.1 55 0 = m.2.1 55 0 := hL 55 0 (by omega)
  refine ⟨by rw [h2]; exact r1, ⟨ns, nm, nt, by rw [h2, e54, e55]; exact VG_c r2 (hG _) (fun _ _ => rfl) (fun _ _ => rfl)⟩, ⟨k, q1, by rw [a2]; exact q2, by rw [b5]; exact q3, fun i hi => ?_⟩, fun g hg => ?_, ht, ⟨F, B, t1, by rw [a5]; exact t2, by rw [b1]; exact t3, t4, fun j hj => ?_⟩, fun i hi => ?_, by rw [c1, c2, c3, c4]; exact r8, by rw [a3, a4, b2, b3]; exact r9, by rw [a1, b4]; exact r10, fun j hj => ?_, fun o ho => ?_, fun o ho => ?_⟩
  · obtain ⟨n1, n2, n3, z⟩ := q4 i hi
    exact ⟨n1, n2, n3, by rw [e54, e55]; exact VG_c z (hG _) (fun _ _ => rfl) (fun _ _ => rfl)⟩
  · unfold ZZo
    rw [k1 9 g (by unfold kC; omega) (by omega)]
    exact r4 g hg
  · rw [k1 26 0 (by unfold kC; omega) (by omega), k1 59 0 (by unfold kC; omega) (by omega)]
    exact t5 j hj
  · rw [hL 27 0 (by omega)]; exact r7 i hi
  · rw [k1 53 0 (by unfold kC; omega) (by omega), k1 71 0 (by unfold kC; omega) (by omega)]; exact r11 j hj
  · rw [k1 69 0 (by unfold kC; omega) (by omega)]; exact r12 o ho
  · rw [k1 20 0 (by unfold kC; omega) (by omega), k1 69 0 (by unfold kC; omega) (by omega)]; exact r13 o ho
theorem RST_TR {m : MM} (h : RST m) : TRR m := h.2.2.2.2.1
/-- a NUMBER of a tray, asked for -/
theorem TS_ok {m : MM} (h : RST m) (x y : Int32) : wpT m x y = cl_ts m x y ∧ (cl_ts m x y = 0 ∨ (¬ cl_ts m x y = 0 ∧ ¬ cl_ts m x y ≤ 0)) ∧ (cl_ts m x y = 0 → ∃ t q p, t < 4 ∧ x = nI t ∧ q ≤ 60 ∧ p < q ∧ y = nI p ∧ m.1 5 t 3 = nI q ∧ m.1 5 t 1 = 1 ∧ m.1 57 0 t = nI q ∧ m.1 56 0 t = m.1 5 t 2 ∧ ∀ p, p < q → m.2.1 58 0 (60 * t + p) = m.2.1 28 t p) := by
  unfold wpT cl_ts
  by_cases x0 : x < 0 ∨ 4 ≤ x
  · rw [if_pos x0, if_neg (show ¬ trP x from fun z => x0.elim z.1 z.2)]
    exact ⟨rfl, Or.inr (by decide), fun z => absurd z (by decide)⟩
  · rw [if_neg x0, if_pos (show trP x from ⟨fun z => x0 (Or.inl z), fun z => x0 (Or.inr z)⟩)]
    obtain ⟨t, ht, rfl⟩ := arg_in (n := 4) (fun z => x0 (Or.inl z)) (fun z => x0 (Or.inr z)) (by decide)
    rw [nI_clamp (by omega)]
    obtain ⟨q, hq, e3, r⟩ := RST_TR h t ht
    rcases r with ⟨r1, r2⟩ | ⟨r1, r2, r3, r4⟩
    · rw [if_pos r1, if_pos r2]
      exact ⟨rfl, Or.inr (by decide), fun z => absurd z (by decide)⟩
    · rw [if_neg (show ¬ m.1 5 t 1 = 0 by rw [r1]; decide), if_neg (show ¬ m.1 57 0 t = -1 by rw [r2]; exact nI_n1 (by omega)), e3, r2]
      by_cases c : y < 0 ∨ nI q ≤ y
      · rw [if_pos c, if_neg (fun z : ¬ y < 0 ∧ y < nI q => c.elim z.1 (fun w => Int32.not_lt.mpr w z.2))]
        exact ⟨rfl, Or.inr (by decide), fun z => absurd z (by decide)⟩
      · rw [if_neg c, if_pos (show ¬ y < 0 ∧ y < nI q from ⟨fun z => c (Or.inl z), Int32.not_le.mp (fun z => c (Or.inr z))⟩)]
        obtain ⟨p, hp, rfl⟩ := arg_in (n := q) (fun z => c (Or.inl z)) (fun z => c (Or.inr z)) (by omega)
        exact ⟨rfl, Or.inl rfl, fun _ => ⟨t, q, p, ht, rfl, hq, hp, rfl, e3, r1, r2, r3, r4⟩⟩
theorem zf_at (o : Nat → Int64) (t : Nat) : ∀ n j, zfR o t n j = if 60 * t ≤ j ∧ j < 60 * t + n then 0 else o j
  | 0, j => (if_neg (by omega)).symm
  | n + 1, j => by
    rw [zfR]
    show (if j = 60 * t + n then 0 else zfR o t n j) = _
    rw [zf_at o t n j]
    by_cases c : j = 60 * t + n
    · rw [if_pos c, if_pos (by omega)]
    · rw [if_neg c]
      exact ite_iff (by omega) _ _
theorem OK_tray {m : MM} (h : RST m) (x s n : Int32) : OKo m (cl_tray m x s n) (fun m1 => Fn_X12_tray m1 [vR 12 0, vI x, vI s, vI n]) := by
  unfold cl_tray
  by_cases x1 : x < 0 ∨ 4 ≤ x
  · rw [if_pos x1]
    exact OK_dn h (fun _ => if_neg (fun z => x1.elim z.1.1 z.1.2))
  · rw [if_neg x1]
    by_cases x2 : s < 0 ∨ 4 ≤ s
    · rw [if_pos x2]
      refine OK_dn h (fun _ => if_neg (fun z => x2.elim z.2.1 (fun w => ?_)))
      have := Int32.le_iff_toInt_le.mp w
      have := Int32.le_iff_toInt_le.mp z.2.2.1
      have e3 : (3 : Int32).toInt = 3 := by decide
      have e4 : (4 : Int32).toInt = 4 := by decide
      omega
    · rw [if_neg x2]
      by_cases x3 : n < 0
      · rw [if_pos x3]
        exact OK_dn h (fun _ => if_neg (fun z => z.2.2.2.1 x3))
      · rw [if_neg x3]
        by_cases x4 : n ≤ 60
        · rw [if_pos x4]
          obtain ⟨t, ht, rfl⟩ := arg_in (n := 4) (fun z => x1 (Or.inl z)) (fun z => x1 (Or.inr z)) (by decide)
          rcases nI_or (x := n) 60 (by decide) with ⟨q, hq, rfl⟩ | z
          · have et : (nI t).toNatClampNeg = t := nI_clamp (by omega)
            have e3 : s ≤ 3 := by
              have a1 : ¬ 4 ≤ s := fun z => x2 (Or.inr z)
              rw [Int32.le_iff_toInt_le] at a1 ⊢
              have e3 : (3 : Int32).toInt = 3 := by decide
              have e4 : (4 : Int32).toInt = 4 := by decide
              omega
            have hf : ∀ M : MM, Fn_X12_tray M [vR 12 0, vI (nI t), vI s, vI (nI q)] = (some (vI 1), stM (tyM M t s (nI q)) 0) := by
              intro M
              show (if tyP (nI t) s (nI q) then (some (vI 1), stM (tyM M (nI t).toNatClampNeg s (nI q)) 0) else _) = _
              rw [if_pos ⟨⟨fun z => x1 (Or.inl z), fun z => x1 (Or.inr z)⟩, fun z => x2 (Or.inl z), e3, x3, x4⟩, et]
            rw [et]
            refine ⟨⟨fun k j hk => ?_, fun k j hk => if_neg (fun z => by omega)⟩, ?_, ?_⟩
            · exact (if_neg (fun z => by omega)).trans ((if_neg (fun z => by omega)).trans ((if_neg (fun z => by omega)).trans (if_neg (fun z => by omega))))
            · show _ = (Fn_X12_tray (stC (trC m t s (nI q)) 0) [vR 12 0, vI (nI t), vI s, vI (nI q)]).1
              rw [hf]; rfl
            · show INV (Fn_X12_tray (stC (trC m t s (nI q)) 0) [vR 12 0, vI (nI t), vI s, vI (nI q)]).2
              rw [hf]
              obtain ⟨Y, eY⟩ : ∃ Y, Y = stM (tyM (stC (trC m t s (nI q)) 0) t s (nI q)) 0 := ⟨_, rfl⟩
              show INV (stM (tyM (stC (trC m t s (nI q)) 0) t s (nI q)) 0)
              have y1 : ∀ k j, k ≠ 11 → k ≠ 12 → k ≠ 56 → k ≠ 57 → (k ≠ 5 ∨ j ≠ t) → Y.1 k j = m.1 k j := fun k j z1 z2 z3 z4 z5 => by
                rw [eY]
                exact (if_neg (fun z => by omega)).trans ((if_neg (fun z => by omega)).trans ((if_neg (fun z => by omega)).trans ((if_neg (fun z => by omega)).trans ((if_neg (fun z => by omega)).trans ((if_neg (fun z => by omega)).trans (if_neg (fun z => by omega)))))))
              have y56 : Y.1 56 0 = upd (m.1 56 0) t s := by rw [eY]; rfl
              have y57 : Y.1 57 0 = upd (m.1 57 0) t (nI q) := by rw [eY]; rfl
              have y5 : Y.1 5 t = upd (upd (upd (m.1 5 t) 1 1) 2 s) 3 (nI q) := by
                rw [eY]
                show (mI (mI (mI m 5 t 1 1) 5 t 2 s) 5 t 3 (nI q)).1 5 t = _
                unfold mI
                rw [mRow_row, mRow_row, mRow_row]
              have yL : ∀ k j, k ≠ 58 → (k ≠ 28 ∨ j ≠ t) → Y.2.1 k j = m.2.1 k j := fun k j z1 z2 => by
                rw [eY]
                exact (if_neg (fun z => by omega)).trans (if_neg (fun z => by omega))
              have y58 : Y.2.1 58 0 = zfR (m.2.1 58 0) t q := by
                rw [eY]
                show zfR _ t (nI q).toNatClampNeg = _
                rw [nI_clamp (by omega)]; rfl
              have y28 : ∀ p, p < 60 → Y.2.1 28 t p = 0 := fun p hp => by
                rw [eY]
                show (mRowL (mI (mI (mI m 5 t 1 1) 5 t 2 s) 5 t 3 (nI q)) 28 t (flQ (m.2.1 28 t) 0 (alen 28))).2.1 28 t p = 0
                have : (mRowL (mI (mI (mI m 5 t 1 1) 5 t 2 s) 5 t 3 (nI q)) 28 t (flQ (m.2.1 28 t) 0 (alen 28))).2.1 28 t = flQ (m.2.1 28 t) 0 (alen 28) := if_pos ⟨rfl, rfl⟩
                rw [this]
                exact if_pos hp
              have y11 : ∀ j, j ≠ 15 → Y.1 11 0 j = m.1 11 0 j := fun j hj => by rw [eY]; exact upd_ne hj
              have y12 : ∀ j, j ≠ 2 → Y.1 12 0 j = m.1 12 0 j := fun j hj => by rw [eY]; exact upd_ne hj
              have ye : Y.1 11 0 15 = Y.1 12 0 2 := by
                rw [eY]
                show upd (m.1 11 0) 15 0 15 = upd (m.1 12 0) 2 0 2
                rw [upd_eq, upd_eq]
              have yd : Y.2.2 = m.2.2 := by rw [eY]; rfl
              rw [← eY]
              have k4 := y1 4 0 (by decide) (by decide) (by decide) (by decide) (Or.inl (by decide))
              refine ⟨RST_t h (fun k j hk z5 z6 z7 => ?_) ⟨y11 11 (by decide), y11 14 (by decide), y11 18 (by decide), y11 19 (by decide), by rw [k4]⟩ ⟨y12 10 (by decide), y12 16 (by decide), y12 17 (by decide), y12 39 (by decide), y12 40 (by decide)⟩ (fun k j hk => yL k j (by omega) (by omega)) ⟨by rw [yL 11 0 (by decide) (Or.inl (by decide))], by rw [yL 11 0 (by decide) (Or.inl (by decide))], by rw [yL 12 0 (by decide) (Or.inl (by decide))], by rw [yL 12 0 (by decide) (Or.inl (by decide))]⟩ yd (fun i hi => ?_), ye⟩
              · unfold kC at hk
                exact y1 k j (by omega) (by omega) z6 z7 (Or.inl z5)
              · by_cases c : i = t
                · subst c
                  refine ⟨q, hq, by rw [y5, upd_eq], Or.inr ⟨?_, by rw [y57, upd_eq], ?_, fun p hp => ?_⟩⟩
                  · rw [y5, upd_ne (by decide), upd_ne (by decide), upd_eq]
                  · rw [y56, upd_eq, y5, upd_ne (by decide), upd_eq]
                  · rw [y58, zf_at, if_pos (by omega), y28 p (by omega)]
                · have z := RST_TR h i hi
                  rw [y1 5 i (by decide) (by decide) (by decide) (by decide) (Or.inr c), y57, y56, upd_ne c, upd_ne c, y58, yL 28 i (by decide) (Or.inr c)]
                  obtain ⟨r, r1, r2, r3⟩ := z
                  refine ⟨r, r1, r2, r3.imp id (fun w => ⟨w.1, w.2.1, w.2.2.1, fun p hp => ?_⟩)⟩
                  rw [zf_at, if_neg (by omega)]
                  exact w.2.2.2 p hp
          · exact absurd x4 (z.resolve_left x3)
        · rw [if_neg x4]
          exact OK_dn h (fun _ => if_neg (fun z => x4 z.2.2.2.2))

end
