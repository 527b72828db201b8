/-! PART 9ZZC: marks, alike -/

noncomputable section
abbrev vlK (k : Nat) : Prop := k = 1 ∨ k = 6 ∨ k = 9 ∨ (16 ≤ k ∧ k ≤ 19) ∨ (30 ≤ k ∧ k ≤ 39) ∨ (43 ≤ k ∧ k ≤ 48)
theorem vc_k {m : MM} {g h k j : Nat} (hk : ¬ vlK k) : (vcM m g h).1 k j = m.1 k j := by
  have r : ∀ (M : MM) (x : Nat) (f : Nat → Int32), vlK x → (mRow M x g f).1 k j = M.1 k j := fun M x f hx => mRow_kk (fun z => hk (z ▸ hx))
  have e1 : (vcM1 m g h).1 k j = m.1 k j := (r _ 39 _ (by omega)).trans ((r _ 38 _ (by omega)).trans ((r _ 37 _ (by omega)).trans ((r _ 36 _ (by omega)).trans ((r _ 35 _ (by omega)).trans ((r _ 34 _ (by omega)).trans ((r _ 33 _ (by omega)).trans ((r _ 32 _ (by omega)).trans ((r _ 31 _ (by omega)).trans (r _ 30 _ (by omega))))))))))
  have e2 : ∀ M, (dcM M g h).1 k j = M.1 k j := fun M => (r _ 1 _ (by omega)).trans ((r _ 1 _ (by omega)).trans ((r _ 1 _ (by omega)).trans ((r _ 19 _ (by omega)).trans ((r _ 18 _ (by omega)).trans ((r _ 17 _ (by omega)).trans (r _ 16 _ (by omega)))))))
  have e3 : ∀ M, (vcM2 M g h).1 k j = M.1 k j := fun M => (r _ 6 _ (by omega)).trans ((r _ 6 _ (by omega)).trans ((r _ 6 _ (by omega)).trans ((r _ 6 _ (by omega)).trans ((r _ 6 _ (by omega)).trans ((r _ 6 _ (by omega)).trans (r _ 6 _ (by omega)))))))
  exact (e3 _).trans ((yc_o (Or.inl (fun z => hk (by omega)))).trans ((e2 _).trans e1))
theorem vc_j {m : MM} {g h k j : Nat} (hj : ¬ vlK k ∨ j ≠ g) : (vcM m g h).1 k j = m.1 k j := hj.elim vc_k (fun z => vc_o z)
theorem vc_Lo {m : MM} {g h k j : Nat} (hj : ¬ (k = 29 ∧ j = g)) : (vcM m g h).2.1 k j = m.2.1 k j := if_neg hj
/-- a valley copied -/
theorem vc_GG (m : MM) (g h : Nat) : GGo m h (vcM m g h) g := by
  refine ⟨vc_ab m g h, fun t ht => by rw [vc_38, cp_at ht], fun j h1 h2 => vc_6 m g h j ⟨h1, h2⟩, fun j h1 h2 => vc_9 m g h j ⟨h1, h2⟩, fun x h1 h2 k hk => ?_, fun i hi => by rw [vc_29, cp_at hi]⟩
  have : x = 43 ∨ x = 44 ∨ x = 45 ∨ x = 46 ∨ x = 47 ∨ x = 48 := by omega
  rcases this with rfl | rfl | rfl | rfl | rfl | rfl
  · rw [vc_43, cp_at hk]
  · rw [vc_44, cp_at hk]
  · rw [vc_45, cp_at hk]
  · rw [vc_46, cp_at hk]
  · rw [vc_47, cp_at hk]
  · rw [vc_48, cp_at hk]
theorem GG_t {a b c : MM} {g h i : Nat} (h1 : GGo a g b h) (h2 : GGo b h c i) : GGo a g c i := ⟨h2.1.trans h1.1, fun t ht => (h2.2.1 t ht).trans (h1.2.1 t ht), fun j a b => (h2.2.2.1 j a b).trans (h1.2.2.1 j a b), fun j a b => (h2.2.2.2.1 j a b).trans (h1.2.2.2.1 j a b), fun x a b k hk => (h2.2.2.2.2.1 x a b k hk).trans (h1.2.2.2.2.1 x a b k hk), fun i hi => (h2.2.2.2.2.2 i hi).trans (h1.2.2.2.2.2 i hi)⟩
theorem GG_e {m Y : MM} {g : Nat} (h : ∀ k, vlK k → Y.1 k g = m.1 k g) (hL : Y.2.1 29 g = m.2.1 29 g) : GGo m g Y g := ⟨abV_d (fun k hk => h k (by unfold vlK; omega)), fun t _ => by rw [h 38 (by unfold vlK; omega)], fun j _ _ => by rw [h 6 (by unfold vlK; omega)], fun j _ _ => by rw [h 9 (by unfold vlK; omega)], fun x x1 x2 k _ => by rw [h x (by unfold vlK; omega)], fun i _ => by rw [hL]⟩
theorem RST_2 {m Y : MM} {g n : Nat} (h : RST m) (hn : n ≤ 3) (e14 : Y.1 11 0 14 = nI n) (e40 : Y.1 12 0 40 = nI n) (y1 : ∀ k j, kC k → k ≠ 54 → ¬ vlK k ∨ j ≠ g → Y.1 k j = m.1 k j) (hv : ∃ ns nm nt, VGo Y (Y.2.2 0) (Y.1 54 0) (Y.2.1 55 0) ns nm nt) (hk : ∀ i, i < n → ∃ ns nm nt, VGo Y (2 + i) (slA (Y.1 54 0) (i + 1)) (slN (Y.2.1 55 0) (i + 1)) ns nm nt) (hz : ZZo Y g) (h11 : Y.1 11 0 11 = m.1 11 0 11 ∧ Y.1 11 0 18 = m.1 11 0 18 ∧ Y.1 11 0 19 = m.1 11 0 19 ∧ Y.1 4 0 5 = m.1 4 0 5) (h12 : Y.1 12 0 10 = m.1 12 0 10 ∧ Y.1 12 0 16 = m.1 12 0 16 ∧ Y.1 12 0 17 = m.1 12 0 17 ∧ Y.1 12 0 39 = m.1 12 0 39) (fL : ∀ k j, k ≠ 29 → k ≠ 55 → Y.2.1 k j = m.2.1 k j) (h2 : Y.2.2 = m.2.2) : RST Y := by
  obtain ⟨a1, a2, a3, a4⟩ := h11
  obtain ⟨b1, b2, b3, b4⟩ := h12
  obtain ⟨r1, -, -, r4, r5, ⟨F, B, t1, t2, t3, t4, t5⟩, r7, r8, r9, r10, r11, r12, r13⟩ := h
  have k1 : ∀ k j, (kC k ∧ k ≠ 54 ∧ ¬ vlK k) → Y.1 k j = m.1 k j := fun k j z => y1 k j z.1 z.2.1 (Or.inl z.2.2)
  refine ⟨by rw [h2]; exact r1, hv, ⟨n, hn, e14, e40, hk⟩, fun i hi => ?_, fun i hi => ?_, ⟨F, B, t1, by rw [a4]; exact t2, by rw [b1]; exact t3, t4, fun j hj => ?_⟩, fun i hi => ?_, by rw [fL 11 0 (by decide) (by decide), fL 12 0 (by decide) (by decide)]; exact r8, by rw [a2, a3, b2, b3]; exact r9, by rw [a1, b4]; exact r10, fun j hj => ?_, fun o ho => ?_, fun o ho => ?_⟩
  · by_cases c : i = g
    · rw [c]; exact hz
    · unfold ZZo
      rw [y1 9 i (by unfold kC; omega) (by decide) (Or.inr c)]
      exact r4 i hi
  · rw [k1 5 i (by unfold kC; omega), k1 57 0 (by unfold kC; omega), k1 56 0 (by unfold kC; omega), fL 58 0 (by decide) (by decide), fL 28 i (by decide) (by decide)]
    exact r5 i hi
  · rw [k1 26 0 (by unfold kC; omega), k1 59 0 (by unfold kC; omega)]
    exact t5 j hj
  · rw [fL 27 0 (by decide) (by decide)]; exact r7 i hi
  · rw [k1 53 0 (by unfold kC; omega), k1 71 0 (by unfold kC; omega)]; exact r11 j hj
  · rw [k1 69 0 (by unfold kC; omega)]; exact r12 o ho
  · rw [k1 20 0 (by unfold kC; omega), k1 69 0 (by unfold kC; omega)]; exact r13 o ho
theorem cpS_k {m : MM} {f t : Nat} : (∀ k j, k ≠ 54 → (cpS m f t).1 k j = m.1 k j) ∧ (∀ j, (cpS m f t).1 54 0 j = if 510 * t ≤ j ∧ j < 510 * t + 510 then m.1 54 0 (510 * f + (j - 510 * t)) else m.1 54 0 j) ∧ (∀ k j, k ≠ 55 → (cpS m f t).2.1 k j = m.2.1 k j) ∧ (∀ j, (cpS m f t).2.1 55 0 j = if 20 * t ≤ j ∧ j < 20 * t + 20 then m.2.1 55 0 (20 * f + (j - 20 * t)) else m.2.1 55 0 j) ∧ (cpS m f t).2.2 = m.2.2 := by
  refine ⟨fun k j a => mRow_kk a, fun j => ?_, fun k j a => if_neg (fun z => a z.1), fun j => ?_, rfl⟩
  · have e : (cpS m f t).1 54 0 = (fun j => if 510 * t ≤ j ∧ j < 510 * t + 510 then m.1 54 0 (510 * f + (j - 510 * t)) else m.1 54 0 j) := mRow_row m 54 0 _
    rw [e]
  · have e : (cpS m f t).2.1 55 0 = (fun j => if 20 * t ≤ j ∧ j < 20 * t + 20 then m.2.1 55 0 (20 * f + (j - 20 * t)) else m.2.1 55 0 j) := mRowL_row (mRow m 54 0 _) 55 0 _
    rw [e]
theorem OK_mark {m : MM} (h : RST m) : OKo m (cl_mark m) (fun m1 => Fn_X12_mark m1 [vR 12 0]) := by
  obtain ⟨ns, nm, nt, hG, -⟩ := NOW h
  obtain ⟨q, q1, q2, q3, q4⟩ := h.2.2.1
  have hd := h.1
  have hnow : m.2.2 0 < 2 := by omega
  have hf : ∀ M : MM, Fn_X12_mark M [vR 12 0] = if M.1 12 0 40 = 3 then rfM M 4 else mkR M := fun M => rfl
  unfold cl_mark
  rw [q2]
  by_cases c : q < 3
  · rw [if_pos (show nI q < 3 from (nI_ltI (b := 3) (by omega) (by decide)).mpr c), nI_clamp (by omega)]
    obtain ⟨C0, eC0⟩ : ∃ C0, C0 = vcM m (2 + q) (m.2.2 0) := ⟨_, rfl⟩
    rw [← eC0]
    have ck : ∀ k j, ¬ vlK k ∨ j ≠ 2 + q → C0.1 k j = m.1 k j := fun k j z => by rw [eC0]; exact vc_j z
    have cL : ∀ k j, ¬ (k = 29 ∧ j = 2 + q) → C0.2.1 k j = m.2.1 k j := fun k j z => by rw [eC0]; exact vc_Lo z
    have cG : GGo m (m.2.2 0) C0 (2 + q) := by rw [eC0]; exact vc_GG _ _ _
    have c2 : C0.2.2 = m.2.2 := by rw [eC0]; rfl
    have c14 : C0.1 11 0 14 + 1 = nI (q + 1) := by rw [ck 11 0 (Or.inl (by decide)), q2]; exact nI_add q 1
    unfold cl_mk1
    rw [c14]
    obtain ⟨X, eX⟩ : ∃ X, X = stC (mI C0 11 0 14 (nI (q + 1))) 0 := ⟨_, rfl⟩
    have xk : ∀ k j, k ≠ 11 → X.1 k j = C0.1 k j := fun k j a => by rw [eX]; exact (mRow_kk a).trans (mRow_kk a)
    have xL : X.2 = C0.2 := by rw [eX]; rfl
    have hX : MCo m X := ⟨fun k j hk => (xk k j (by omega)).trans (ck k j (Or.inl (by unfold vlK; omega))), fun k j hk => by rw [xL]; exact cL k j (by omega)⟩
    have x40 : X.1 12 0 40 = nI q := by rw [hX.1 12 0 (by omega)]; exact q3
    have eR : Fn_X12_mark X [vR 12 0] = gvM (cpS (mI X 12 0 40 (nI (q + 1))) 0 (q + 1)) (nI (q + 1)) := by
      rw [hf, x40, if_neg (fun z => by have := nI_inj (q := 3) (by omega) (by decide) z; omega)]
      unfold mkR
      rw [x40, show nI q + 1 = nI (q + 1) from nI_add q 1, nI_clamp (by omega)]
    have ec : gvC (mI C0 11 0 14 (nI (q + 1))) (nI (q + 1)) = (some (vI (nI (q + 1))), X) := by rw [eX]; rfl
    rw [ec]
    refine ⟨hX, ?_, ?_⟩
    · show _ = (Fn_X12_mark X [vR 12 0]).1
      rw [eR]; rfl
    · show INV (Fn_X12_mark X [vR 12 0]).2
      rw [eR]
      obtain ⟨s1, s2, s3, s4, s5⟩ := cpS_k (m := mI X 12 0 40 (nI (q + 1))) (f := 0) (t := q + 1)
      show INV (stM (cpS (mI X 12 0 40 (nI (q + 1))) 0 (q + 1)) 0)
      obtain ⟨Y, eY⟩ : ∃ Y, Y = stM (cpS (mI X 12 0 40 (nI (q + 1))) 0 (q + 1)) 0 := ⟨_, rfl⟩
      rw [← eY]
      have yk : ∀ k j, k ≠ 12 → k ≠ 54 → Y.1 k j = X.1 k j := fun k j a b => by rw [eY]; exact (mRow_kk a).trans ((s1 k j b).trans (mRow_kk a))
      have y12 : ∀ j, j ≠ 2 → j ≠ 40 → Y.1 12 0 j = m.1 12 0 j := fun j a b => by
        rw [eY]
        exact (upd_ne a).trans ((congrFun (s1 12 0 (by decide)) j).trans ((mI_ne b).trans (congrFun (hX.1 12 0 (by omega)) j)))
      have y40 : Y.1 12 0 40 = nI (q + 1) := by
        rw [eY]
        show (mI (cpS (mI X 12 0 40 (nI (q + 1))) 0 (q + 1)) 12 0 2 0).1 12 0 40 = _
        rw [mI_ne (by decide), s1 12 0 (by decide), mI_eq2]
      have y54 : ∀ j, Y.1 54 0 j = if 510 * (q + 1) ≤ j ∧ j < 510 * (q + 1) + 510 then m.1 54 0 (j - 510 * (q + 1)) else m.1 54 0 j := fun j => by
        rw [eY]
        refine (congrFun (show (stM (cpS (mI X 12 0 40 (nI (q + 1))) 0 (q + 1)) 0).1 54 0 = (cpS (mI X 12 0 40 (nI (q + 1))) 0 (q + 1)).1 54 0 from mRow_kk (by decide)) j).trans ((s2 j).trans ?_)
        have e : (mI X 12 0 40 (nI (q + 1))).1 54 0 = m.1 54 0 := (mRow_kk (by decide)).trans (hX.1 54 0 (by omega))
        rw [e, Nat.mul_zero, Nat.zero_add]
      have y55 : ∀ j, Y.2.1 55 0 j = if 20 * (q + 1) ≤ j ∧ j < 20 * (q + 1) + 20 then m.2.1 55 0 (j - 20 * (q + 1)) else m.2.1 55 0 j := fun j => by
        rw [eY]
        refine (s4 j).trans ?_
        have e : (mI X 12 0 40 (nI (q + 1))).2.1 55 0 = m.2.1 55 0 := hX.2 55 0 (by omega)
        rw [e, Nat.mul_zero, Nat.zero_add]
      have yL : ∀ k j, k ≠ 55 → Y.2.1 k j = C0.2.1 k j := fun k j a => by
        rw [eY]
        exact (s3 k j a).trans (by rw [← xL]; rfl)
      have y2 : Y.2.2 = m.2.2 := by rw [eY]; exact s5.trans ((congrArg (fun z => z.2) xL).trans c2)
      have yc : ∀ k j, vlK k → Y.1 k j = C0.1 k j := fun k j hk => (yk k j (by unfold vlK at hk; omega) (by unfold vlK at hk; omega)).trans (xk k j (by unfold vlK at hk; omega))
      have x11 : ∀ j, j ≠ 15 → j ≠ 14 → Y.1 11 0 j = m.1 11 0 j := fun j a b => by
        rw [yk 11 0 (by decide) (by decide), eX]
        exact (upd_ne a).trans ((mI_ne b).trans (congrFun (ck 11 0 (Or.inl (by decide))) j))
      have cy : ∀ g, GGo C0 g Y g := fun g => GG_e (fun k hk => yc k g hk) (by rw [yL 29 g (by decide)])
      have cm : ∀ g, g ≠ 2 + q → GGo m g C0 g := fun g hg => GG_e (fun k _ => ck k g (Or.inr hg)) (cL 29 g (fun z => hg z.2))
      have vq : VGo Y (2 + q) (slA (Y.1 54 0) (q + 1)) (slN (Y.2.1 55 0) (q + 1)) ns nm nt := VG_c hG (GG_t cG (cy _)) (fun j hj => by
        show Y.1 54 0 (510 * (q + 1) + j) = _
        rw [y54, if_pos (by omega), show 510 * (q + 1) + j - 510 * (q + 1) = j by omega]) (fun j hj => by
        show Y.2.1 55 0 (20 * (q + 1) + j) = _
        rw [y55, if_pos (by omega), show 20 * (q + 1) + j - 20 * (q + 1) = j by omega])
      refine ⟨RST_2 (g := 2 + q) (n := q + 1) h (by omega) ?_ y40 (fun k j hk h54 hj => ?_) ⟨ns, nm, nt, ?_⟩ (fun i hi => ?_) (ZZ_o vq) ⟨x11 11 (by decide) (by decide), x11 18 (by decide) (by decide), x11 19 (by decide) (by decide), ?_⟩ ⟨y12 10 (by decide) (by decide), y12 16 (by decide) (by decide), y12 17 (by decide) (by decide), y12 39 (by decide) (by decide)⟩ (fun k j a b => (yL k j b).trans (cL k j (fun z => a z.1))) y2, ?_⟩
      · rw [yk 11 0 (by decide) (by decide), eX]
        show (mI (mI C0 11 0 14 (nI (q + 1))) 11 0 15 0).1 11 0 14 = _
        rw [mI_ne (by decide), mI_eq2]
      · have hk11 : k ≠ 11 ∧ k ≠ 12 := by unfold kC at hk; omega
        exact (yk k j hk11.2 h54).trans ((xk k j hk11.1).trans (ck k j hj))
      · rw [y2]
        exact VG_c hG (GG_t (cm _ (by omega)) (cy _)) (fun j hj => by rw [y54, if_neg (by omega)]) (fun j hj => by rw [y55, if_neg (by omega)])
      · by_cases e : i = q
        · subst e; exact ⟨ns, nm, nt, vq⟩
        · obtain ⟨n1, n2, n3, z⟩ := q4 i (by omega)
          refine ⟨n1, n2, n3, VG_c z (GG_t (cm _ (by omega)) (cy _)) (fun j hj => ?_) (fun j hj => ?_)⟩
          · show Y.1 54 0 (510 * (i + 1) + j) = m.1 54 0 (510 * (i + 1) + j)
            rw [y54, if_neg (by omega)]
          · show Y.2.1 55 0 (20 * (i + 1) + j) = m.2.1 55 0 (20 * (i + 1) + j)
            rw [y55, if_neg (by omega)]
      · rw [yk 4 0 (by decide) (by decide), xk 4 0 (by decide), ck 4 0 (Or.inl (by decide))]
      · rw [yk 11 0 (by decide) (by decide), eX, eY]
        show (mI (mI C0 11 0 14 (nI (q + 1))) 11 0 15 0).1 11 0 15 = (mI (cpS (mI X 12 0 40 (nI (q + 1))) 0 (q + 1)) 12 0 2 0).1 12 0 2
        rw [mI_eq2, mI_eq2]
  · have e3 : q = 3 := by omega
    subst e3
    rw [if_neg (by decide)]
    exact OK_0 h (fun X => (hf _).trans (if_pos q3))
theorem OK_undo {m : MM} (h : RST m) : OKo m (cl_undo m) (fun m1 => Fn_X12_undo m1 [vR 12 0]) := by
  obtain ⟨q, q1, q2, q3, q4⟩ := h.2.2.1
  have hd := h.1
  have hnow : m.2.2 0 < 2 := by omega
  have hf : ∀ M : MM, Fn_X12_undo M [vR 12 0] = if M.1 12 0 40 = 0 then rfM M 6 else unR M := fun M => rfl
  unfold cl_undo
  rw [q2]
  cases q with
  | zero =>
    rw [if_neg (by decide)]
    exact OK_0 h (fun X => (hf _).trans (if_pos q3))
  | succ q =>
    rw [if_pos (show (0 : Int32) < nI (q + 1) from (nI_ltI (a := 0) (by decide) (by omega)).mpr (by omega)), show nI (q + 1) - 1 = nI q from by
      rw [show (1 : Int32) = nI 1 from rfl, nI_sb (by omega)]; rfl]
    obtain ⟨ns, nm, nt, hG⟩ := q4 q (by omega)
    unfold cl_un1
    have e14 : (mI m 11 0 14 (nI q)).1 11 0 14 = nI q := mI_eq2
    have e2 : (mI m 11 0 14 (nI q)).2.2 = m.2.2 := rfl
    rw [e14, e2, nI_clamp (by omega)]
    obtain ⟨C0, eC0⟩ : ∃ C0, C0 = vcM (mI m 11 0 14 (nI q)) (m.2.2 0) (2 + q) := ⟨_, rfl⟩
    rw [← eC0]
    have ck : ∀ k j, k ≠ 11 → ¬ vlK k ∨ j ≠ m.2.2 0 → C0.1 k j = m.1 k j := fun k j a z => by rw [eC0]; exact (vc_j z).trans (mRow_kk a)
    have c11 : C0.1 11 0 = (mI m 11 0 14 (nI q)).1 11 0 := by rw [eC0]; exact vc_j (Or.inl (by decide))
    have cL : ∀ k j, ¬ (k = 29 ∧ j = m.2.2 0) → C0.2.1 k j = m.2.1 k j := fun k j z => by rw [eC0]; exact vc_Lo z
    have cG : GGo m (2 + q) C0 (m.2.2 0) := GG_t (GG_e (Y := mI m 11 0 14 (nI q)) (fun k hk => mRow_kk (fun z => by rw [z] at hk; exact absurd hk (by decide))) rfl) (by rw [eC0]; exact vc_GG _ _ _)
    have c2 : C0.2.2 = m.2.2 := by rw [eC0]; rfl
    have c14 : C0.1 11 0 14 = nI q := by rw [c11]; exact mI_eq2
    unfold cl_un2
    rw [c14]
    obtain ⟨X, eX⟩ : ∃ X, X = stC C0 0 := ⟨_, rfl⟩
    have xk : ∀ k j, k ≠ 11 → X.1 k j = C0.1 k j := fun k j a => by rw [eX]; exact mRow_kk a
    have xL : X.2 = C0.2 := by rw [eX]; rfl
    have hX : MCo m X := ⟨fun k j hk => (xk k j (by omega)).trans (ck k j (by omega) (Or.inl (by unfold vlK; omega))), fun k j hk => by rw [xL]; exact cL k j (by omega)⟩
    have x40 : X.1 12 0 40 = nI (q + 1) := by rw [hX.1 12 0 (by omega)]; exact q3
    have eR : Fn_X12_undo X [vR 12 0] = gvM (mI (cpS X (q + 1) 0) 12 0 40 (nI q)) (nI q) := by
      rw [hf, x40, if_neg (fun z => by have := nI_inj (q := 0) (by omega) (by decide) z; omega)]
      unfold unR
      rw [x40, show nI (q + 1) - 1 = nI q from by rw [show (1 : Int32) = nI 1 from rfl, nI_sb (by omega)]; rfl, nI_clamp (by omega)]
    have ec : gvC C0 (nI q) = (some (vI (nI q)), X) := by rw [eX]; rfl
    rw [ec]
    refine ⟨hX, ?_, ?_⟩
    · show _ = (Fn_X12_undo X [vR 12 0]).1
      rw [eR]; rfl
    · show INV (Fn_X12_undo X [vR 12 0]).2
      rw [eR]
      obtain ⟨s1, s2, s3, s4, s5⟩ := cpS_k (m := X) (f := q + 1) (t := 0)
      show INV (stM (mI (cpS X (q + 1) 0) 12 0 40 (nI q)) 0)
      obtain ⟨Y, eY⟩ : ∃ Y, Y = stM (mI (cpS X (q + 1) 0) 12 0 40 (nI q)) 0 := ⟨_, rfl⟩
      rw [← eY]
      have yk : ∀ k j, k ≠ 12 → k ≠ 54 → Y.1 k j = X.1 k j := fun k j a b => by rw [eY]; exact (mRow_kk a).trans ((mRow_kk a).trans (s1 k j b))
      have y12 : ∀ j, j ≠ 2 → j ≠ 40 → Y.1 12 0 j = m.1 12 0 j := fun j a b => by
        rw [eY]
        show (mI (mI (cpS X (q + 1) 0) 12 0 40 (nI q)) 12 0 2 0).1 12 0 j = _
        rw [mI_ne a, mI_ne b, s1 12 0 (by decide), hX.1 12 0 (by omega)]
      have y40 : Y.1 12 0 40 = nI q := by
        rw [eY]
        show (mI (mI (cpS X (q + 1) 0) 12 0 40 (nI q)) 12 0 2 0).1 12 0 40 = _
        rw [mI_ne (by decide), mI_eq2]
      have y54 : ∀ j, Y.1 54 0 j = if j < 510 then m.1 54 0 (510 * (q + 1) + j) else m.1 54 0 j := fun j => by
        rw [eY]
        refine (congrFun (show (stM (mI (cpS X (q + 1) 0) 12 0 40 (nI q)) 0).1 54 0 = (cpS X (q + 1) 0).1 54 0 from (mRow_kk (by decide)).trans (mRow_kk (by decide))) j).trans ((s2 j).trans ?_)
        rw [hX.1 54 0 (by omega), Nat.mul_zero, Nat.zero_add, Nat.sub_zero]
        exact ite_iff (by omega) _ _
      have y55 : ∀ j, Y.2.1 55 0 j = if j < 20 then m.2.1 55 0 (20 * (q + 1) + j) else m.2.1 55 0 j := fun j => by
        rw [eY]
        refine (s4 j).trans ?_
        rw [hX.2 55 0 (by omega), Nat.mul_zero, Nat.zero_add, Nat.sub_zero]
        exact ite_iff (by omega) _ _
      have yL : ∀ k j, k ≠ 55 → Y.2.1 k j = C0.2.1 k j := fun k j a => by
        rw [eY]
        exact (s3 k j a).trans (by rw [xL])
      have y2 : Y.2.2 = m.2.2 := by rw [eY]; exact s5.trans ((congrArg (fun z => z.2) xL).trans c2)
      have yc : ∀ k j, vlK k → Y.1 k j = C0.1 k j := fun k j hk => (yk k j (by unfold vlK at hk; omega) (by unfold vlK at hk; omega)).trans (xk k j (by unfold vlK at hk; omega))
      have x11 : ∀ j, j ≠ 15 → j ≠ 14 → Y.1 11 0 j = m.1 11 0 j := fun j a b => by
        rw [yk 11 0 (by decide) (by decide), eX]
        show (mI C0 11 0 15 0).1 11 0 j = _
        rw [mI_ne a, c11, mI_ne b]
      have cy : ∀ g, GGo C0 g Y g := fun g => GG_e (fun k hk => yc k g hk) (by rw [yL 29 g (by decide)])
      have cm : ∀ g, g ≠ m.2.2 0 → GGo m g C0 g := fun g hg => GG_e (fun k hk => ck k g (fun z => by rw [z] at hk; exact absurd hk (by decide)) (Or.inr hg)) (cL 29 g (fun z => hg z.2))
      have vq : VGo Y (m.2.2 0) (Y.1 54 0) (Y.2.1 55 0) ns nm nt := VG_c hG (GG_t cG (cy _)) (fun j hj => by rw [y54, if_pos hj]; rfl) (fun j hj => by rw [y55, if_pos hj]; rfl)
      refine ⟨RST_2 (g := m.2.2 0) (n := q) h (by omega) ?_ y40 (fun k j hk h54 hj => ?_) ⟨ns, nm, nt, by rw [y2]; exact vq⟩ (fun i hi => ?_) (ZZ_o vq) ⟨x11 11 (by decide) (by decide), x11 18 (by decide) (by decide), x11 19 (by decide) (by decide), ?_⟩ ⟨y12 10 (by decide) (by decide), y12 16 (by decide) (by decide), y12 17 (by decide) (by decide), y12 39 (by decide) (by decide)⟩ (fun k j a b => (yL k j b).trans (cL k j (fun z => a z.1))) y2, ?_⟩
      · rw [yk 11 0 (by decide) (by decide), eX]
        show (mI C0 11 0 15 0).1 11 0 14 = _
        rw [mI_ne (by decide), c14]
      · have hk11 : k ≠ 11 ∧ k ≠ 12 := by unfold kC at hk; omega
        exact (yk k j hk11.2 h54).trans ((xk k j hk11.1).trans (ck k j hk11.1 hj))
      · obtain ⟨n1, n2, n3, z⟩ := q4 i (by omega)
        refine ⟨n1, n2, n3, VG_c z (GG_t (cm _ (by omega)) (cy _)) (fun j hj => ?_) (fun j hj => ?_)⟩
        · show Y.1 54 0 (510 * (i + 1) + j) = m.1 54 0 (510 * (i + 1) + j)
          rw [y54, if_neg (by omega)]
        · show Y.2.1 55 0 (20 * (i + 1) + j) = m.2.1 55 0 (20 * (i + 1) + j)
          rw [y55, if_neg (by omega)]
      · rw [yk 4 0 (by decide) (by decide), xk 4 0 (by decide), ck 4 0 (by decide) (Or.inl (by decide))]
      · rw [yk 11 0 (by decide) (by decide), eX, eY]
        show (mI C0 11 0 15 0).1 11 0 15 = (mI (mI (cpS X (q + 1) 0) 12 0 40 (nI q)) 12 0 2 0).1 12 0 2
        rw [mI_eq2, mI_eq2]

end
