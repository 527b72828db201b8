/-! PART 9ZZD: the mean, alike -/

noncomputable section
/-- the spare valley and the living alone move -/
def MEo (sp : Nat) (m m' : MM) : Prop := (∀ k j, ¬ (vlK k ∧ j = sp) → k ≠ 2 → k ≠ 20 → k ≠ 21 → m'.1 k j = m.1 k j) ∧ (∀ k j, ¬ (k = 29 ∧ j = sp) → m'.2.1 k j = m.2.1 k j) ∧ m'.2.2 = m.2.2
theorem ME_r (sp : Nat) (m : MM) : MEo sp m m := ⟨fun _ _ _ _ _ _ => rfl, fun _ _ _ => rfl, rfl⟩
theorem ME_t {sp : Nat} {a b c : MM} (h : MEo sp a b) (h' : MEo sp b c) : MEo sp a c := ⟨fun k j x y z w => (h'.1 k j x y z w).trans (h.1 k j x y z w), fun k j x => (h'.2.1 k j x).trans (h.2.1 k j x), h'.2.2.trans h.2.2⟩
theorem ME_vc (sp g : Nat) (m : MM) : MEo sp m (vcM m sp g) := ⟨fun k j x _ _ _ => vc_j (by
  by_cases c : j = sp
  · exact Or.inl (fun z => x ⟨z, c⟩)
  · exact Or.inr c), fun k j x => vc_Lo x, rfl⟩
theorem ME_fl {sp : Nat} {m m' : MM} (h : FLo sp m m') : MEo sp m m' := ⟨fun k j x y z w => h.1 k j (fun q => x ⟨by unfold vlK; omega, q.2⟩) y z w, fun k j _ => by rw [h.2], by rw [h.2]⟩
theorem YL_g {m c : MM} {g h ns nm nt L k : Nat} (hG : GGo m g c h) (hk : k < 60) (hY : YLc m g ns nm nt L k) : YLc c h ns nm nt L k := by
  have r := hG.2.2.2.2.1
  unfold YLc at *
  rw [r 43 (by decide) (by decide) k hk, r 44 (by decide) (by decide) k hk, r 45 (by decide) (by decide) k hk, r 48 (by decide) (by decide) k hk]
  exact hY
theorem me_ok {m X : MM} {g sp ns nm nt L q : Nat} (hG : VGo m g (m.1 54 0) (m.2.1 55 0) ns nm nt) (hne : g ≠ sp) (hX : X.1 54 0 = m.1 54 0 ∧ X.1 69 0 = m.1 69 0) (h8 : m.1 9 g 8 = nI L) (hP : YP (m.1 54 0) ns nm nt L) (hC : ∀ k, k < L → YLc m g ns nm nt L k) (hN : ∀ k, k < L → LNo m g (m.1 54 0) k) (hLP : LPo m) (hLL : LLo m m) (s : Int32) : ∀ i, q + i ≤ 10000 → MEo sp m (ceM m sp g q i) ∧ FKo X (mnM X q i) ∧ LLo (ceM m sp g q i) (mnM X q i) ∧ ceS m sp g s q i = mnS X s q i
  | 0, _ => ⟨ME_r sp m, FK_R (by decide), fun o ho => by rw [show (mnM X q 0).1 69 0 = X.1 69 0 from mRow_kk (by decide), hX.2]; exact hLL o ho, rfl⟩
  | i + 1, h => by
    obtain ⟨h1, h2, h3, h4⟩ := me_ok hG hne hX h8 hP hC hN hLP hLL s i (by omega) (q := q)
    obtain ⟨z1, z2, -, -⟩ := mn_ok (m := X) (ns := ns) (nm := nm) (nt := nt) (L := L) (q := q) (by unfold VMx; rw [hX.1]; exact hG.2.2.1.1) (by rw [hX.1]; exact hP) (fun o ho => by rw [hX.2]; exact hLP o ho) i (by omega)
    rw [ceM, mnM, ceS, mnS, ceM, ← h4]
    revert h1 h2 h3 z1 z2
    generalize ceM m sp g q i = M
    generalize mnM X q i = Z
    intro h1 h2 h3 z1 z2
    have gM : GGo m g M g := GG_e (fun k hk => h1.1 k g (fun z => hne z.2) (by unfold vlK at hk; omega) (by unfold vlK at hk; omega) (by unfold vlK at hk; omega)) (h1.2.1 29 g (fun z => hne z.2))
    obtain ⟨c, ec⟩ : ∃ c, c = vcM M sp g := ⟨_, rfl⟩
    have gc : GGo m g c sp := by rw [ec]; exact GG_t gM (vc_GG M sp g)
    have mc : MEo sp m c := by rw [ec]; exact ME_t h1 (ME_vc sp g M)
    have c20 : c.1 20 0 = M.1 20 0 := by rw [ec]; exact vc_k (by decide)
    have zb : ∀ j, j < 2550 → Z.1 54 0 j = m.1 54 0 j := fun j hj => by rw [z1, wkC_lo _ hj, hX.1]
    have b1 := hG.2.2.1.1.1.2
    have b2 := hG.2.2.1.1.2.1.2
    have b3 := hG.2.2.1.1.2.2.1.2
    have hAB : AG (m.1 54 0) (Z.1 54 0) ns nm nt := AG_pt9 (fun j hj => zb j (by omega)) b1 b2 b3
    have life := life_ok (c := c) (M := Z) (g := sp) (d := q + i) (ns := ns) (nm := nm) (nt := nt) (L := L) (by unfold VC2; rw [gc.1]; exact hG.1) (by rw [gc.2.2.2.1 8 (by decide) (by decide)]; exact h8) hP.2.1 (fun k hk => YL_g gc (by have := hP.2.1; omega) (hC k hk)) (by rw [gc.1]; exact AG_tr hG.2.1 hAB) (VS_AG hG.2.2.1 hAB (zb 7 (by omega))) (YP_a hP (zb 10 (by omega)) (fun j _ hj => zb j (by omega))) z2 (fun o ho => by rw [c20]; exact h3 o ho) (fun k hk => LNo_a (hN k hk) (by have := hP.2.1; omega) (fun x x1 x2 => gc.2.2.2.2.1 x x1 x2 k (by have := hP.2.1; omega)) (fun j _ hj => zb j (by omega))) (by omega)
    have fl := FL_M c sp (nI (q + i))
    have fk := FK_li Z (nI (q + i))
    rw [← ec]
    revert life fl fk
    generalize c2M c sp (nI (q + i)) = C
    generalize liM Z (nI (q + i)) = W
    intro life fl fk
    obtain ⟨lvc, lvm, ⟨lA, lS, -, -⟩, -, lL, -⟩ := life
    refine ⟨ME_t mc (ME_fl fl), FK_t (FK_t h2 fk) (FK_R (by decide)), fun o ho => ?_, ?_⟩
    · rw [show (mRow W 54 0 (rsC (W.1 54 0) 146)).1 69 0 = W.1 69 0 from mRow_kk (by decide)]
      exact lL o ho
    · rw [AG_lsA lA lvc.1.1]
theorem RST_me {m Y : MM} {sp : Nat} (h : RST m) (hne : sp ≠ m.2.2 0) (hsp : sp < 2) (y1 : ∀ k j, kC k → k ≠ 54 → k ≠ 69 → k ≠ 20 → ¬ (vlK k ∧ j = sp) → Y.1 k j = m.1 k j) (y54 : ∀ j, j < 2040 → Y.1 54 0 j = m.1 54 0 j) (hz : ZZo Y sp) (hLP : LPo Y) (hLL : LLo Y Y) (hc : Y.1 11 0 11 = m.1 11 0 11 ∧ Y.1 11 0 14 = m.1 11 0 14 ∧ Y.1 11 0 18 = m.1 11 0 18 ∧ Y.1 11 0 19 = m.1 11 0 19 ∧ Y.1 4 0 5 = m.1 4 0 5) (hm : Y.1 12 0 10 = m.1 12 0 10 ∧ Y.1 12 0 16 = m.1 12 0 16 ∧ Y.1 12 0 17 = m.1 12 0 17 ∧ Y.1 12 0 39 = m.1 12 0 39 ∧ Y.1 12 0 40 = m.1 12 0 40) (hL : ∀ k j, k ≠ 11 → k ≠ 12 → ¬ (k = 29 ∧ j = sp) → Y.2.1 k j = m.2.1 k j) (hq : Y.2.1 11 0 16 = Y.2.1 12 0 3 ∧ Y.2.1 11 0 17 = Y.2.1 12 0 4) (h2 : Y.2.2 = m.2.2) : RST Y := by
  obtain ⟨a1, a2, a3, a4, a5⟩ := hc
  obtain ⟨b1, b2, b3, b4, b5⟩ := hm
  obtain ⟨r1, ⟨ns, nm, nt, r2⟩, ⟨k, q1, q2, q3, q4⟩, r4, r5, ⟨F, B, t1, t2, t3, t4, t5⟩, r7, -, r9, r10, r11, -, -⟩ := h
  have hG : ∀ g, g ≠ sp → GGo m g Y g := fun g hg => GG_e (fun k hk => y1 k g (by unfold vlK at hk; unfold kC; omega) (by unfold vlK at hk; omega) (by unfold vlK at hk; omega) (by unfold vlK at hk; omega) (fun z => hg z.2)) (hL 29 g (by decide) (by decide) (fun z => hg z.2))
  have k1 : ∀ k j, (kC k ∧ k ≠ 54 ∧ k ≠ 69 ∧ k ≠ 20 ∧ ¬ vlK k) → Y.1 k j = m.1 k j := fun k j z => y1 k j z.1 z.2.1 z.2.2.1 z.2.2.2.1 (fun w => z.2.2.2.2 w.1)
  have e55 : Y.2.1 55 0 = m.2.1 55 0 := hL 55 0 (by decide) (by decide) (by omega)
  refine ⟨by rw [h2]; exact r1, ⟨ns, nm, nt, by rw [h2, e55]; exact VG_c r2 (hG _ (fun z => hne z.symm)) (fun j hj => y54 j (by omega)) (fun _ _ => rfl)⟩, ⟨k, q1, by rw [a2]; exact q2, by rw [b5]; exact q3, fun i hi => ?_⟩, fun g hg => ?_, fun i hi => ?_, ⟨F, B, t1, by rw [a5]; exact t2, by rw [b1]; exact t3, t4, fun j hj => ?_⟩, fun i hi => ?_, hq, by rw [a3, a4, b2, b3]; exact r9, by rw [a1, b4]; exact r10, fun j hj => ?_, hLP, hLL⟩
  · obtain ⟨n1, n2, n3, z⟩ := q4 i hi
    exact ⟨n1, n2, n3, by rw [e55]; exact VG_c z (hG _ (by omega)) (fun j hj => y54 _ (by omega)) (fun _ _ => rfl)⟩
  · by_cases c : g = sp
    · rw [c]; exact hz
    · unfold ZZo
      rw [y1 9 g (by unfold kC; omega) (by decide) (by decide) (by decide) (fun z => c z.2)]
      exact r4 g hg
  · rw [k1 5 i (by unfold kC vlK; omega), k1 57 0 (by unfold kC vlK; omega), k1 56 0 (by unfold kC vlK; omega), hL 58 0 (by decide) (by decide) (by omega), hL 28 i (by decide) (by decide) (by omega)]
    exact r5 i hi
  · rw [k1 26 0 (by unfold kC vlK; omega), k1 59 0 (by unfold kC vlK; omega)]
    exact t5 j hj
  · rw [hL 27 0 (by decide) (by decide) (by omega)]; exact r7 i hi
  · rw [k1 53 0 (by unfold kC vlK; omega), k1 71 0 (by unfold kC vlK; omega)]; exact r11 j hj

end
