/-! PART 9ZP: what is done, is done alike -/

noncomputable section
theorem nd_t {a b : Nat → Int32} {nt : Nat} (h : ∀ t, t < nt → b (46 + 3 * t) = a (46 + 3 * t)) {t : Nat} (ht : t < nt) : ndA b nt t = ndA a nt t := by
  have ea : ∀ t, t < nt → ahN b t = ahN a t := fun t ht => by unfold ahN; rw [h t ht]
  unfold ndA clo
  rw [ea t ht]
  have e : (fun s => ndS (ahN b) s nt) = (fun s => ndS (ahN a) s nt) := funext fun s => nd_cg s nt ea
  rw [e]
theorem nv_t {a b : Nat → Int32} {nt : Nat} (h : ∀ t, t < nt → b (46 + 3 * t) = a (46 + 3 * t)) {t : Nat} (ht : t < nt) : nvP b nt t ↔ nvP a nt t := by
  rw [nv_iff, nv_iff, nd_t h ht]
  constructor
  · rintro ⟨o, h1, h2, h3⟩
    exact ⟨o, h1, h2, by rw [← nd_t h h1]; exact h3⟩
  · rintro ⟨o, h1, h2, h3⟩
    exact ⟨o, h1, h2, by rw [nd_t h h1]; exact h3⟩
/-- a deed in a valley -/
theorem VG_d {m Y : MM} {g : Nat} {a b : Nat → Int32} {N N' : Nat → Int64} {ns nm nt : Nat} (h : VGo m g a N ns nm nt) (hV : VC2 Y g ns nm nt) (hA : AG (abV Y g) b ns nm nt) (hS : VSo b ns nm nt) (hn : ∀ t, t < nt → b (46 + 3 * t) = a (46 + 3 * t)) (h38 : Y.1 38 g = m.1 38 g) (h6 : Y.1 6 g = m.1 6 g) (h9 : Y.1 9 g = m.1 9 g) (h43 : ∀ x, 43 ≤ x → x ≤ 48 → Y.1 x g = m.1 x g) (h29 : Y.2.1 29 g = m.2.1 29 g) (h10 : b 10 = a 10) (hb : ∀ j, 146 ≤ j → j < 510 → b j = a j) (hN : ∀ i, i < 20 → N' i = N i) : VGo Y g b N' ns nm nt := by
  obtain ⟨h1, h2, h3, ⟨h4, h4'⟩, h5, ⟨n1, n2, n3, n4⟩, ⟨na, m1, m2⟩, h8⟩ := h
  have b1 := h3.1.1.2
  have b2 := h3.1.2.1.2
  have b3 := h3.1.2.2.1.2
  have en : ∀ t, t < nt → ndA (abV Y g) nt t = ndA (abV m g) nt t := fun t ht => by rw [AG_ndA hA ht, AG_ndA h2 ht, nd_t hn ht]
  have ev : ∀ t, t < nt → (nvP (abV m g) nt t ↔ nvP (abV Y g) nt t) := fun t ht => ((AG_nv h2 ht).trans (nv_t hn ht).symm).trans (AG_nv hA ht).symm
  refine ⟨hV, hA, hS, ⟨fun t ht => by rw [h38, en t ht]; exact h4 t ht, ?_⟩, fun t ht => by rw [h38]; exact h5 t ht, ⟨fun i hi => ?_, fun i hi => ?_, fun i hi => ?_, fun i hi z => by rw [h29]; exact n4 i hi z⟩, ⟨na, by rw [h6]; exact m1, m2⟩, ?_⟩
  · rw [h6, h4']
    exact congrArg nI (stN_cg nt ev)
  · rw [h29, hN _ (by omega)]; exact n1 i hi
  · rw [h29, hN _ (by omega)]; exact n2 i hi
  · rw [h29, hN _ (by omega)]; exact n3 i hi
  · unfold YRR
    rw [h9, h10]
    refine h8.imp id (fun ⟨q, L, q1, q2, q3, q4⟩ => ⟨q, L, q1, YP_a q2 h10 hb, fun k hk => ?_, fun k hk => LNo_a (q4 k hk) (by have := q2.2.1; omega) (fun x x1 x2 => by rw [h43 x x1 x2]) hb⟩)
    have z := q3 k hk
    unfold YLc at *
    rw [h43 43 (by decide) (by decide), h43 44 (by decide) (by decide), h43 45 (by decide) (by decide), h43 48 (by decide) (by decide)]
    exact z
/-- the class's deeds in one valley alone -/
def CFo (m C : MM) (g : Nat) : Prop := (∀ k j, ¬ (k = 1 ∨ (16 ≤ k ∧ k ≤ 19) ∨ k = 31 ∨ k = 32) ∨ j ≠ g → C.1 k j = m.1 k j) ∧ C.2 = m.2
theorem CF_r (m : MM) (g : Nat) : CFo m m g := ⟨fun _ _ _ => rfl, rfl⟩
theorem CF_t {a b c : MM} {g : Nat} (h : CFo a b g) (h' : CFo b c g) : CFo a c g := ⟨fun k j z => (h'.1 k j z).trans (h.1 k j z), h'.2.trans h.2⟩
theorem CF_R {m : MM} {k g : Nat} {f : Nat → Int32} (h : k = 1 ∨ (16 ≤ k ∧ k ≤ 19) ∨ k = 31 ∨ k = 32) : CFo m (mRow m k g f) g := ⟨fun k' j z => if_neg (fun w => by obtain ⟨rfl, rfl⟩ := w; exact z.elim (fun q => q h) (fun q => q rfl)), rfl⟩
theorem CF_M {m C : MM} {g : Nat} (h : CFo m C g) : MCo m C := ⟨fun k j z => h.1 k j (Or.inl (by omega)), fun k j _ => by rw [h.2]⟩
theorem ab_o {m C : MM} {g h : Nat} (hC : CFo m C g) (hn : h ≠ g) : abV C h = abV m h := abV_d (fun k _ => hC.1 k h (Or.inr hn))
/-- the valley of now, after a deed on both sides -/
theorem RST_v {m C : MM} {a : Nat → Int32} {ns nm nt : Nat} {b : Nat → Int32} {x y : Int32} (h : RST m) (hG : VGo m (m.2.2 0) (m.1 54 0) (m.2.1 55 0) ns nm nt) (hC : CFo m C (m.2.2 0)) (hV : VC2 C (m.2.2 0) ns nm nt) (hA : AG (abV C (m.2.2 0)) b ns nm nt) (hS : VSo b ns nm nt) (hn : ∀ t, t < nt → b (46 + 3 * t) = m.1 54 0 (46 + 3 * t)) (hb : ∀ j, j = 10 ∨ 146 ≤ j → b j = m.1 54 0 j) : RST (stM (mRow (stC C x) 54 0 b) y) := by
  obtain ⟨hC1, hC2⟩ := hC
  obtain ⟨Y, eY⟩ : ∃ Y, Y = stM (mRow (stC C x) 54 0 b) y := ⟨_, rfl⟩
  have y54 : Y.1 54 0 = b := by
    rw [eY]
    exact (show (mRow (stC C x) 54 0 b).1 54 0 = b from mRow_row _ _ _ _)
  have yk : ∀ k j, k ≠ 54 → k ≠ 11 → k ≠ 12 → Y.1 k j = C.1 k j := fun k j h1 h2 h3 => by
    rw [eY]
    exact (if_neg (fun z => h3 z.1)).trans ((if_neg (fun z => h1 z.1)).trans (if_neg (fun z => h2 z.1)))
  have y11 : ∀ j, j ≠ 15 → Y.1 11 0 j = m.1 11 0 j := fun j hj => by
    rw [eY]
    exact (show upd (C.1 11 0) 15 x j = _ from (upd_ne hj).trans (congrFun (hC1 11 0 (Or.inl (by decide))) j))
  have y12 : ∀ j, j ≠ 2 → Y.1 12 0 j = m.1 12 0 j := fun j hj => by
    rw [eY]
    exact (show upd (C.1 12 0) 2 y j = _ from (upd_ne hj).trans (congrFun (hC1 12 0 (Or.inl (by decide))) j))
  have y2 : Y.2 = m.2 := by rw [eY]; exact hC2
  rw [← eY]
  have yc : ∀ k j, ¬ (k = 1 ∨ (16 ≤ k ∧ k ≤ 19) ∨ k = 31 ∨ k = 32) ∨ j ≠ m.2.2 0 → k ≠ 54 → k ≠ 11 → k ≠ 12 → Y.1 k j = m.1 k j := fun k j z h1 h2 h3 => (yk k j h1 h2 h3).trans (hC1 k j z)
  have yA : abV Y (m.2.2 0) = abV C (m.2.2 0) := abV_d (fun k hk => yk k _ (by omega) (by omega) (by omega))
  obtain ⟨r1, -, ⟨k, q1, q2, q3, q4⟩, r4, r5, ⟨F, B, t1, t2, t3, t4, t5⟩, r7, r8, r9, r10, r11, r12, r13⟩ := h
  have hnow : m.2.2 0 < 2 := by omega
  refine ⟨by rw [y2]; exact r1, ⟨ns, nm, nt, ?_⟩, ⟨k, q1, by rw [y11 14 (by decide)]; exact q2, by rw [y12 40 (by decide)]; exact q3, fun i hi => ?_⟩, fun g hg => ?_, fun i hi => ?_, ⟨F, B, t1, by rw [yc 4 0 (by omega) (by decide) (by decide) (by decide)]; exact t2, by rw [y12 10 (by decide)]; exact t3, t4, fun j hj => ?_⟩, fun i hi => ?_, by rw [y2]; exact r8, by rw [y11 18 (by decide), y11 19 (by decide), y12 16 (by decide), y12 17 (by decide)]; exact r9, by rw [y11 11 (by decide), y12 39 (by decide)]; exact r10, fun j hj => ?_, fun o ho => ?_, fun o ho => ?_⟩
  · rw [y2, y54]
    exact VG_d hG (by unfold VC2; rw [yA]; exact hV) (by rw [yA]; exact hA) hS hn (yc 38 _ (by omega) (by decide) (by decide) (by decide)) (yc 6 _ (by omega) (by decide) (by decide) (by decide)) (yc 9 _ (by omega) (by decide) (by decide) (by decide)) (fun x x1 x2 => yc x _ (by omega) (by omega) (by omega) (by omega)) (by rw [y2]) (hb 10 (Or.inl rfl)) (fun j hj _ => hb j (Or.inr hj)) (fun _ _ => rfl)
  · obtain ⟨n1, n2, n3, z⟩ := q4 i hi
    refine ⟨n1, n2, n3, VG_c z ⟨abV_d (fun k hk => yc k _ (Or.inr (by omega)) (by omega) (by omega) (by omega)), fun t _ => by rw [yc 38 _ (by omega) (by decide) (by decide) (by decide)], fun j _ _ => by rw [yc 6 _ (by omega) (by decide) (by decide) (by decide)], fun j _ _ => by rw [yc 9 _ (by omega) (by decide) (by decide) (by decide)], fun x x1 x2 k _ => by rw [yc x _ (by omega) (by omega) (by omega) (by omega)], fun i _ => by rw [y2]⟩ (fun j hj => ?_) (fun j hj => by rw [y2])⟩
    unfold slA
    rw [y54]
    exact hb _ (Or.inr (by omega))
  · unfold ZZo
    rw [yc 9 _ (by omega) (by decide) (by decide) (by decide)]
    exact r4 g hg
  · rw [yc 5 _ (by omega) (by decide) (by decide) (by decide), yc 57 _ (by omega) (by decide) (by decide) (by decide), yc 56 _ (by omega) (by decide) (by decide) (by decide), y2]
    exact r5 i hi
  · rw [yc 26 _ (by omega) (by decide) (by decide) (by decide), yc 59 _ (by omega) (by decide) (by decide) (by decide)]
    exact t5 j hj
  · rw [y2]; exact r7 i hi
  · rw [yc 53 _ (by omega) (by decide) (by decide) (by decide), yc 71 _ (by omega) (by decide) (by decide) (by decide)]; exact r11 j hj
  · rw [yc 69 _ (by omega) (by decide) (by decide) (by decide)]; exact r12 o ho
  · rw [yc 20 _ (by omega) (by decide) (by decide) (by decide), yc 69 _ (by omega) (by decide) (by decide) (by decide)]; exact r13 o ho
/-- a deed, on both sides -/
theorem OK_v {m C : MM} {ns nm nt : Nat} {b : Nat → Int32} {v : Int32} {fm : MM → Option MV × MM} (h : RST m) (hG : VGo m (m.2.2 0) (m.1 54 0) (m.2.1 55 0) ns nm nt) (hC : CFo m C (m.2.2 0)) (hV : VC2 C (m.2.2 0) ns nm nt) (hA : AG (abV C (m.2.2 0)) b ns nm nt) (hS : VSo b ns nm nt) (hn : ∀ t, t < nt → b (46 + 3 * t) = m.1 54 0 (46 + 3 * t)) (hb : ∀ j, j = 10 ∨ 146 ≤ j → b j = m.1 54 0 j) (hf : ∀ X, fm (stC C X) = gvM (mRow (stC C X) 54 0 b) v) : OKo m (gvC C v) fm := by
  refine ⟨MC_t (CF_M hC) MC_C, ?_, ?_⟩
  · show _ = (fm (stC C 0)).1
    rw [hf]; rfl
  · show INV (fm (stC C 0)).2
    rw [hf]
    refine ⟨RST_v (a := b) h hG hC hV hA hS hn hb, ?_⟩
    show upd (C.1 11 0) 15 0 15 = upd (C.1 12 0) 2 0 2
    rw [upd_eq, upd_eq]
theorem pt_hi {a : Nat → Int32} {ns nm nt how t : Nat} (hV : VA a ns nm nt) (hh : how = 8 ∨ how = 9) (ht : t < nt) {j : Nat} (hj : j = 10 ∨ 44 ≤ j) : ptA a how t j = a j := by
  have ho := ow_ns hV ht
  have h4 := hV.1.2
  unfold ptA
  rw [upd_ne (by omega), upd_ne (by omega)]
theorem CF_cg {m : MM} {g f t : Nat} : CFo m (cgM m g f t) g := CF_t (CF_R (by decide)) (CF_R (by decide))
theorem OK_give {m : MM} (h : RST m) (x : Int32) : OKo m (cl_give m x) (fun m1 => Fn_X12_give m1 [vR 12 0, vI x]) := by
  obtain ⟨ns, nm, nt, hG, c13, c14, c15, a0, a1, a2, b1, b2, b3⟩ := NOW h
  have hA := hG.2.1
  have hV := hG.1.1
  have hS := hG.2.2.1
  unfold cl_give
  by_cases x1 : x < 0 ∨ m.1 6 (m.2.2 0) 15 ≤ x
  · rw [if_pos x1]
    rw [c15, ← a2] at x1
    exact OK_0 h (fun _ => if_neg (fun z => x1.elim z.1 z.2))
  · rw [if_neg x1]
    have y : tgP (m.1 54 0) x := ⟨fun z => x1 (Or.inl z), fun z => x1 (Or.inr (by rw [c15, ← a2]; exact z))⟩
    obtain ⟨i, hi, rfl⟩ := tp_in a2 (by omega) y
    have ei : (nI i).toNatClampNeg = i := nI_clamp (by omega)
    have hf : ∀ M : MM, M.1 54 0 = m.1 54 0 → Fn_X12_give M [vR 12 0, vI (nI i)] = gvR M i := by
      intro M e
      show (if tgP (M.1 54 0) (nI i) then gvR M (nI i).toNatClampNeg else rfM M 1) = _
      rw [e, if_pos y, ei]
    rw [ei]
    by_cases c : mgA (abV m (m.2.2 0)) i
    · have c' := (AG_mgA hA hV hi).mp c
      rw [if_pos c]
      unfold cl_give1
      have eC := cg_pt (f := 5) (how := 8) hV (Or.inl ⟨rfl, rfl⟩) hi
      have hC : CFo m (cgM m (m.2.2 0) 5 i) (m.2.2 0) := CF_cg
      have hVC : VC2 (cgM m (m.2.2 0) 5 i) (m.2.2 0) ns nm nt := VC2_d hG.1 (SML_cg _ _ _ _) (DDo_cg (DDo_of hG.1) (by decide))
      revert eC hC hVC
      generalize cgM m (m.2.2 0) 5 i = C
      intro eC hC hVC
      have e54 : ∀ X, (stC C X).1 54 0 = m.1 54 0 := fun X => hC.1 54 0 (by omega)
      have hAb : AG (abV C (m.2.2 0)) (ptA (m.1 54 0) 8 i) ns nm nt := by rw [eC]; exact AG_pt hA hV (Or.inl rfl) hi
      have hS' := VS_pt hS (Or.inl rfl) hi c'
      have ev : lsA' (abV C (C.2.2 0)) (C.1 35 (C.2.2 0) (nI i).toNatClampNeg) = lsA' (ptA (m.1 54 0) 8 i) (m.1 54 0 (44 + 3 * i)) := by
        rw [hC.2, hC.1 35 _ (by omega), ei, AG_lsA hAb hVC.1]
        congr 1
        rw [← (AG_t hA hi).1, ab_of (by omega)]
      rw [ev]
      refine OK_v h hG hC hVC hAb hS' (fun t _ => pt_hi hS.1 (Or.inl rfl) hi (by omega)) (fun j hj => pt_hi hS.1 (Or.inl rfl) hi (by omega)) (fun X => (hf _ (e54 X)).trans ?_)
      have ep : putA (stC C X) 8 i = mRow (stC C X) 54 0 (ptA (m.1 54 0) 8 i) := by
        rw [← e54 X]
        unfold putA ptA
        exact mRow2 _ _ _ _ _
      unfold gvR
      rw [ep, e54, if_pos c', show (mRow (stC C X) 54 0 (ptA (m.1 54 0) 8 i)).1 54 0 = ptA (m.1 54 0) 8 i from mRow_row _ _ _ _]
    · have c' : ¬ mgA (m.1 54 0) i := fun z => c ((AG_mgA hA hV hi).mpr z)
      rw [if_neg c]
      exact OK_0 h (fun X => (hf (stC m X) rfl).trans (if_neg c'))

end
