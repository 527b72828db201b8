/-! PART 9ZV: feeding, alike -/

noncomputable section
/-- the tape moves -/
theorem RST_p {m Y : MM} (h : RST m) (h1 : ∀ k j, kC k → k ≠ 26 ∧ k ≠ 59 → Y.1 k j = m.1 k j) (hc : Y.1 11 0 11 = m.1 11 0 11 ∧ Y.1 11 0 14 = m.1 11 0 14 ∧ Y.1 11 0 18 = m.1 11 0 18 ∧ Y.1 11 0 19 = m.1 11 0 19) (hm : Y.1 12 0 16 = m.1 12 0 16 ∧ Y.1 12 0 17 = m.1 12 0 17 ∧ Y.1 12 0 39 = m.1 12 0 39 ∧ Y.1 12 0 40 = m.1 12 0 40) (h2 : Y.2 = m.2) (ht : ∃ F B, TPo Y Y F B) : RST Y := by
  obtain ⟨a1, a2, a3, a4⟩ := hc
  obtain ⟨b2, b3, b4, b5⟩ := hm
  obtain ⟨r1, ⟨ns, nm, nt, r2⟩, ⟨k, q1, q2, q3, q4⟩, r4, r5, -, r7, r8, r9, r10, r11, r12, r13⟩ := h
  have hG : ∀ g, GGo m g Y g := fun g => by
    have e : ∀ k, kC k → k ≠ 26 ∧ k ≠ 59 → Y.1 k g = m.1 k g := fun k hk => h1 k g hk
    refine ⟨abV_d (fun k hk => e k (by unfold kC; omega) (by omega)), fun t _ => by rw [e 38 (by unfold kC; omega) (by omega)], fun j _ _ => by rw [e 6 (by unfold kC; omega) (by omega)], fun j _ _ => by rw [e 9 (by unfold kC; omega) (by omega)], fun x x1 x2 k _ => by rw [e x (by unfold kC; omega) (by omega)], fun i _ => by rw [h2]⟩
  have e54 : Y.1 54 0 = m.1 54 0 := h1 54 0 (by unfold kC; omega) (by omega)
  refine ⟨by rw [h2]; exact r1, ⟨ns, nm, nt, by rw [h2, e54]; exact VG_c r2 (hG _) (fun _ _ => rfl) (fun _ _ => rfl)⟩, ⟨k, q1, by rw [a2]; exact q2, by rw [b5]; exact q3, fun i hi => ?_⟩, fun g hg => ?_, fun i hi => ?_, ht, by rw [OWo, h2]; exact r7, by rw [h2]; exact r8, by rw [a3, a4, b2, b3]; exact r9, by rw [a1, b4]; exact r10, fun j hj => ?_, fun o ho => ?_, fun o ho => ?_⟩
  · obtain ⟨n1, n2, n3, z⟩ := q4 i hi
    exact ⟨n1, n2, n3, by rw [e54, h2]; exact VG_c z (hG _) (fun _ _ => rfl) (fun _ _ => rfl)⟩
  · unfold ZZo
    rw [h1 9 g (by unfold kC; omega) (by omega)]
    exact r4 g hg
  · rw [h1 5 i (by unfold kC; omega) (by omega), h1 57 0 (by unfold kC; omega) (by omega), h1 56 0 (by unfold kC; omega) (by omega), h2]
    exact r5 i hi
  · rw [h1 53 0 (by unfold kC; omega) (by omega), h1 71 0 (by unfold kC; omega) (by omega)]; exact r11 j hj
  · rw [h1 69 0 (by unfold kC; omega) (by omega)]; exact r12 o ho
  · rw [h1 20 0 (by unfold kC; omega) (by omega), h1 69 0 (by unfold kC; omega) (by omega)]; exact r13 o ho
theorem by_of (x : Int8) : ∃ n, n < 256 ∧ vp_nar .byte x.toInt32 = byN n := by
  have e : x = Int8.ofNat x.toBitVec.toNat := by
    apply Int8.toBitVec_inj.1
    show x.toBitVec = BitVec.ofNat 8 x.toBitVec.toNat
    simp
  have hlt : x.toBitVec.toNat < 256 := x.toBitVec.isLt
  refine ⟨x.toBitVec.toNat, hlt, ?_⟩
  have z := (by_tb _ hlt).2.2.2.2.1
  unfold byN at z ⊢
  rw [← e] at z ⊢
  exact z
theorem fu_ok {o o' : Nat → Int32} {F : Nat} {B : Nat → Nat} (v : Int32) (hB : ∀ j, B j < 256) (h : ∀ j, j < F → o j = byN (B j) ∧ o' j = byN (B j)) : ∃ B' : Nat → Nat, (∀ j, B' j < 256) ∧ ∀ j, j < F + 4 → fuR4 o F v j = byN (B' j) ∧ fuR4 o' F v j = byN (B' j) := by
  obtain ⟨a, ha, ea⟩ := by_of (v >>> (24 &&& 31)).toInt8
  obtain ⟨b, hb, eb⟩ := by_of (v >>> (16 &&& 31)).toInt8
  obtain ⟨c, hc, ec⟩ := by_of (v >>> (8 &&& 31)).toInt8
  obtain ⟨d, hd, ed⟩ := by_of (v >>> (0 &&& 31)).toInt8
  have key : ∀ (o : Nat → Int32), (∀ j, j < F → o j = byN (B j)) → ∀ j, j < F + 4 → fuR4 o F v j = byN (if j = F + 3 then d else if j = F + 2 then c else if j = F + 1 then b else if j = F then a else B j) := by
    intro o ho j hj
    unfold fuR4
    rw [ea, eb, ec, ed]
    show (if j = F + 3 then byN d else if j = F + 2 then byN c else if j = F + 1 then byN b else if j = F then byN a else o j) = _
    by_cases c3 : j = F + 3
    · rw [if_pos c3, if_pos c3]
    · rw [if_neg c3, if_neg c3]
      by_cases c2 : j = F + 2
      · rw [if_pos c2, if_pos c2]
      · rw [if_neg c2, if_neg c2]
        by_cases c1 : j = F + 1
        · rw [if_pos c1, if_pos c1]
        · rw [if_neg c1, if_neg c1]
          by_cases c0 : j = F
          · rw [if_pos c0, if_pos c0]
          · rw [if_neg c0, if_neg c0]
            exact ho j (by omega)
  refine ⟨fun j => if j = F + 3 then d else if j = F + 2 then c else if j = F + 1 then b else if j = F then a else B j, fun j => ?_, fun j hj => ⟨key o (fun j hj => (h j hj).1) j hj, key o' (fun j hj => (h j hj).2) j hj⟩⟩
  show (if j = F + 3 then d else if j = F + 2 then c else if j = F + 1 then b else if j = F then a else B j) < 256
  split
  · exact hd
  · split
    · exact hc
    · split
      · exact hb
      · split
        · exact ha
        · exact hB j
theorem TP_4 {c M : MM} {F : Nat} {B : Nat → Nat} (h : TPo c M F B) (v : Int32) (hF : F + 4 ≤ 900) : ∃ B', TPo (apM c v) (foM M v) (F + 4) B' := by
  obtain ⟨h1, h2, h3, h4, h5⟩ := h
  obtain ⟨B', b1, b2⟩ := fu_ok v h4 h5
  refine ⟨B', hF, ?_, ?_, b1, fun j hj => ?_⟩
  · show upd (c.1 4 0) 5 (c.1 4 0 5 + 4) 5 = _
    rw [upd_eq, h2]; exact nI_add F 4
  · show upd (M.1 12 0) 10 (M.1 12 0 10 + 4) 10 = _
    rw [upd_eq, h3]; exact nI_add F 4
  · show fuR4 (c.1 26 0) (c.1 4 0 5).toNatClampNeg v j = _ ∧ fuR4 (M.1 59 0) (M.1 12 0 10).toNatClampNeg v j = _
    rw [h2, h3, nI_clamp (by omega)]
    exact b2 j hj
/-- the class's and the model's tape alone -/
def SMt (c c' : MM) : Prop := (∀ k j, k ≠ 26 → k ≠ 4 → c'.1 k j = c.1 k j) ∧ c'.2 = c.2
def SMf (c c' : MM) : Prop := (∀ k j, k ≠ 59 → k ≠ 12 → c'.1 k j = c.1 k j) ∧ (∀ j, j ≠ 10 → c'.1 12 0 j = c.1 12 0 j) ∧ c'.2 = c.2
theorem SMt_1 (c : MM) (v : Int32) : SMt c (apM c v) := ⟨fun k j a b => (if_neg (fun z => b z.1)).trans (if_neg (fun z => a z.1)), rfl⟩
theorem SMf_1 (c : MM) (v : Int32) : SMf c (foM c v) := ⟨fun k j a b => (if_neg (fun z => b z.1)).trans (if_neg (fun z => a z.1)), fun j hj => upd_ne hj, rfl⟩
theorem SMt_t {a b c : MM} (h : SMt a b) (h' : SMt b c) : SMt a c := ⟨fun k j x y => (h'.1 k j x y).trans (h.1 k j x y), h'.2.trans h.2⟩
theorem SMf_t {a b c : MM} (h : SMf a b) (h' : SMf b c) : SMf a c := ⟨fun k j x y => (h'.1 k j x y).trans (h.1 k j x y), fun j hj => (h'.2.1 j hj).trans (h.2.1 j hj), h'.2.2.trans h.2.2⟩
theorem OK_feed {m : MM} (h : INV m) (a b c d e : Int32) : OKo m (cl_feed m a b c d e) (fun m1 => Fn_X12_feed m1 [vR 12 0, vI a, vI b, vI c, vI d, vI e]) := by
  obtain ⟨h, hst⟩ := h
  obtain ⟨F, B, hT⟩ := h.2.2.2.2.2.1
  have hT1 := hT.1
  have hc : m.1 4 0 5 = nI F := hT.2.1
  have hm : m.1 12 0 10 = nI F := hT.2.2.1
  have hf : ∀ M : MM, M.1 12 0 10 = nI F → Fn_X12_feed M [vR 12 0, vI a, vI b, vI c, vI d, vI e] = if nI (F + 20) ≤ 900 then (some (vI (nI (F + 20))), fdM M a b c d e) else (some (vI (-1)), M) := fun M hM => by
    show (if M.1 12 0 10 + 20 ≤ 900 then (some (vI (M.1 12 0 10 + 20)), fdM M a b c d e) else (some (vI (-1)), M)) = _
    rw [hM, show nI F + 20 = nI (F + 20) from nI_add F 20]
  unfold cl_feed
  rw [hc]
  by_cases x : F ≤ 880
  · have x2 : nI (F + 20) ≤ 900 := (nI_leI (b := 900) (by omega) (by omega)).mpr (by omega)
    rw [if_pos (show nI F ≤ 880 from (nI_leI (b := 880) (by omega) (by omega)).mpr x)]
    have st : SMt m (apM (apM (apM (apM (apM m a) b) c) d) e) := SMt_t (SMt_t (SMt_t (SMt_t (SMt_1 _ _) (SMt_1 _ _)) (SMt_1 _ _)) (SMt_1 _ _)) (SMt_1 _ _)
    obtain ⟨C, eC⟩ : ∃ C, C = apM (apM (apM (apM (apM m a) b) c) d) e := ⟨_, rfl⟩
    have hTC : TPo m C F B := by
      obtain ⟨t1, t2, t3, t4, t5⟩ := hT
      rw [← eC] at st
      exact ⟨t1, t2, by rw [st.1 12 0 (by decide) (by decide)]; exact t3, t4, fun j hj => by rw [st.1 59 0 (by decide) (by decide)]; exact t5 j hj⟩
    obtain ⟨B1, z⟩ := TP_4 hTC a (by omega)
    obtain ⟨B2, z⟩ := TP_4 z b (by omega)
    obtain ⟨B3, z⟩ := TP_4 z c (by omega)
    obtain ⟨B4, z⟩ := TP_4 z d (by omega)
    obtain ⟨B5, z⟩ := TP_4 z e (by omega)
    rw [← eC] at z st ⊢
    have sf : SMf C (fdM C a b c d e) := SMf_t (SMf_t (SMf_t (SMf_t (SMf_1 _ _) (SMf_1 _ _)) (SMf_1 _ _)) (SMf_1 _ _)) (SMf_1 _ _)
    have z : TPo C (fdM C a b c d e) (F + 20) B5 := z
    have go := (hf C (by rw [st.1 12 0 (by decide) (by decide)]; exact hm)).trans (if_pos x2)
    refine ⟨⟨fun k j hk => st.1 k j (by omega) (by omega), fun k j _ => by rw [st.2]⟩, ?_, ?_⟩
    · show (some (vI (C.1 4 0 5)) : Option MV) = (Fn_X12_feed C _).1
      rw [go, z.2.1]
    · show INV (Fn_X12_feed C _).2
      rw [go]
      show INV (fdM C a b c d e)
      revert z sf
      generalize fdM C a b c d e = Y
      intro sf z
      have y1 : ∀ k j, k ≠ 59 ∧ k ≠ 12 ∧ k ≠ 26 ∧ k ≠ 4 → Y.1 k j = m.1 k j := fun k j w => (sf.1 k j w.1 w.2.1).trans (st.1 k j w.2.2.1 w.2.2.2)
      have y12 : ∀ j, j ≠ 10 → Y.1 12 0 j = m.1 12 0 j := fun j hj => (sf.2.1 j hj).trans (congrFun (st.1 12 0 (by decide) (by decide)) j)
      have e11 : Y.1 11 0 = m.1 11 0 := y1 11 0 (by decide)
      refine ⟨RST_p h (fun k j hk w => ?_) (by rw [e11]; exact ⟨rfl, rfl, rfl, rfl⟩) ⟨y12 16 (by decide), y12 17 (by decide), y12 39 (by decide), y12 40 (by decide)⟩ (sf.2.2.trans st.2) ⟨F + 20, B5, ?_⟩, by rw [e11, y12 2 (by decide)]; exact hst⟩
      · unfold kC at hk
        exact y1 k j (by omega)
      · obtain ⟨t1, t2, t3, t4, t5⟩ := z
        exact ⟨t1, by rw [sf.1 4 0 (by decide) (by decide)]; exact t2, t3, t4, fun j hj => by rw [sf.1 26 0 (by decide) (by decide)]; exact t5 j hj⟩
  · have x2 : ¬ nI (F + 20) ≤ 900 := fun z => by have := (nI_leI (b := 900) (by omega) (by omega)).mp z; omega
    rw [if_neg (show ¬ nI F ≤ 880 from fun z => x ((nI_leI (b := 880) (by omega) (by omega)).mp z))]
    have go := (hf m hm).trans (if_neg x2)
    refine ⟨MC_r m, ?_, ?_⟩
    · show _ = (Fn_X12_feed m _).1
      rw [go]
    · show INV (Fn_X12_feed m _).2
      rw [go]
      exact ⟨h, hst⟩

end
