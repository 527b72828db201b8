/-! PART 9Q: the village that is laid -/

noncomputable section
theorem rv_loop {L : Nat → Nat → Int32} {nm ns : Nat} {o t e : Nat → Int32} (hm : nm ≤ 4) (hn : ns ≤ 4) : ∀ k r m, CLo (C40 m) L ns nm → RVo nm ns m (bsV L ns nm o t e r).1 (bsV L ns nm o t e r).2.2 → (k = 0 → (∀ i, i < ns → dgt nm (r - 1) i = nm) → ¬ (bsV L ns nm o t e r).1 28 = -1) → RVo nm ns (vgL nm ns k r m) (bsV L ns nm o t e (r + k)).1 (bsV L ns nm o t e (r + k)).2.2 ∧ ((∀ i, i < ns → dgt nm (r + k - 1) i = nm) → ¬ (bsV L ns nm o t e (r + k)).1 28 = -1)
  | 0, r, m, _, h, hz => ⟨h, hz rfl⟩
  | k + 1, r, m, hC, h, _ => by
    obtain ⟨h1, h2, h3⟩ := rv_one hm hn hC h
    have ih := rv_loop (L := L) (o := o) (t := t) (e := e) hm hn k (r + 1) (vgW nm ns r 0 0 m) h1 h2 (fun _ z => h3 z)
    rw [show r + (k + 1) = r + 1 + k by omega]
    exact ih
theorem last_way : ∀ nm : Nat, nm ≤ 4 → ∀ ns, ns ≤ 4 → ∀ i, i < ns → ((nm + 1) ^ ns - 1) / (nm + 1) ^ i % (nm + 1) = nm := by decide
theorem AG_lsV {a b : Nat → Int32} {ns nm nt : Nat} (h : AG a b ns nm nt) (hV : VA a ns nm nt) {s d : Nat} (hs : s < ns) (hd : d < nm) (w : Int32) : lsV a w s d = lsV b w s d := by
  unfold lsV lyA
  rw [(AG_s h hs).2.2.2, (AG_d h hd).2.2.2, AG_plA h hV hs hd, AG_wtA h hV]
theorem vg_ok {m : MM} {v ns nm nt : Nat} {w : Int32} (h : VAL m v ns nm nt) (hw : ¬ (w < 0 ∨ 99 < w)) {b : Nat → Int32} (hb : AG (abV m v) b ns nm nt) (o t e : Nat → Int32) : ∃ q S, q ≤ 12 ∧ S < 2 ^ 31 ∧ (bsV (lsV b w) ns nm (upd o 28 (-1)) t e ((nm + 1) ^ ns)).1 28 = nI q ∧ (bsV (lsV b w) ns nm (upd o 28 (-1)) t e ((nm + 1) ^ ns)).1 29 = nI S ∧ (vgM m v w).1 8 0 4 = nI q ∧ (vgM m v w).1 8 0 5 = nI S ∧ ∀ s, s < ns → ∃ g, g ≤ nm ∧ (bsV (lsV b w) ns nm (upd o 28 (-1)) t e ((nm + 1) ^ ns)).2.2 s = nI g ∧ (vgM m v w).1 42 0 s = dgC nm g := by
  have hV := h.1.1
  have hB := h.2.1
  have hn := hV.1.2
  have hm := hV.2.1.2
  have e13 : m.1 6 v 13 = nI ns := hV.1.1
  have e14 : m.1 6 v 14 = nI nm := hV.2.1.1
  unfold vgM vgS
  rw [e13, e14, nI_clamp (by omega), nI_clamp (by omega)]
  obtain ⟨g1, -, g3, -⟩ := vgO_ok h hm hw ns 0 m (by omega) (SM8_r m)
  have ls := cst_ls hV hB w
  revert g1 g3
  generalize vgO v nm w ns 0 m = M
  intro g1 g3
  have hC : CLo (C40 (vg0 M)) (lsV b w) ns nm := by
    intro s d hs hd
    have e1 : C40 (vg0 M) s d = cst (abV m v) w s d := g1 s d (by omega) hs hd
    rw [e1, ← AG_lsV hb hV hs hd]
    exact ls s d hs hd
  have hR : RVo nm ns (vg0 M) (bsV (lsV b w) ns nm (upd o 28 (-1)) t e 0).1 (bsV (lsV b w) ns nm (upd o 28 (-1)) t e 0).2.2 := Or.inl ⟨show upd o 28 (-1) 28 = -1 from upd_eq, rfl, rfl, fun s hs => g3 s (by omega) hs⟩
  have hp : 0 < (nm + 1) ^ ns := Nat.pow_pos (by omega)
  obtain ⟨z1, z2⟩ := rv_loop hm hn ((nm + 1) ^ ns) 0 (vg0 M) hC hR (fun z => absurd z (by omega))
  rw [Nat.zero_add] at z1 z2
  rcases z1 with z1 | z1
  · exact absurd z1.1 (z2 (fun i hi => last_way nm hm ns hn i hi))
  · exact z1

end
