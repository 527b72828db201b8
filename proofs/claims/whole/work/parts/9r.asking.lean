/-! PART 9R: asking in any order refuses the same -/

noncomputable section
/-- how well a suitor likes -/
def lkN (a : Nat → Int32) (s k : Nat) : Nat := (a (128 + 4 * s + k)).toNatClampNeg
theorem lkN_e {a : Nat → Int32} (hL : LKo a) {s k : Nat} (hs : s < 4) (hk : k < 4) : lkN a s k ≤ 99 ∧ a (128 + 4 * s + k) = nI (lkN a s k) := by
  obtain ⟨l, h1, h2⟩ := hL s k hs hk
  unfold lkN
  rw [h2, nI_clamp (by omega)]
  exact ⟨h1, rfl⟩
/-- whom he asks -/
theorem ask_ok {a : Nat → Int32} (hL : LKo a) {s : Nat} (hs : s < 4) {n : Nat} (hn : n < 16) : ∀ t, t ≤ 4 → (askF a (nI n) s t = -1 ∧ ∀ k, k < t → n.testBit k = true) ∨ ∃ m, m < t ∧ askF a (nI n) s t = nI m ∧ n.testBit m = false ∧ ∀ k, k < t → n.testBit k = false → k = m ∨ lkN a s k < lkN a s m ∨ (lkN a s k = lkN a s m ∧ m < k)
  | 0, _ => Or.inl ⟨rfl, fun k hk => absurd hk (by omega)⟩
  | t + 1, ht => by
    have hin : inS (nI n) (nI t) ↔ n.testBit t = true := inS_nI (by omega) (by omega)
    have hf : n.testBit t = false ∨ n.testBit t = true := by cases n.testBit t <;> simp
    rw [askF]
    rcases ask_ok hL hs hn t (by omega) with ⟨e, h⟩ | ⟨m, hm, e, hb, h⟩
    · rcases hf with c | c
      · rw [if_pos ⟨fun z => by rw [hin, c] at z; exact Bool.noConfusion z, Or.inl e⟩]
        refine Or.inr ⟨t, by omega, rfl, c, fun k hk hkb => ?_⟩
        by_cases c2 : k = t
        · exact Or.inl c2
        · have := h k (by omega); rw [this] at hkb; exact Bool.noConfusion hkb
      · rw [if_neg (fun z => z.1 (hin.mpr c)), e]
        refine Or.inl ⟨rfl, fun k hk => ?_⟩
        by_cases c2 : k = t
        · rw [c2]; exact c
        · exact h k (by omega)
    · obtain ⟨b1, e1⟩ := lkN_e hL hs (show t < 4 by omega)
      obtain ⟨b2, e2⟩ := lkN_e hL hs (show m < 4 by omega)
      have em : (askF a (nI n) s t).toNatClampNeg = m := by rw [e, nI_clamp (by omega)]
      rw [em, e1, e2]
      rcases hf with c | c
      · by_cases c3 : lkN a s m < lkN a s t
        · rw [if_pos ⟨fun z => by rw [hin, c] at z; exact Bool.noConfusion z, Or.inr (by rw [nI_leI (by omega) (by omega)]; omega)⟩]
          refine Or.inr ⟨t, by omega, rfl, c, fun k hk hkb => ?_⟩
          by_cases c2 : k = t
          · exact Or.inl c2
          · rcases h k (by omega) hkb with z | z | z
            · rw [z]; exact Or.inr (Or.inl c3)
            · exact Or.inr (Or.inl (by omega))
            · exact Or.inr (Or.inl (by omega))
        · rw [if_neg (fun z => z.2.elim (fun y => nI_n1 (by omega) (e.symm.trans y)) (fun y => y (by rw [nI_leI (by omega) (by omega)]; omega)))]
          refine Or.inr ⟨m, by omega, e, hb, fun k hk hkb => ?_⟩
          by_cases c2 : k = t
          · rw [c2]
            by_cases c4 : lkN a s t = lkN a s m
            · exact Or.inr (Or.inr ⟨c4, hm⟩)
            · exact Or.inr (Or.inl (by omega))
          · exact h k (by omega) hkb
      · rw [if_neg (fun z => z.1 (hin.mpr c))]
        refine Or.inr ⟨m, by omega, e, hb, fun k hk hkb => ?_⟩
        by_cases c2 : k = t
        · rw [c2, c] at hkb; exact Bool.noConfusion hkb
        · exact h k (by omega) hkb
/-- he asks her -/
def BS (a : Nat → Int32) (nm n s m : Nat) : Prop := m < nm ∧ askF a (nI n) s nm = nI m
theorem BS_iff {a : Nat → Int32} (hL : LKo a) {s nm n m : Nat} (hs : s < 4) (hm : nm ≤ 4) (hn : n < 16) : BS a nm n s m ↔ (m < nm ∧ n.testBit m = false ∧ ∀ k, k < nm → n.testBit k = false → k = m ∨ lkN a s k < lkN a s m ∨ (lkN a s k = lkN a s m ∧ m < k)) := by
  have z := ask_ok hL hs hn nm hm
  constructor
  · rintro ⟨h1, h2⟩
    rcases z with ⟨e, h⟩ | ⟨m', hm', e, hb, h⟩
    · exact absurd (h2.symm.trans e) (nI_n1 (by omega))
    · have : m' = m := nI_inj (by omega) (by omega) (e.symm.trans h2)
      rw [this] at hb h
      exact ⟨h1, hb, h⟩
  · rintro ⟨h1, h2, h3⟩
    rcases z with ⟨e, h⟩ | ⟨m', hm', e, hb, h⟩
    · have := h m h1; rw [this] at h2; exact Bool.noConfusion h2
    · have x := h3 m' hm' hb
      have y := h m h1 h2
      have : m' = m := by omega
      exact ⟨h1, by rw [e, this]⟩
theorem BS_u {a : Nat → Int32} {nm n s m m' : Nat} (hm : nm ≤ 4) (h : BS a nm n s m) (h' : BS a nm n s m') : m = m' := nI_inj (by have := h.1; omega) (by have := h'.1; omega) (h.2.symm.trans h'.2)
theorem BS_no {a : Nat → Int32} (hL : LKo a) {s nm n : Nat} (hs : s < 4) (hm : nm ≤ 4) (hn : n < 16) : askF a (nI n) s nm = -1 ∨ ∃ m, BS a nm n s m := by
  rcases ask_ok hL hs hn nm hm with ⟨e, -⟩ | ⟨m, h1, h2, -⟩
  · exact Or.inl e
  · exact Or.inr ⟨m, h1, h2⟩
/-- he still asks her where more have refused him, if she hasn't -/
theorem BS_up {a : Nat → Int32} (hL : LKo a) {s nm n n' m : Nat} (hs : s < 4) (hm : nm ≤ 4) (hn : n < 16) (hn' : n' < 16) (hsub : ∀ k, n.testBit k = true → n'.testBit k = true) (h : BS a nm n s m) (hb : n'.testBit m = false) : BS a nm n' s m := by
  obtain ⟨h1, h2, h3⟩ := (BS_iff hL hs hm hn).mp h
  refine (BS_iff hL hs hm hn').mpr ⟨h1, hb, fun k hk hkb => h3 k hk ?_⟩
  cases c : n.testBit k with
  | false => rfl
  | true => have := hsub k c; rw [this] at hkb; exact Bool.noConfusion hkb
/-- whom she has rather -/
theorem pf_num {a : Nat → Int32} {ns nm nt : Nat} (hV : VA a ns nm nt) (hB : BO a ns nm nt) {d : Nat} (hd : d < 4) : ∃ h g : Nat → Nat, ∀ s o, s < ns → o < ns → (pfP a d s o ↔ (h o < h s ∨ (h s = h o ∧ (g o < g s ∨ (g s = g o ∧ s < o))))) := by
  have h4 := hV.1.2
  refine ⟨fun s => (hdA a (nI s) d).toNatClampNeg, fun s => (a (12 + 4 * s)).toNatClampNeg, fun s o hs ho => ?_⟩
  obtain ⟨p, -, hp, -, ep, -⟩ := BO_HB hV hB (nI s) d hd
  obtain ⟨q, -, hq, -, eq, -⟩ := BO_HB hV hB (nI o) d hd
  obtain ⟨g, hg, eg⟩ := hB.1 s hs
  obtain ⟨f, hf, ef⟩ := hB.1 o ho
  unfold pfP
  show _ ↔ ((hdA a (nI o) d).toNatClampNeg < (hdA a (nI s) d).toNatClampNeg ∨ ((hdA a (nI s) d).toNatClampNeg = (hdA a (nI o) d).toNatClampNeg ∧ ((a (12 + 4 * o)).toNatClampNeg < (a (12 + 4 * s)).toNatClampNeg ∨ ((a (12 + 4 * s)).toNatClampNeg = (a (12 + 4 * o)).toNatClampNeg ∧ s < o))))
  rw [ep, eq, eg, ef, sub_pos hp hq, sub_zero hp hq, sub_pos (by omega) (by omega), sub_zero (by omega) (by omega), nI_ltI hq hp, nI_eq hp hq, nI_ltI (by omega) (by omega), nI_eq (by omega) (by omega), nI_leI (by omega) (by omega), nI_clamp hp, nI_clamp hq, nI_clamp (by omega), nI_clamp (by omega)]
  omega
theorem pf_as {a : Nat → Int32} {ns nm nt : Nat} (hV : VA a ns nm nt) (hB : BO a ns nm nt) {d s o : Nat} (hd : d < 4) (hs : s < ns) (ho : o < ns) (h : pfP a d s o) (h' : pfP a d o s) : False := by
  obtain ⟨p, g, e⟩ := pf_num hV hB hd
  rw [e s o hs ho] at h
  rw [e o s ho hs] at h'
  omega
theorem pf_tr {a : Nat → Int32} {ns nm nt : Nat} (hV : VA a ns nm nt) (hB : BO a ns nm nt) {d s o t : Nat} (hd : d < 4) (hs : s < ns) (ho : o < ns) (ht : t < ns) (h : pfP a d s o) (h' : pfP a d o t) : pfP a d s t := by
  obtain ⟨p, g, e⟩ := pf_num hV hB hd
  rw [e s o hs ho] at h
  rw [e o t ho ht] at h'
  rw [e s t hs ht]
  omega
theorem pf_to {a : Nat → Int32} {ns nm nt : Nat} (hV : VA a ns nm nt) (hB : BO a ns nm nt) {d s o : Nat} (hd : d < 4) (hs : s < ns) (ho : o < ns) (hne : s ≠ o) (h : ¬ pfP a d s o) : pfP a d o s := by
  obtain ⟨p, g, e⟩ := pf_num hV hB hd
  rw [e s o hs ho] at h
  rw [e o s ho hs]
  omega
/-- each refusal is for one who asks and is had rather -/
def JF (a : Nat → Int32) (ns nm : Nat) (N : Nat → Nat) : Prop := ∀ s m, s < ns → m < nm → (N s).testBit m = true → ∃ b, b < ns ∧ BS a nm (N b) b m ∧ pfP a m b s
/-- nobody is refused any more -/
def CF (a : Nat → Int32) (ns nm : Nat) (N : Nat → Nat) : Prop := (∀ s, s < 4 → N s < 16) ∧ JF a ns nm N ∧ ∀ s o m, s < ns → o < ns → BS a nm (N s) s m → BS a nm (N o) o m → s = o
/-- what asking keeps to -/
def GS (a : Nat → Int32) (ns nm : Nat) (N : Nat → Nat) : Prop := (∀ s, s < 4 → N s < 16) ∧ (∀ s m, (N s).testBit m = true → s < ns ∧ m < nm) ∧ JF a ns nm N ∧ ∀ N', CF a ns nm N' → ∀ s m, s < ns → (N s).testBit m = true → (N' s).testBit m = true
def adN (N : Nat → Nat) (l m : Nat) : Nat → Nat := fun s => if s = l then N l ||| 2 ^ m else N s
theorem adN_e (N : Nat → Nat) (l m : Nat) : adN N l m l = N l ||| 2 ^ m := if_pos rfl
theorem adN_n {N : Nat → Nat} {l m s : Nat} (h : s ≠ l) : adN N l m s = N s := if_neg h
def sum4 (N : Nat → Nat) : Nat := pcN (N 0) + pcN (N 1) + pcN (N 2) + pcN (N 3)
theorem GS_0 (a : Nat → Int32) (ns nm : Nat) : GS a ns nm (fun _ => 0) := ⟨fun _ _ => (show 0 < 16 by decide), fun s m h => by rw [Nat.zero_testBit] at h; exact Bool.noConfusion h, fun s m _ _ h => by rw [Nat.zero_testBit] at h; exact Bool.noConfusion h, fun _ _ s m _ h => by rw [Nat.zero_testBit] at h; exact Bool.noConfusion h⟩
theorem sum4_ad {N : Nat → Nat} {l m : Nat} (hN : ∀ s, s < 4 → N s < 16) (hl : l < 4) (hm : m < 4) (hb : (N l).testBit m = false) : sum4 (adN N l m) = sum4 N + 1 := by
  have e := (pc_or (N l) (hN l hl) m hm hb).1
  unfold sum4
  have : l = 0 ∨ l = 1 ∨ l = 2 ∨ l = 3 := by omega
  rcases this with rfl | rfl | rfl | rfl
  · rw [adN_e, adN_n (by decide), adN_n (by decide), adN_n (by decide), e]; omega
  · rw [adN_e, adN_n (by decide), adN_n (by decide), adN_n (by decide), e]; omega
  · rw [adN_e, adN_n (by decide), adN_n (by decide), adN_n (by decide), e]; omega
  · rw [adN_e, adN_n (by decide), adN_n (by decide), adN_n (by decide), e]; omega
theorem sum4_le {N : Nat → Nat} (hN : ∀ s, s < 4 → N s < 16) : sum4 N ≤ 16 := by
  unfold sum4
  have := pc16 _ (hN 0 (by decide)); have := pc16 _ (hN 1 (by decide)); have := pc16 _ (hN 2 (by decide)); have := pc16 _ (hN 3 (by decide))
  omega
/-- one is refused -/
theorem GS_step {a : Nat → Int32} {ns nm nt : Nat} (hV : VA a ns nm nt) (hB : BO a ns nm nt) (hL : LKo a) {N : Nat → Nat} {l b m : Nat} (h : GS a ns nm N) (hl : l < ns) (hb : b < ns) (hne : l ≠ b) (h1 : BS a nm (N l) l m) (h2 : BS a nm (N b) b m) (hp : pfP a m b l) : GS a ns nm (adN N l m) ∧ (N l).testBit m = false := by
  have hns := hV.1.2
  have hnm := hV.2.1.2
  obtain ⟨g1, g2, g3, g4⟩ := h
  have hm := h1.1
  have fb := ((BS_iff hL (show l < 4 by omega) hnm (g1 l (by omega))).mp h1).2.1
  refine ⟨⟨fun s hs => ?_, fun s k hk => ?_, fun s k hs hk hk2 => ?_, fun N' hC s k hs hk => ?_⟩, fb⟩
  · by_cases c : s = l
    · rw [c, adN_e]; exact or_lt16 (g1 l (by omega)) (by omega)
    · rw [adN_n c]; exact g1 s hs
  · by_cases c : s = l
    · rw [c, adN_e, or_bt] at hk
      rcases hk with z | z
      · rw [c]; exact g2 l k z
      · rw [c, z]; exact ⟨hl, hm⟩
    · rw [adN_n c] at hk; exact g2 s k hk
  · have new : s = l → k = m → ∃ b', b' < ns ∧ BS a nm (adN N l m b') b' k ∧ pfP a k b' s := fun e1 e2 => ⟨b, hb, by rw [adN_n (Ne.symm hne), e2]; exact h2, by rw [e1, e2]; exact hp⟩
    have old : (N s).testBit k = true → ∃ b', b' < ns ∧ BS a nm (adN N l m b') b' k ∧ pfP a k b' s := fun z => by
      obtain ⟨b', x1, x2, x3⟩ := g3 s k hs hk z
      by_cases c : b' = l
      · rw [c] at x2 x3
        have e := BS_u hnm x2 h1
        rw [e] at x3 ⊢
        exact ⟨b, hb, by rw [adN_n (Ne.symm hne)]; exact h2, pf_tr hV hB (show m < 4 by omega) hb hl hs hp x3⟩
      · exact ⟨b', x1, by rw [adN_n c]; exact x2, x3⟩
    by_cases c : s = l
    · rw [c, adN_e, or_bt] at hk2
      rcases hk2 with z | z
      · exact old (by rw [c]; exact z)
      · exact new c z
    · rw [adN_n c] at hk2
      exact old hk2
  · have key : (N' l).testBit m = true := by
      cases c : (N' l).testBit m with
      | true => rfl
      | false =>
        exfalso
        obtain ⟨c1, c2, c3⟩ := hC
        have q1 := BS_up hL (show l < 4 by omega) hnm (g1 l (by omega)) (c1 l (by omega)) (fun k z => g4 N' ⟨c1, c2, c3⟩ l k hl z) h1 c
        cases cb : (N' b).testBit m with
        | false =>
          have q2 := BS_up hL (show b < 4 by omega) hnm (g1 b (by omega)) (c1 b (by omega)) (fun k z => g4 N' ⟨c1, c2, c3⟩ b k hb z) h2 cb
          exact hne (c3 l b m hl hb q1 q2)
        | true =>
          obtain ⟨b', x1, x2, x3⟩ := c2 b m hb hm cb
          have e := c3 b' l m x1 hl x2 q1
          rw [e] at x3
          exact pf_as hV hB (show m < 4 by omega) hl hb x3 hp
    by_cases c : s = l
    · rw [c, adN_e, or_bt] at hk
      rcases hk with z | z
      · rw [c]; exact g4 N' hC l k hl z
      · rw [c, z]; exact key
    · rw [adN_n c] at hk
      exact g4 N' hC s k hs hk
/-- where nobody is refused any more, the same have been refused -/
theorem GS_u {a : Nat → Int32} {ns nm : Nat} {N N' : Nat → Nat} (h : GS a ns nm N) (hC : CF a ns nm N) (h' : GS a ns nm N') (hC' : CF a ns nm N') : N = N' := by
  funext s
  refine Nat.eq_of_testBit_eq (fun m => ?_)
  rw [Bool.eq_iff_iff]
  constructor
  · exact fun z => h.2.2.2 N' hC' s m (h.2.1 s m z).1 z
  · exact fun z => h'.2.2.2 N hC s m (h'.2.1 s m z).1 z

end
