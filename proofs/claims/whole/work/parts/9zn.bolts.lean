/-! PART 9ZN: who would bolt, is answered alike -/

noncomputable section
theorem ld_wc {v : Int64} {n : Nat} (hn : n ≤ 4) : ldP v (nI n) ↔ wcP v (nI n).toInt64 := by
  have e : lg_cmp v (nI n).toInt64 < 0 ↔ ¬ 0 < lg_cmp v ((nI n).toInt64 - 1) := by
    rw [lg_cmp_lt, lg_cmp_gt, nI_l (by omega), Int64.lt_iff_toInt_lt, Int64.lt_iff_toInt_lt]
    have h1 : (lN n - 1).toInt = (n : Int) - 1 := by
      have hd : ∀ n, n ≤ 4 → (lN n - 1).toInt = (n : Int) - 1 := by decide
      exact hd n hn
    have h2 : (lN n).toInt = (n : Int) := by
      have hd : ∀ n, n ≤ 4 → (lN n).toInt = (n : Int) := by decide
      exact hd n hn
    omega
  exact and_congr Iff.rfl e
theorem ld_m1 {v : Int64} {b : Int32} (h : ldP v b) : lg_cmp v 0 < 0 ↔ lg_cmp v (-1) = 0 := by
  have h1 := h.1
  rw [lg_cmp_lt, Int64.lt_iff_toInt_lt] at h1
  rw [lg_cmp_lt, lg_cmp_eq, Int64.lt_iff_toInt_lt, ← Int64.toInt_inj]
  have e1 : (-1 : Int64).toInt = -1 := by decide
  have e0 : (0 : Int64).toInt = 0 := by decide
  omega
theorem ld_wg {T T' : Nat → Int64} {n q o : Nat} (hn : n ≤ 4) (hT : ∀ p, p < q → T' (o + p) = T p) : ∀ k s seen m, s + k ≤ q → wcG T' (nI n).toInt64 k (o + s) seen = (if (ldG T (nI n) k s seen m).1 = true then 0 else 5)
  | 0, s, seen, m, _ => rfl
  | k + 1, s, seen, m, h => by
    rw [wcG, ldG, hT s (by omega)]
    by_cases c : ldP (T s) (nI n)
    · rw [if_pos c, if_pos ((ld_wc hn).mp c)]
      by_cases d : lg_cmp (T s) 0 < 0
      · rw [if_pos d, if_pos ((ld_m1 c).mp d)]
        exact ld_wg hn hT k (s + 1) _ _ (by omega)
      · rw [if_neg d, if_neg (fun z => d ((ld_m1 c).mpr z))]
        by_cases f : inS seen (T s).toInt32
        · rw [if_pos f, if_pos f]; rfl
        · rw [if_neg f, if_neg f]
          exact ld_wg hn hT k (s + 1) _ _ (by omega)
    · rw [if_neg c, if_neg (fun z => c ((ld_wc hn).mpr z))]; rfl
/-- the couples of a tray -/
def CSo (m : MM) (x : Int32) : Prop := SM13 m (cl_cs m x).2 ∧ wcR m x = (cl_cs m x).1 ∧ ((cl_cs m x).1 = 0 ∨ ¬ (cl_cs m x).1 ≤ 0) ∧ ((cl_cs m x).1 = 0 → ∃ t, t < 4 ∧ x = nI t ∧ ∀ ns nm, m.1 54 0 0 = nI ns → m.1 54 0 1 = nI nm → ns ≤ 4 → nm ≤ 4 → ∀ i, i < ns → (cl_cs m x).2.1 13 0 i = (m.2.1 58 0 (60 * t + i)).toInt32 ∧ wcP (m.2.1 58 0 (60 * t + i)) (nI nm).toInt64)
theorem CS_no {m : MM} {x : Int32} (v : Int32) (r : cl_rs m x = v) (w : wcR m x = v) (hv : ¬ v ≤ 0) (hv0 : ¬ v = 0) : CSo m x := by
  have e : cl_cs m x = (v, m) := by
    unfold cl_cs
    rw [r, if_neg hv0]
  unfold CSo
  rw [e]
  exact ⟨SM13_r m, w, Or.inr hv, fun z => absurd (show v = 0 from z) hv0⟩
theorem CS_ok {m : MM} (h : RST m) (x : Int32) : CSo m x := by
  obtain ⟨ns, nm, nt, hG, c13, c14, c15, a0, a1, a2, b1, b2, b3⟩ := NOW h
  by_cases x0 : x < 0 ∨ 4 ≤ x
  · exact CS_no 1 (if_pos x0) (if_neg (fun z => x0.elim z.1 z.2)) (by decide) (by decide)
  · obtain ⟨t, ht, rfl⟩ := arg_in (n := 4) (fun z => x0 (Or.inl z)) (fun z => x0 (Or.inr z)) (by decide)
    have et : (nI t).toNatClampNeg = t := nI_clamp (by omega)
    have er : cl_rs m (nI t) = if m.1 5 t 1 = 0 then 2 else if m.1 6 (m.2.2 0) 13 ≤ m.1 5 t 3 then 0 else 3 := by
      unfold cl_rs
      rw [et]
      exact if_neg x0
    have ew : wcR m (nI t) = if m.1 57 0 t = -1 then 2 else if m.1 57 0 t < m.1 54 0 0 then 3 else wcG (m.2.1 58 0) (m.1 54 0 1).toInt64 (m.1 54 0 0).toNatClampNeg (60 * t) 0 := by
      unfold wcR
      rw [et]
      exact if_pos ⟨fun z => x0 (Or.inl z), fun z => x0 (Or.inr z)⟩
    obtain ⟨q, hq, e3, r⟩ := h.2.2.2.2.1 t ht
    rcases r with ⟨r1, r2⟩ | ⟨r1, r2, -, r4⟩
    · exact CS_no 2 (er.trans (if_pos r1)) (ew.trans (if_pos r2)) (by decide) (by decide)
    · rw [if_neg (show ¬ m.1 5 t 1 = 0 by rw [r1]; decide), e3, c13] at er
      rw [r2, if_neg (show ¬ nI q = -1 from nI_n1 (by omega)), a0, a1, nI_clamp (by omega)] at ew
      by_cases c : nI ns ≤ nI q
      · have c' := (nI_leI (by omega) (by omega)).mp c
        rw [if_pos c] at er
        rw [if_neg (show ¬ nI q < nI ns from Int32.not_lt.mpr c)] at ew
        have w := ld_wg (T := m.2.1 28 t) (T' := m.2.1 58 0) (n := nm) (q := q) (o := 60 * t) b2 r4 ns 0 0 m (by omega)
        obtain ⟨h1, h2⟩ := ldG_ok (T := m.2.1 28 t) (b := nI nm) ns 0 0 m
        have ed : cl_cs m (nI t) = (if (ldG (m.2.1 28 t) (nI nm) ns 0 0 m).1 = true then 0 else 5, (ldG (m.2.1 28 t) (nI nm) ns 0 0 m).2) := by
          unfold cl_cs cl_ld
          rw [er, if_pos rfl, et, c13, c14, nI_clamp (by omega)]
        unfold CSo
        rw [ed]
        refine ⟨h1, ew.trans w, ?_, fun z => ⟨t, ht, rfl, fun ns' nm' e0 e1 hn' hm' i hi => ?_⟩⟩
        · show (if (ldG (m.2.1 28 t) (nI nm) ns 0 0 m).1 = true then (0 : Int32) else 5) = 0 ∨ ¬ (if (ldG (m.2.1 28 t) (nI nm) ns 0 0 m).1 = true then (0 : Int32) else 5) ≤ 0
          split
          · exact Or.inl rfl
          · exact Or.inr (by decide)
        · have q1 := nI_inj (by omega) (by omega) (a0.symm.trans e0)
          have q2 := nI_inj (by omega) (by omega) (a1.symm.trans e1)
          subst q1 q2
          have y : (ldG (m.2.1 28 t) (nI nm) ns 0 0 m).1 = true := by
            by_cases y : (ldG (m.2.1 28 t) (nI nm) ns 0 0 m).1 = true
            · exact y
            · have z : (if (ldG (m.2.1 28 t) (nI nm) ns 0 0 m).1 = true then (0 : Int32) else 5) = 0 := z
              rw [if_neg y] at z
              exact absurd z (by decide)
          obtain ⟨h3, h4⟩ := (h2 y).2 i (by omega) (by omega)
          rw [← r4 i (by omega)] at h3 h4
          exact ⟨h4, (ld_wc b2).mp h3⟩
      · exact CS_no 3 (er.trans (if_neg c)) (ew.trans (if_pos (Int32.not_le.mp c))) (by decide) (by decide)
/-- what the search counted, and whom it came by first -/
def STo (M : MM) (b : Nat) : Option (Nat × Nat) → Prop
  | none => M.1 0 0 3 = 0 ∧ M.1 0 0 4 = -1 ∧ M.1 0 0 5 = -1
  | some q => (∃ n, 1 ≤ n ∧ n ≤ b ∧ M.1 0 0 3 = nI n) ∧ M.1 0 0 4 = nI q.1 ∧ M.1 0 0 5 = nI q.2
def foO (F : Option (Nat × Nat)) (o : Option (Nat × Nat)) : Option (Nat × Nat) := match F with | some q => some q | none => o
theorem fo_n (F : Option (Nat × Nat)) : foO F none = F := by cases F <;> rfl
theorem fo_a (F o o' : Option (Nat × Nat)) : foO (foO F o) o' = foO F (foO o o') := by cases F <;> rfl
theorem ST_n {M : MM} {b b' : Nat} {F : Option (Nat × Nat)} (h : STo M b F) (hb : b ≤ b') : STo M b' F := by
  cases F with
  | none => exact h
  | some q => exact ⟨h.1.imp (fun n z => ⟨z.1, by omega, z.2.2⟩), h.2⟩
theorem mI_3 (m : MM) (x : Int32) (i j : Nat) : (mI m 0 0 j x).1 0 0 i = if i = j then x else m.1 0 0 i := by
  by_cases c : i = j
  · rw [if_pos c, c]; exact upd_eq
  · rw [if_neg c]; exact upd_ne c
theorem ST_1 {M : MM} {b s d : Nat} {F : Option (Nat × Nat)} (h : STo M b F) (hb : b < 2 ^ 20) : STo (sb1 M s d) (b + 1) (foO F (some (s, d))) ∧ (sb1 M s d).1 0 0 3 = M.1 0 0 3 + 1 := by
  unfold sb1
  rw [mI_3, if_pos rfl]
  refine ⟨?_, rfl⟩
  cases F with
  | none =>
    obtain ⟨h1, h2, h3⟩ := h
    rw [if_pos h1]
    refine ⟨⟨1, by omega, by omega, ?_⟩, ?_, ?_⟩
    · rw [mI_3, if_pos rfl, h1]; rfl
    · rw [mI_3, if_neg (by decide), mI_3, if_neg (by decide), mI_3, if_pos rfl]
    · rw [mI_3, if_neg (by decide), mI_3, if_pos rfl]
  | some q =>
    obtain ⟨⟨n, h1, h2, h3⟩, h4, h5⟩ := h
    have z : ¬ M.1 0 0 3 = 0 := by
      rw [h3]
      intro z
      have := nI_inj (q := 0) (by omega) (by decide) z
      omega
    rw [if_neg z]
    refine ⟨⟨n + 1, by omega, by omega, ?_⟩, ?_, ?_⟩
    · rw [mI_3, if_pos rfl, h3]; exact nI_add n 1
    · rw [mI_3, if_neg (by decide)]; exact h4
    · rw [mI_3, if_neg (by decide)]; exact h5
def FR0 (m M : MM) : Prop := SM0 m M ∧ M.2 = m.2
theorem FR0_1 (m : MM) (s d : Nat) : FR0 m (sb1 m s d) := by
  refine ⟨SM0_1 (fun _ _ _ => rfl), ?_⟩
  unfold sb1
  split
  · rfl
  · rfl
theorem FR0_t {a b c : MM} (h : FR0 a b) (h' : FR0 b c) : FR0 a c := ⟨fun k g z => (h'.1 k g z).trans (h.1 k g z), h'.2.trans h.2⟩
theorem SI_ok {P : Nat → Nat → Prop} [∀ s d, Decidable (P s d)] {Q : Nat → Prop} [DecidablePred Q] {s nm : Nat} (hPQ : ∀ d, d < nm → (P s d ↔ Q d)) (c0 : Int32) : ∀ k d M b F, d + k = nm → STo M b F → M.1 0 0 3 = btI Q c0 d → b + k < 2 ^ 20 → STo (sbI P s k d M) (b + k) (foO F (match bfI Q k d with | some e => some (s, e) | none => none)) ∧ (sbI P s k d M).1 0 0 3 = btI Q c0 nm ∧ FR0 M (sbI P s k d M)
  | 0, d, M, b, F, e, h, hc, _ => by
    have : d = nm := by omega
    subst this
    refine ⟨?_, hc, fun _ _ _ => rfl, rfl⟩
    show STo M b (foO F none)
    rw [fo_n]; exact h
  | k + 1, d, M, b, F, e, h, hc, hb => by
    rw [sbI, bfI]
    by_cases c : P s d
    · have c' := (hPQ d (by omega)).mp c
      obtain ⟨g1, g2⟩ := ST_1 (s := s) (d := d) h (by omega)
      rw [if_pos c, if_pos c']
      obtain ⟨i1, i2, i3⟩ := SI_ok hPQ c0 k (d + 1) (sb1 M s d) (b + 1) _ (by omega) g1 (by rw [g2, hc, btI, if_pos c']) (by omega)
      refine ⟨?_, i2, FR0_t (FR0_1 M s d) i3⟩
      rw [fo_a] at i1
      exact ST_n i1 (by omega)
    · have c' : ¬ Q d := fun z => c ((hPQ d (by omega)).mpr z)
      rw [if_neg c, if_neg c']
      obtain ⟨i1, i2, i3⟩ := SI_ok hPQ c0 k (d + 1) M b F (by omega) h (by rw [hc, btI, if_neg c', Int32.add_zero]) (by omega)
      exact ⟨ST_n i1 (by omega), i2, i3⟩
theorem SO_ok {P : Nat → Nat → Prop} [∀ s d, Decidable (P s d)] {a : Nat → Int32} {T : Nat → Int64} {ns nm t : Nat} (hm : nm ≤ 4) (hPQ : ∀ s d, s < ns → d < nm → (P s d ↔ btP a T ns t s d)) : ∀ k s M b F, s + k = ns → STo M b F → M.1 0 0 3 = btO a T ns nm t s → b + 4 * k < 2 ^ 20 → STo (sbO P nm k s M) (b + 4 * k) (foO F (bfO a T ns nm t k s)) ∧ (sbO P nm k s M).1 0 0 3 = btO a T ns nm t ns ∧ FR0 M (sbO P nm k s M)
  | 0, s, M, b, F, e, h, hc, _ => by
    have : s = ns := by omega
    subst this
    refine ⟨?_, hc, fun _ _ _ => rfl, rfl⟩
    show STo M b (foO F none)
    rw [fo_n]; exact h
  | k + 1, s, M, b, F, e, h, hc, hb => by
    rw [sbO, bfO]
    obtain ⟨g1, g2, g3⟩ := SI_ok (P := P) (Q := btP a T ns t s) (fun d hd => hPQ s d (by omega) hd) (btO a T ns nm t s) nm 0 M b F (by omega) h (by rw [hc]; rfl) (by omega)
    obtain ⟨i1, i2, i3⟩ := SO_ok hm hPQ k (s + 1) (sbI P s nm 0 M) (b + nm) _ (by omega) g1 g2 (by omega)
    refine ⟨?_, i2, FR0_t g3 i3⟩
    rw [fo_a] at i1
    have i1 := ST_n (b' := b + 4 * (k + 1)) i1 (by omega)
    revert i1
    cases bfI (btP a T ns t s) nm 0 with
    | none => exact id
    | some e => exact id
theorem AG_hrF {a b : Nat → Int32} {ns nm nt : Nat} (h : AG a b ns nm nt) (hV : VA a ns nm nt) (T : Nat → Int64) (t : Nat) {d : Nat} (hd : d < 4) : ∀ n, hrF a T t d n = hrF b T t d n
  | 0 => rfl
  | n + 1 => by
    rw [hrF, hrF, AG_hrF h hV T t hd n, AG_hdA h hV _ hd]
theorem AG_btP {a b : Nat → Int32} {ns nm nt t s d : Nat} {T : Nat → Int64} (h : AG a b ns nm nt) (hV : VA a ns nm nt) (hs : s < 4) (hd : d < 4) (hT : (T (60 * t + s)).toInt32 = -1 ∨ ∃ k, k < 4 ∧ (T (60 * t + s)).toInt32 = nI k) : btP a T ns t s d ↔ btP b T ns t s d := by
  unfold btP
  rw [AG_l h hs hd, AG_hdA h hV _ hd, AG_hrF h hV T t hd]
  have e : hisF a T t s = hisF b T t s := by
    unfold hisF
    rcases hT with z | ⟨k, hk, z⟩
    · rw [if_pos z, if_pos z]
    · rw [z, if_neg (nI_n1 (by omega)), if_neg (nI_n1 (by omega)), nI_clamp (by omega), AG_l h hs hk]
  rw [e]
theorem bfI_in {Q : Nat → Prop} [DecidablePred Q] : ∀ k j e, bfI Q k j = some e → e < j + k
  | 0, _, _, h => absurd h (by simp [bfI])
  | k + 1, j, e, h => by
    rw [bfI] at h
    split at h
    · have := Option.some.inj h; omega
    · have := bfI_in k (j + 1) e h; omega
theorem bfO_in {a : Nat → Int32} {T : Nat → Int64} {ns nm t : Nat} : ∀ k s q, bfO a T ns nm t k s = some q → q.1 < s + k ∧ q.2 < nm
  | 0, _, _, h => absurd h (by simp [bfO])
  | k + 1, s, q, h => by
    rw [bfO] at h
    split at h
    · rename_i d hd
      have := Option.some.inj h
      have z := bfI_in _ _ _ hd
      subst this
      exact ⟨by show s < _; omega, by show d < _; omega⟩
    · have := bfO_in k (s + 1) q h
      omega
/-- the couples loaded, the bolters sought -/
theorem SB_ok {m : MM} (h : RST m) {x : Int32} (h0 : (cl_cs m x).1 = 0) : KP m (sbM (cl_cs m x).2 ((cl_cs m x).2.2.2 0)) ∧ MCo m (sbM (cl_cs m x).2 ((cl_cs m x).2.2.2 0)) ∧ wcR m x = 0 ∧ STo (sbM (cl_cs m x).2 ((cl_cs m x).2.2.2 0)) 16 (bfO (m.1 54 0) (m.2.1 58 0) (m.1 54 0 0).toNatClampNeg (m.1 54 0 1).toNatClampNeg x.toNatClampNeg (m.1 54 0 0).toNatClampNeg 0) ∧ (sbM (cl_cs m x).2 ((cl_cs m x).2.2.2 0)).1 0 0 3 = btO (m.1 54 0) (m.2.1 58 0) (m.1 54 0 0).toNatClampNeg (m.1 54 0 1).toNatClampNeg x.toNatClampNeg (m.1 54 0 0).toNatClampNeg := by
  obtain ⟨ns, nm, nt, hG, c13, c14, c15, a0, a1, a2, b1, b2, b3⟩ := NOW h
  obtain ⟨s1, s2, -, s4⟩ := CS_ok h x
  obtain ⟨t, ht, ex, s5⟩ := s4 h0
  have s6 := s5 ns nm a0 a1 b1 b2
  revert s1 s2 s6
  generalize (cl_cs m x) = P at *
  obtain ⟨v, C⟩ := P
  intro s1 s2 s6
  have s1 : SM13 m C := s1
  have s6 : ∀ i, i < ns → C.1 13 0 i = (m.2.1 58 0 (60 * t + i)).toInt32 ∧ wcP (m.2.1 58 0 (60 * t + i)) (nI nm).toInt64 := s6
  have h0 : v = 0 := h0
  show KP m (sbM C (C.2.2 0)) ∧ MCo m (sbM C (C.2.2 0)) ∧ wcR m x = 0 ∧ STo (sbM C (C.2.2 0)) 16 _ ∧ (sbM C (C.2.2 0)).1 0 0 3 = _
  rw [a0, a1, ex, nI_clamp (by omega), nI_clamp (by omega), nI_clamp (by omega), ← ex, s1.2]
  have eA : abV C (m.2.2 0) = abV m (m.2.2 0) := abV_d (fun k hk => s1.1 k _ (by omega))
  have e6 : C.1 6 (m.2.2 0) = m.1 6 (m.2.2 0) := s1.1 6 _ (by decide)
  have eM : sbM C (m.2.2 0) = sbO (fun s d => boP (abV m (m.2.2 0)) (C.1 13 0) ns s d) nm ns 0 (sb0 C) := by
    unfold sbM
    rw [eA, e6, c13, c14, nI_clamp (by omega), nI_clamp (by omega)]
  have hV := hG.1.1
  have hL : LKo (abV m (m.2.2 0)) := fun s d hs hd => by rw [AG_l hG.2.1 hs hd]; exact hG.2.2.1.2.2.2.2.1 s d hs hd
  have hB : BO (abV m (m.2.2 0)) ns nm nt := AG_BO (AG_sy hG.2.1) hG.2.2.1.2.1
  have hPQ : ∀ s d, s < ns → d < nm → (boP (abV m (m.2.2 0)) (C.1 13 0) ns s d ↔ btP (m.1 54 0) (m.2.1 58 0) ns t s d) := fun s d hs hd => (bo_bt hV hB hL hs hd (fun i hi => (s6 i hi).1) (fun i hi => (s6 i hi).2)).trans (AG_btP hG.2.1 hV (by omega) (by omega) ((wcP_in b2 (s6 s hs).2).imp id (fun ⟨k, hk, z⟩ => ⟨k, by omega, z⟩)))
  have z0 : STo (sb0 C) 0 none := by
    unfold sb0
    refine ⟨?_, ?_, ?_⟩
    · rw [mI_3, if_neg (by decide), mI_3, if_neg (by decide), mI_3, if_pos rfl]
    · rw [mI_3, if_neg (by decide), mI_3, if_pos rfl]
    · rw [mI_3, if_pos rfl]
  obtain ⟨g1, g2, g3⟩ := SO_ok (P := fun s d => boP (abV m (m.2.2 0)) (C.1 13 0) ns s d) b2 hPQ ns 0 (sb0 C) 0 none (by omega) z0 (by rw [z0.1]; rfl) (by omega)
  have f0 : FR0 C (sb0 C) := ⟨SM0_i (SM0_i (SM0_i (fun _ _ _ => rfl))), rfl⟩
  have ff := FR0_t f0 g3
  rw [eM]
  obtain ⟨k1, k2⟩ := KP_k (m := m) (C := sbO (fun s d => boP (abV m (m.2.2 0)) (C.1 13 0) ns s d) nm ns 0 (sb0 C)) (fun k j z0 _ _ z13 _ _ _ _ => (ff.1 k j z0).trans (s1.1 k j z13)) (ff.2.trans s1.2)
  exact ⟨k1, k2, s2.trans h0, ST_n g1 (by omega), g2⟩
theorem OK_s0 {m C : MM} (h : RST m) (hk : KP m C) (hm : MCo m C) {v w : Int32} (hv : v = w) {fm : MM → Option MV × MM} (hf : ∀ X, fm (stC C X) = gvM (stC C X) w) : OKo m (gvC C v) fm := OK_s h hk hm hv (KS_r _) (hf 0)
theorem OK_sr0 {m C : MM} (h : RST m) (hk : KP m C) (hm : MCo m C) {x : Int32} {fm : MM → Option MV × MM} (hf : ∀ X, fm (stC C X) = rfM (stC C X) x) : OKo m (rfC C x) fm := OK_sr h hk hm (KS_r _) (hf x)
theorem wcR_c {m M : MM} (e54 : M.1 54 0 = m.1 54 0) (e57 : M.1 57 0 = m.1 57 0) (e58 : M.2.1 58 0 = m.2.1 58 0) (x : Int32) : wcR M x = wcR m x := by
  unfold wcR
  rw [e54, e57, e58]
theorem MC_wc {m M : MM} (h : MCo m M) (x : Int32) : wcR M x = wcR m x ∧ M.1 54 0 = m.1 54 0 ∧ M.2.1 58 0 = m.2.1 58 0 := ⟨wcR_c (h.1 54 0 (by omega)) (h.1 57 0 (by omega)) (h.2 58 0 (by omega)) x, h.1 54 0 (by omega), h.2 58 0 (by omega)⟩
theorem MC_13 {m C : MM} (h : SM13 m C) : KP m C ∧ MCo m C := KP_k (fun k j _ _ _ z13 _ _ _ _ => h.1 k j z13) h.2
theorem OK_bolts {m : MM} (h : RST m) (x : Int32) : OKo m (cl_bolts m x) (fun m1 => Fn_X12_bolts m1 [vR 12 0, vI x]) := by
  unfold cl_bolts
  by_cases c : (cl_cs m x).1 = 0
  · rw [if_pos c]
    obtain ⟨k1, k2, k3, -, k5⟩ := SB_ok h c
    refine OK_s0 h k1 k2 k5 (fun X => ?_)
    obtain ⟨w1, w2, w3⟩ := MC_wc (MC_t k2 (MC_C (x := X))) x
    show (if wcR _ x ≤ 0 then gvM _ (btO _ _ _ _ _ _) else rfM _ _) = _
    rw [w1, w2, w3, k3, if_pos (by decide)]
  · rw [if_neg c]
    obtain ⟨s1, s2, s3, -⟩ := CS_ok h x
    obtain ⟨k1, k2⟩ := MC_13 s1
    refine OK_sr0 h k1 k2 (fun X => ?_)
    obtain ⟨w1, w2, w3⟩ := MC_wc (MC_t k2 (MC_C (x := X))) x
    show (if wcR _ x ≤ 0 then gvM _ (btO _ _ _ _ _ _) else rfM _ (wcR _ x)) = _
    rw [w1, s2, if_neg (s3.resolve_left c)]
theorem OK_bolter {m : MM} (h : RST m) (x w : Int32) : OKo m (cl_bolter m x w) (fun m1 => Fn_X12_bolter m1 [vR 12 0, vI x, vI w]) := by
  unfold cl_bolter
  by_cases a1 : w < 0
  · rw [if_pos a1]
    exact OK_0 h (fun _ => if_neg (fun z => z.1 a1))
  · rw [if_neg a1]
    by_cases a2 : w ≤ 1
    · rw [if_pos a2]
      by_cases c : (cl_cs m x).1 = 0
      · rw [if_pos c]
        obtain ⟨k1, k2, k3, k4, -⟩ := SB_ok h c
        unfold cl_br1 onC
        revert k1 k2 k4
        generalize sbM (cl_cs m x).2 ((cl_cs m x).2.2.2 0) = C
        intro k1 k2 k4
        have hf : ∀ X, Fn_X12_bolter (stC C X) [vR 12 0, vI x, vI w] = bfR (stC C X) w (bfO (m.1 54 0) (m.2.1 58 0) (m.1 54 0 0).toNatClampNeg (m.1 54 0 1).toNatClampNeg x.toNatClampNeg (m.1 54 0 0).toNatClampNeg 0) := by
          intro X
          obtain ⟨w1, w2, w3⟩ := MC_wc (MC_t k2 (MC_C (x := X))) x
          show (if ¬ w < 0 ∧ w ≤ 1 then (if wcR (stC C X) x ≤ 0 then bfR (stC C X) w (bfO _ _ _ _ _ _ _) else rfM _ _) else rfM _ _) = _
          rw [if_pos ⟨a1, a2⟩, w1, w2, w3, k3, if_pos (by decide)]
        revert k4 hf
        generalize hF : bfO (m.1 54 0) (m.2.1 58 0) (m.1 54 0 0).toNatClampNeg (m.1 54 0 1).toNatClampNeg x.toNatClampNeg (m.1 54 0 0).toNatClampNeg 0 = F
        intro k4 hf
        cases F with
        | none =>
          obtain ⟨-, k4, k5⟩ := k4
          rw [k4, k5, ite_self, if_pos (show (-1 : Int32) < 0 by decide), if_pos (show (-1 : Int32) < 0 by decide)]
          exact OK_sr0 h k1 k2 hf
        | some q =>
          obtain ⟨-, k4, k5⟩ := k4
          rw [k4, k5]
          have hn : ¬ (if w = 0 then nI q.1 else nI q.2) < 0 := by
            obtain ⟨ns, nm, nt, hG, c13, c14, c15, a0, a1, a2, b1, b2, b3⟩ := NOW h
            have z := bfO_in _ _ _ hF
            rw [a0, a1, nI_clamp (by omega), nI_clamp (by omega)] at z
            split
            · exact n_m1 (by omega)
            · exact n_m1 (by omega)
          rw [if_neg hn, if_neg hn]
          exact OK_s0 h k1 k2 rfl hf
      · rw [if_neg c]
        obtain ⟨s1, s2, s3, -⟩ := CS_ok h x
        obtain ⟨k1, k2⟩ := MC_13 s1
        refine OK_sr0 h k1 k2 (fun X => ?_)
        obtain ⟨w1, w2, w3⟩ := MC_wc (MC_t k2 (MC_C (x := X))) x
        show (if ¬ w < 0 ∧ w ≤ 1 then (if wcR _ x ≤ 0 then bfR _ w (bfO _ _ _ _ _ _ _) else rfM _ (wcR _ x)) else rfM _ _) = _
        rw [if_pos ⟨a1, a2⟩, w1, s2, if_neg (s3.resolve_left c)]
    · rw [if_neg a2]
      exact OK_0 h (fun _ => if_neg (fun z => a2 z.2))

end
