/-! PART 9S: who keeps whom: the class's rounds and the model's one by one -/

noncomputable section
theorem dm_ask (a : Nat → Int32) (N : Int32) (s : Nat) : ∀ d, dmA a N s d = askF a N s d
  | 0 => rfl
  | d + 1 => by
    rw [dmA, askF, dm_ask a N s d]
    refine ite_iff ?_ _ _
    rw [Int32.not_le]
/-- where nobody is refused any more -/
theorem CF_of {a : Nat → Int32} {ns nm : Nat} {N : Nat → Nat} (h : GS a ns nm N) (hu : ∀ s o m, s < ns → o < ns → BS a nm (N s) s m → BS a nm (N o) o m → s = o) : CF a ns nm N := ⟨h.1, h.2.2.1, hu⟩
/-- agreeing valleys -/
theorem AG_ask {a b : Nat → Int32} {ns nm nt : Nat} (h : AG a b ns nm nt) (r : Int32) {s : Nat} (hs : s < 4) : ∀ t, t ≤ 4 → askF a r s t = askF b r s t
  | 0, _ => rfl
  | t + 1, ht => by
    rw [askF, askF, AG_ask h r hs t (by omega)]
    refine ite_iff (and_congr Iff.rfl (or_congr Iff.rfl ?_)) _ _
    rw [AG_l h hs (show t < 4 by omega)]
    rcases askF_in b r s t with e | ⟨o, ho, e, -⟩
    · rw [e, show (-1 : Int32).toNatClampNeg = 0 by decide, AG_l h hs (show 0 < 4 by decide)]
    · rw [e, nI_clamp (by omega), AG_l h hs (show o < 4 by omega)]
theorem AG_BS {a b : Nat → Int32} {ns nm nt : Nat} (h : AG a b ns nm nt) (hm : nm ≤ 4) {s n m : Nat} (hs : s < 4) : BS a nm n s m ↔ BS b nm n s m := by
  unfold BS
  rw [AG_ask h _ hs nm hm]
theorem AG_pfP {a b : Nat → Int32} {ns nm nt : Nat} (h : AG a b ns nm nt) (hV : VA a ns nm nt) {d s o : Nat} (hd : d < 4) (hs : s < ns) (ho : o < ns) : pfP a d s o ↔ pfP b d s o := by
  unfold pfP
  rw [AG_hdA h hV _ hd, AG_hdA h hV _ hd, (AG_s h hs).1, (AG_s h ho).1]
theorem AG_JF {a b : Nat → Int32} {ns nm nt : Nat} (h : AG a b ns nm nt) (hV : VA a ns nm nt) {N : Nat → Nat} (hJ : JF a ns nm N) : JF b ns nm N := fun s m hs hm hb => by
  have n4 := hV.1.2
  have m4 := hV.2.1.2
  obtain ⟨o, ho, h1, h2⟩ := hJ s m hs hm hb
  exact ⟨o, ho, (AG_BS h m4 (by omega)).mp h1, (AG_pfP h hV (by omega) ho hs).mp h2⟩
theorem AG_CF {a b : Nat → Int32} {ns nm nt : Nat} (h : AG a b ns nm nt) (hV : VA a ns nm nt) {N : Nat → Nat} (hC : CF a ns nm N) : CF b ns nm N := by
  have n4 := hV.1.2
  have m4 := hV.2.1.2
  exact ⟨hC.1, AG_JF h hV hC.2.1, fun s o m hs ho h1 h2 => hC.2.2 s o m hs ho ((AG_BS h m4 (by omega)).mpr h1) ((AG_BS h m4 (by omega)).mpr h2)⟩
theorem AG_GS {a b : Nat → Int32} {ns nm nt : Nat} (h : AG a b ns nm nt) (hV : VA a ns nm nt) {N : Nat → Nat} (hG : GS a ns nm N) : GS b ns nm N := ⟨hG.1, hG.2.1, AG_JF h hV hG.2.2.1, fun N' hC => hG.2.2.2 N' (AG_CF (AG_sy h) (AG_VA h hV) hC)⟩
/-- what the class holds while they ask -/
def NSo (m : MM) (N : Nat → Nat) : Prop := (∀ s, s < 4 → m.1 14 0 s = nI (N s)) ∧ m.1 0 0 6 = nI (sum4 N)
theorem dmL_at (a : Nat → Int32) (nm : Nat) : ∀ k s m, (∀ j, s ≤ j → j < s + k → (dmL a nm k s m).1 15 0 j = dmA a (m.1 14 0 j) j nm) ∧ (∀ j, j < s → (dmL a nm k s m).1 15 0 j = m.1 15 0 j) ∧ (dmL a nm k s m).1 14 0 = m.1 14 0 ∧ (dmL a nm k s m).1 0 0 = m.1 0 0
  | 0, s, m => ⟨fun j h1 h2 => absurd h2 (by omega), fun _ _ => rfl, rfl, rfl⟩
  | k + 1, s, m => by
    rw [dmL]
    obtain ⟨h1, h2, h3, h4⟩ := dmL_at a nm k (s + 1) (mRow m 15 0 (upd (m.1 15 0) s (dmA a (m.1 14 0 s) s nm)))
    refine ⟨fun j hj hj2 => ?_, fun j hj => ?_, h3.trans rfl, h4.trans rfl⟩
    · by_cases c : j = s
      · rw [c, h2 s (by omega)]
        exact upd_eq
      · rw [h1 j (by omega) (by omega)]
        rfl
    · rw [h2 j (by omega)]
      exact upd_ne (by omega)
/-- the best of those who ask one -/
theorem roB_ok {a Q : Nat → Int32} {ns nm nt : Nat} (hV : VA a ns nm nt) (hB : BO a ns nm nt) {d : Nat} (hd : d < 4) : ∀ t, t ≤ ns → (roB a Q d t = -1 ∧ ∀ s, s < t → ¬ Q s = nI d) ∨ ∃ b, b < t ∧ roB a Q d t = nI b ∧ Q b = nI d ∧ ∀ s, s < t → Q s = nI d → s = b ∨ pfP a d b s
  | 0, _ => Or.inl ⟨rfl, fun s h => absurd h (by omega)⟩
  | t + 1, ht => by
    have n4 := hV.1.2
    rw [roB]
    rcases roB_ok hV hB hd t (by omega) with ⟨e, h⟩ | ⟨b, hb, e, hq, h⟩
    · by_cases c : Q t = nI d
      · rw [if_pos ⟨c, Or.inl e⟩]
        refine Or.inr ⟨t, by omega, rfl, c, fun s hs hsq => ?_⟩
        by_cases c2 : s = t
        · exact Or.inl c2
        · exact absurd hsq (h s (by omega))
      · rw [if_neg (fun z => c z.1)]
        refine Or.inl ⟨e, fun s hs => ?_⟩
        by_cases c2 : s = t
        · rw [c2]; exact c
        · exact h s (by omega)
    · have eb : (roB a Q d t).toNatClampNeg = b := by rw [e, nI_clamp (by omega)]
      rw [eb]
      by_cases c : Q t = nI d
      · by_cases c2 : ahP a d t b
        · have pt := (pf_ah hV hB hd (show t < ns by omega) (show b < ns by omega)).mpr c2
          rw [if_pos ⟨c, Or.inr c2⟩]
          refine Or.inr ⟨t, by omega, rfl, c, fun s hs hsq => ?_⟩
          by_cases c3 : s = t
          · exact Or.inl c3
          · rcases h s (by omega) hsq with z | z
            · rw [z]; exact Or.inr pt
            · exact Or.inr (pf_tr hV hB hd (by omega) (by omega) (by omega) pt z)
        · have pt := pf_to hV hB hd (show t < ns by omega) (show b < ns by omega) (by omega) (fun z => c2 ((pf_ah hV hB hd (show t < ns by omega) (show b < ns by omega)).mp z))
          rw [if_neg (fun z => z.2.elim (fun y => nI_n1 (by omega) (e.symm.trans y)) c2)]
          refine Or.inr ⟨b, by omega, e, hq, fun s hs hsq => ?_⟩
          by_cases c3 : s = t
          · rw [c3]; exact Or.inr pt
          · exact h s (by omega) hsq
      · rw [if_neg (fun z => c z.1)]
        refine Or.inr ⟨b, by omega, e, hq, fun s hs hsq => ?_⟩
        by_cases c3 : s = t
        · rw [c3] at hsq; exact absurd hsq c
        · exact h s (by omega) hsq
/-- one maid's refusals, from a suitor on -/
def INo (a : Nat → Int32) (ns nm : Nat) (Q : Nat → Int32) (N0 N1 : Nat → Nat) (d s : Nat) (b : Int32) (p : PR) (N : Nat → Nat) : Prop := NSo p.2 N ∧ p.2.1 15 0 = Q ∧ GS a ns nm N ∧ (∀ t e, t < ns → e < nm → Q t = nI e → (d < e ∨ (e = d ∧ (s ≤ t ∨ nI t = b))) → N t = N0 t) ∧ sum4 N1 ≤ sum4 N ∧ (p.1 = true → sum4 N1 < sum4 N) ∧ (p.1 = false → N = N1 ∧ ∀ t, t < s → t < ns → Q t = nI d → nI t = b)
theorem ro1_NS {m : MM} {N : Nat → Nat} {s d : Nat} (h : NSo m N) (hN : ∀ s, s < 4 → N s < 16) (hs : s < 4) (hd : d < 4) (hb : (N s).testBit d = false) : NSo (ro1 m s d) (adN N s d) := by
  refine ⟨fun t ht => ?_, ?_⟩
  · show upd (m.1 14 0) s (m.1 14 0 s ||| 1 <<< (nI d &&& 31)) t = _
    by_cases c : t = s
    · rw [c, upd_eq, adN_e, h.1 s hs, or_bit (by omega)]
    · rw [upd_ne c, adN_n c, h.1 t ht]
  · show m.1 0 0 6 + 1 = _
    rw [h.2, nI_1, sum4_ad hN hs hd hb]
theorem IN_loop {a Q : Nat → Int32} {ns nm nt : Nat} (hV : VA a ns nm nt) (hB : BO a ns nm nt) (hL : LKo a) {N0 N1 : Nat → Nat} {d : Nat} (hd : d < nm) (hQ : ∀ s, s < ns → Q s = askF a (nI (N0 s)) s nm) : ∀ k s p N, s + k = ns → INo a ns nm Q N0 N1 d s (roB a Q d ns) p N → ∃ N', INo a ns nm Q N0 N1 d ns (roB a Q d ns) (roL Q (roB a Q d ns) d k s p) N'
  | 0, s, p, N, hk, h => ⟨N, by have e : s = ns := by omega
                                rw [e] at h; exact h⟩
  | k + 1, s, p, N, hk, h => by
    have n4 := hV.1.2
    have m4 := hV.2.1.2
    rw [roL]
    obtain ⟨h1, h2, h3, h4, h5, h6, h7⟩ := h
    by_cases c : Q s = nI d ∧ ¬ nI s = roB a Q d ns
    · rw [if_pos c]
      rcases roB_ok (Q := Q) hV hB (show d < 4 by omega) ns (Nat.le_refl _) with ⟨e, z⟩ | ⟨b, hb, e, hq, z⟩
      · exact absurd c.1 (z s (by omega))
      · have hne : s ≠ b := fun y => c.2 (by rw [y, e])
        have hp : pfP a d b s := (z s (by omega) c.1).resolve_left hne
        have eN : N s = N0 s := h4 s d (by omega) hd c.1 (Or.inr ⟨rfl, Or.inl (Nat.le_refl _)⟩)
        have eB : N b = N0 b := h4 b d hb hd hq (Or.inr ⟨rfl, Or.inr e.symm⟩)
        have b1 : BS a nm (N s) s d := ⟨hd, by rw [eN, ← hQ s (by omega)]; exact c.1⟩
        have b2 : BS a nm (N b) b d := ⟨hd, by rw [eB, ← hQ b hb]; exact hq⟩
        obtain ⟨g1, g2⟩ := GS_step hV hB hL h3 (show s < ns by omega) hb hne b1 b2 hp
        have es := sum4_ad h3.1 (show s < 4 by omega) (show d < 4 by omega) g2
        refine IN_loop hV hB hL hd hQ k (s + 1) _ (adN N s d) (by omega) ⟨ro1_NS h1 h3.1 (by omega) (by omega) g2, h2, g1, fun t e' ht he hqt hc => ?_, by omega, fun _ => by omega, fun y => Bool.noConfusion y⟩
        have hts : t ≠ s := fun y => by
          rw [y] at hqt hc
          have ee : e' = d := nI_inj (by omega) (by omega) (hqt.symm.trans c.1)
          rcases hc with x | ⟨-, x | x⟩
          · omega
          · omega
          · exact c.2 x
        rw [adN_n hts]
        exact h4 t e' ht he hqt (hc.imp id (fun x => ⟨x.1, x.2.imp (fun y => by omega) id⟩))
    · rw [if_neg c]
      refine IN_loop hV hB hL hd hQ k (s + 1) p N (by omega) ⟨h1, h2, h3, fun t e' ht he hqt hc => h4 t e' ht he hqt (hc.imp id (fun x => ⟨x.1, x.2.imp (fun y => by omega) id⟩)), h5, h6, fun y => ⟨(h7 y).1, fun t ht1 ht2 hqt => ?_⟩⟩
      by_cases c2 : t = s
      · rw [c2] at hqt ⊢
        exact Decidable.byContradiction (fun x => c ⟨hqt, x⟩)
      · exact (h7 y).2 t (by omega) ht2 hqt
/-- a round -/
def OUo (a : Nat → Int32) (ns nm : Nat) (Q : Nat → Int32) (N0 : Nat → Nat) (d : Nat) (p : PR) (N : Nat → Nat) : Prop := NSo p.2 N ∧ p.2.1 15 0 = Q ∧ GS a ns nm N ∧ (∀ t e, t < ns → e < nm → Q t = nI e → d ≤ e → N t = N0 t) ∧ sum4 N0 ≤ sum4 N ∧ (p.1 = true → sum4 N0 < sum4 N) ∧ (p.1 = false → N = N0 ∧ ∀ t u e, t < ns → u < ns → e < d → Q t = nI e → Q u = nI e → t = u)
theorem OU_loop {a Q : Nat → Int32} {ns nm nt : Nat} (hV : VA a ns nm nt) (hB : BO a ns nm nt) (hL : LKo a) {N0 : Nat → Nat} (hQ : ∀ s, s < ns → Q s = askF a (nI (N0 s)) s nm) : ∀ k d p N, d + k = nm → OUo a ns nm Q N0 d p N → ∃ N', OUo a ns nm Q N0 nm (rsL a ns k d p) N'
  | 0, d, p, N, hk, h => ⟨N, by have e : d = nm := by omega
                                rw [e] at h; exact h⟩
  | k + 1, d, p, N, hk, h => by
    have n4 := hV.1.2
    have m4 := hV.2.1.2
    obtain ⟨h1, h2, h3, h4, h5, h6, h7⟩ := h
    have hI : INo a ns nm Q N0 N d 0 (roB a Q d ns) (false, p.2) N := ⟨h1, h2, h3, fun t e ht he hq hc => h4 t e ht he hq (by rcases hc with z | ⟨z, -⟩ <;> omega), Nat.le_refl _, fun y => Bool.noConfusion y, fun _ => ⟨rfl, fun t ht => absurd ht (by omega)⟩⟩
    obtain ⟨N', i1, i2, i3, i4, i5, i6, i7⟩ := IN_loop hV hB hL (show d < nm by omega) hQ ns 0 (false, p.2) N (by omega) hI
    rw [rsL]
    have eF : roF a ns p.2 d = roL Q (roB a Q d ns) d ns 0 (false, p.2) := by unfold roF; rw [h2]
    rw [eF]
    revert i1 i2 i6 i7
    generalize roL Q (roB a Q d ns) d ns 0 (false, p.2) = q
    intro i1 i2 i6 i7
    refine OU_loop hV hB hL hQ k (d + 1) _ N' (by omega) ⟨i1, i2, i3, fun t e ht he hq hde => i4 t e ht he hq (Or.inl (by omega)), by omega, fun y => ?_, fun y => ?_⟩
    · rcases (Bool.or_eq_true _ _).mp y with z | z
      · have := h6 z; omega
      · have := i6 z; omega
    · obtain ⟨y1, y2⟩ := Bool.or_eq_false_iff.mp y
      obtain ⟨z1, z2⟩ := h7 y1
      obtain ⟨x1, x2⟩ := i7 y2
      refine ⟨x1.trans z1, fun t u e ht hu he ht2 hu2 => ?_⟩
      by_cases c : e = d
      · rw [c] at ht2 hu2
        exact nI_inj (by omega) (by omega) ((x2 t ht ht ht2).trans (x2 u hu hu hu2).symm)
      · exact z2 t u e ht hu (by omega) ht2 hu2
theorem OU_end {a : Nat → Int32} {ns nm nt : Nat} (hV : VA a ns nm nt) (hB : BO a ns nm nt) (hL : LKo a) : ∀ f m N, NSo m N → GS a ns nm N → 17 ≤ sum4 N + f → ∃ N', NSo (akL a ns nm f m) N' ∧ GS a ns nm N' ∧ CF a ns nm N' ∧ ∀ s, s < ns → (akL a ns nm f m).1 15 0 s = askF a (nI (N' s)) s nm
  | 0, m, N, h1, h2, h3 => by
    have := sum4_le h2.1
    omega
  | f + 1, m, N, h1, h2, h3 => by
    have n4 := hV.1.2
    have m4 := hV.2.1.2
    rw [akL]
    obtain ⟨d1, -, d3, d4⟩ := dmL_at a nm ns 0 m
    revert d1 d3 d4
    generalize dmL a nm ns 0 m = D
    intro d1 d3 d4
    have hD : NSo D N := ⟨fun s hs => by rw [d3]; exact h1.1 s hs, by rw [d4]; exact h1.2⟩
    have hQ : ∀ s, s < ns → D.1 15 0 s = askF a (nI (N s)) s nm := fun s hs => by
      rw [d1 s (by omega) (by omega), dm_ask, h1.1 s (by omega)]
    obtain ⟨N', i1, i2, i3, i4, i5, i6, i7⟩ := OU_loop (Q := D.1 15 0) hV hB hL hQ nm 0 (false, D) N (by omega) ⟨hD, rfl, h2, fun _ _ _ _ _ _ => rfl, Nat.le_refl _, fun y => Bool.noConfusion y, fun _ => ⟨rfl, fun t u e _ _ he => absurd he (by omega)⟩⟩
    revert i1 i2 i6 i7
    generalize rsL a ns nm 0 (false, D) = p
    intro i1 i2 i6 i7
    by_cases c : p.1 = true
    · rw [if_pos c]
      have := i6 c
      exact OU_end hV hB hL f p.2 N' i1 i3 (by omega)
    · rw [if_neg c]
      obtain ⟨e, hu⟩ := i7 (by cases x : p.1 with
        | false => rfl
        | true => exact absurd x c)
      rw [e] at i1 i3
      refine ⟨N, i1, i3, CF_of i3 (fun s o x hs ho b1 b2 => hu s o x hs ho b1.1 ?_ ?_), fun s hs => by rw [i2]; exact hQ s hs⟩
      · rw [hQ s hs]; exact b1.2
      · rw [hQ o ho]; exact b2.2
theorem ak_cl {m : MM} {v ns nm nt : Nat} (hV : VC2 m v ns nm nt) (hB : BO (abV m v) ns nm nt) (hL : LKo (abV m v)) : ∃ N, (akM m v).1 0 0 6 = nI (sum4 N) ∧ GS (abV m v) ns nm N ∧ CF (abV m v) ns nm N ∧ ∀ s, s < ns → (akM m v).1 15 0 s = askF (abV m v) (nI (N s)) s nm := by
  have n4 := hV.1.1.2
  have m4 := hV.1.2.1.2
  have e13 : m.1 6 v 13 = nI ns := hV.1.1.1
  have e14 : m.1 6 v 14 = nI nm := hV.1.2.1.1
  unfold akM
  rw [e13, e14, nI_clamp (by omega), nI_clamp (by omega)]
  obtain ⟨N, h1, h2, h3, h4⟩ := OU_end hV.1 hB hL 17 (ak0 m) (fun _ => 0) ⟨fun s hs => if_pos (show s < alen 14 from hs), rfl⟩ (GS_0 _ _ _) (by omega)
  exact ⟨N, h1.2, h2, h3, h4⟩
/-- what the model holds while they ask -/
def MOo (a : Nat → Int32) (ns nm : Nat) (q : AS) (N : Nat → Nat) : Prop := (∀ s, s < 4 → q.2.1 s = nI (N s)) ∧ q.2.2 = nI (sum4 N) ∧ GS a ns nm N ∧ ∀ m, m < nm → q.1 m = -1 ∨ ∃ o, o < ns ∧ q.1 m = nI o ∧ BS a nm (N o) o m
theorem kp_no {K : Nat → Int32} {nm : Nat} {s : Int32} (h : ¬ kpP K nm s) : ∀ m, m < nm → ¬ K m = s := Classical.byContradiction h
theorem MO_step {a : Nat → Int32} {ns nm nt : Nat} (hV : VA a ns nm nt) (hB : BO a ns nm nt) (hL : LKo a) {q : AS} {N : Nat → Nat} (h : MOo a ns nm q N) {s : Nat} (hs : s < ns) : ∃ N', MOo a ns nm (stS a nm s q).2 N' := by
  have n4 := hV.1.2
  have m4 := hV.2.1.2
  unfold stS
  by_cases c : stA a nm s q = -1
  · rw [if_pos c]
    exact ⟨N, h⟩
  · rw [if_neg c]
    obtain ⟨h1, h2, h3, h4⟩ := h
    have hk : ¬ kpP q.1 nm (nI s) := fun z => c (if_pos z)
    have eA : stA a nm s q = askF a (nI (N s)) s nm := (if_neg hk).trans (by rw [h1 s (by omega)])
    rcases BS_no hL (show s < 4 by omega) m4 (h3.1 s (by omega)) with z | ⟨m, hm⟩
    · exact absurd (eA.trans z) c
    · have hmn := hm.1
      rw [eA, hm.2, nI_clamp (by omega)]
      have hsk := kp_no hk
      have e16 := h3.1 s (by omega)
      show ∃ N', MOo a ns nm (stQ q s m (stO a q s m)) N'
      rcases h4 m hmn with e | ⟨o, ho, e, hob⟩
      · have eO : stO a q s m = -1 := (if_pos (Or.inl e)).trans e
        unfold stQ
        rw [eO, if_pos rfl]
        refine ⟨N, h1, h2, h3, fun k hk2 => ?_⟩
        show upd q.1 m (nI s) k = -1 ∨ _
        by_cases c2 : k = m
        · rw [c2]
          exact Or.inr ⟨s, hs, upd_eq, hm⟩
        · rw [upd_ne c2]
          exact (h4 k hk2).imp id (fun ⟨u, z1, z2, z3⟩ => ⟨u, z1, (upd_ne c2).trans z2, z3⟩)
      · have hso : s ≠ o := fun z => hsk m hmn (by rw [e, z])
        have hn1 : ¬ q.1 m = -1 := by rw [e]; exact nI_n1 (by omega)
        have eo : (q.1 m).toNatClampNeg = o := by rw [e, nI_clamp (by omega)]
        by_cases c3 : pfP a m s o
        · -- he is had rather
          have eO : stO a q s m = nI o := (if_pos (Or.inr (by rw [eo]; exact c3))).trans e
          obtain ⟨g1, g2⟩ := GS_step hV hB hL h3 ho hs (Ne.symm hso) hob hm c3
          have es := sum4_ad h3.1 (show o < 4 by omega) (show m < 4 by omega) g2
          unfold stQ
          rw [eO, if_neg (nI_n1 (by omega)), if_neg (fun z => hso (nI_inj (by omega) (by omega) z.symm)), nI_clamp (by omega)]
          refine ⟨adN N o m, fun t ht => ?_, ?_, g1, fun k hk2 => ?_⟩
          · show upd q.2.1 o (q.2.1 o ||| 1 <<< (nI m &&& 31)) t = _
            by_cases c2 : t = o
            · rw [c2, upd_eq, adN_e, h1 o (by omega), or_bit (by omega)]
            · rw [upd_ne c2, adN_n c2, h1 t ht]
          · show q.2.2 + 1 = _
            rw [h2, nI_1, es]
          · show upd q.1 m (nI s) k = -1 ∨ _
            by_cases c2 : k = m
            · rw [c2]
              exact Or.inr ⟨s, hs, upd_eq, by rw [adN_n hso]; exact hm⟩
            · rw [upd_ne c2]
              refine (h4 k hk2).imp id (fun ⟨u, z1, z2, z3⟩ => ⟨u, z1, (upd_ne c2).trans z2, ?_⟩)
              have huo : u ≠ o := fun y => by
                rw [y] at z3
                exact c2 (BS_u m4 z3 hob)
              rw [adN_n huo]
              exact z3
        · -- he is refused
          have eO : stO a q s m = nI s := if_neg (fun z => z.elim hn1 (by rw [eo]; exact c3))
          have hp := pf_to hV hB (show m < 4 by omega) hs ho hso c3
          obtain ⟨g1, g2⟩ := GS_step hV hB hL h3 hs ho hso hm hob hp
          have es := sum4_ad h3.1 (show s < 4 by omega) (show m < 4 by omega) g2
          unfold stQ
          rw [eO, if_neg (nI_n1 (by omega)), if_pos rfl, nI_clamp (by omega)]
          refine ⟨adN N s m, fun t ht => ?_, ?_, g1, fun k hk2 => ?_⟩
          · show upd q.2.1 s (q.2.1 s ||| 1 <<< (nI m &&& 31)) t = _
            by_cases c2 : t = s
            · rw [c2, upd_eq, adN_e, h1 s (by omega), or_bit (by omega)]
            · rw [upd_ne c2, adN_n c2, h1 t ht]
          · show q.2.2 + 1 = _
            rw [h2, nI_1, es]
          · show q.1 k = -1 ∨ _
            refine (h4 k hk2).imp id (fun ⟨u, z1, z2, z3⟩ => ⟨u, z1, z2, ?_⟩)
            have hus : u ≠ s := fun y => hsk k hk2 (by rw [z2, y])
            rw [adN_n hus]
            exact z3
theorem MO_rd {a : Nat → Int32} {ns nm nt : Nat} (hV : VA a ns nm nt) (hB : BO a ns nm nt) (hL : LKo a) {q : AS} {N : Nat → Nat} (h : MOo a ns nm q N) : ∀ s, s ≤ ns → ∃ N', MOo a ns nm (rdS a nm q s).2 N'
  | 0, _ => ⟨N, h⟩
  | s + 1, hs => by
    obtain ⟨N', h'⟩ := MO_rd hV hB hL h s (by omega)
    rw [rdS]
    exact MO_step hV hB hL h' (show s < ns by omega)
theorem rd_f {a : Nat → Int32} {nm : Nat} {q : AS} : ∀ s, (rdS a nm q s).1 = false → (rdS a nm q s).2 = q ∧ ∀ t, t < s → stA a nm t q = -1
  | 0, _ => ⟨rfl, fun t ht => absurd ht (by omega)⟩
  | s + 1, h => by
    rw [rdS] at h ⊢
    obtain ⟨h1, h2⟩ := Bool.or_eq_false_iff.mp h
    obtain ⟨e, z⟩ := rd_f s h1
    rw [e] at h2
    have c : stA a nm s q = -1 := by
      refine Decidable.byContradiction (fun x => ?_)
      unfold stS at h2
      rw [if_neg x] at h2
      exact Bool.noConfusion h2
    refine ⟨?_, fun t ht => ?_⟩
    · show (stS a nm s (rdS a nm q s).2).2 = q
      rw [e]
      unfold stS
      rw [if_pos c]
    · by_cases c2 : t = s
      · rw [c2]; exact c
      · exact z t (by omega)
theorem MO_end {a : Nat → Int32} {ns nm nt : Nat} (hV : VA a ns nm nt) (hB : BO a ns nm nt) (hL : LKo a) : ∀ f q N, okS q → MOo a ns nm q N → 21 ≤ pot q + f → ∃ N', MOo a ns nm (rnS a ns nm f q) N' ∧ ∀ t, t < ns → stA a nm t (rnS a ns nm f q) = -1
  | 0, q, N, h1, h2, h3 => by
    have := pot_le h1
    omega
  | f + 1, q, N, h1, h2, h3 => by
    have n4 := hV.1.2
    have m4 := hV.2.1.2
    rw [rnS]
    obtain ⟨N', h'⟩ := MO_rd hV hB hL h2 ns (Nat.le_refl _)
    obtain ⟨r1, r2, r3⟩ := rdS_ok (a := a) m4 h1 ns n4
    by_cases c : (rdS a nm q ns).1 = true
    · rw [if_pos c]
      have := r3 c
      exact MO_end hV hB hL f _ N' r1 h' (by omega)
    · rw [if_neg c]
      obtain ⟨e, z⟩ := rd_f ns (by cases x : (rdS a nm q ns).1 with
        | false => rfl
        | true => exact absurd x c)
      rw [e]
      exact ⟨N, h2, z⟩
theorem bfI_ok {P : Nat → Prop} [DecidablePred P] : ∀ k j, (bfI P k j = none ∧ ∀ i, j ≤ i → i < j + k → ¬ P i) ∨ ∃ i, j ≤ i ∧ i < j + k ∧ bfI P k j = some i ∧ P i
  | 0, j => Or.inl ⟨rfl, fun i h1 h2 => absurd h2 (by omega)⟩
  | k + 1, j => by
    rw [bfI]
    by_cases c : P j
    · rw [if_pos c]
      exact Or.inr ⟨j, by omega, by omega, rfl, c⟩
    · rw [if_neg c]
      rcases bfI_ok (P := P) k (j + 1) with ⟨e, h⟩ | ⟨i, h1, h2, h3, h4⟩
      · refine Or.inl ⟨e, fun i h1 h2 => ?_⟩
        by_cases c2 : i = j
        · rw [c2]; exact c
        · exact h i (by omega) (by omega)
      · exact Or.inr ⟨i, by omega, by omega, h3, h4⟩
theorem ak_mo {M : MM} {ns nm nt : Nat} (hV : VA (M.1 54 0) ns nm nt) (hB : BO (M.1 54 0) ns nm nt) (hL : LKo (M.1 54 0)) : ∃ N, (asF M).2.2 = nI (sum4 N) ∧ GS (M.1 54 0) ns nm N ∧ CF (M.1 54 0) ns nm N ∧ ∀ s, s < ns → kfF (asF M).1 nm (nI s) = askF (M.1 54 0) (nI (N s)) s nm ∧ (kpP (asF M).1 nm (nI s) ↔ ¬ askF (M.1 54 0) (nI (N s)) s nm = -1) := by
  have n4 := hV.1.2
  have m4 := hV.2.1.2
  unfold asF
  rw [hV.1.1, hV.2.1.1, nI_clamp (by omega), nI_clamp (by omega)]
  obtain ⟨N, h, hz⟩ := MO_end hV hB hL 32 (as0 M) (fun _ => 0) (as0_ok M) ⟨fun s hs => iniR_at _ _ _ _ hs, rfl, GS_0 _ _ _, fun m hm => Or.inl (iniR_at _ _ _ _ (by omega))⟩ (by omega)
  revert h hz
  generalize rnS (M.1 54 0) ns nm 32 (as0 M) = q
  intro h hz
  obtain ⟨h1, h2, h3, h4⟩ := h
  have key : ∀ s m, s < ns → BS (M.1 54 0) nm (N s) s m → q.1 m = nI s := fun s m hs hb => by
    have hA := hz s hs
    by_cases c : kpP q.1 nm (nI s)
    · obtain ⟨m', hm', e⟩ : ∃ m', m' < nm ∧ q.1 m' = nI s := by
        refine Classical.byContradiction (fun x => c (fun m' hm' e => x ⟨m', hm', e⟩))
      rcases h4 m' hm' with z | ⟨o, ho, eo, hb2⟩
      · exact absurd (e.symm.trans z) (nI_n1 (by omega))
      · have : s = o := nI_inj (by omega) (by omega) (e.symm.trans eo)
        rw [← this] at hb2
        rw [BS_u m4 hb hb2]
        exact e
    · have eA : stA (M.1 54 0) nm s q = askF (M.1 54 0) (nI (N s)) s nm := (if_neg c).trans (by rw [h1 s (by omega)])
      rw [eA, hb.2] at hA
      exact absurd hA (nI_n1 (by have := hb.1; omega))
  have kept : ∀ s m, s < ns → m < nm → q.1 m = nI s → BS (M.1 54 0) nm (N s) s m := fun s m hs hm e => by
    rcases h4 m hm with z | ⟨o, ho, eo, hb2⟩
    · exact absurd (e.symm.trans z) (nI_n1 (by omega))
    · have : s = o := nI_inj (by omega) (by omega) (e.symm.trans eo)
      rw [this]
      exact hb2
  refine ⟨N, h2, h3, CF_of h3 (fun s o m hs ho b1 b2 => nI_inj (by omega) (by omega) ((key s m hs b1).symm.trans (key o m ho b2))), fun s hs => ?_⟩
  rcases BS_no hL (show s < 4 by omega) m4 (h3.1 s (by omega)) with z | ⟨m, hm⟩
  · have no : ∀ m, m < nm → ¬ q.1 m = nI s := fun m hm e => by
      have := (kept s m hs hm e).2
      rw [z] at this
      exact nI_n1 (by omega) this.symm
    refine ⟨?_, ?_⟩
    · rcases bfI_ok (P := fun m => q.1 m = nI s) nm 0 with ⟨e, -⟩ | ⟨i, -, hi, e, hp⟩
      · show kfV (bfI (fun m => q.1 m = nI s) nm 0) = _
        rw [e, z]
        rfl
      · exact absurd hp (no i (by omega))
    · exact ⟨fun y => absurd no y, fun y => absurd z y⟩
  · have e1 := key s m hs hm
    refine ⟨?_, ?_⟩
    · rcases bfI_ok (P := fun m => q.1 m = nI s) nm 0 with ⟨e, hn⟩ | ⟨i, -, hi, e, hp⟩
      · exact absurd e1 (hn m (by omega) (by have := hm.1; omega))
      · show kfV (bfI (fun m => q.1 m = nI s) nm 0) = _
        have := BS_u m4 hm (kept s i hs (by omega) hp)
        rw [e, hm.2, this]
        rfl
    · exact ⟨fun _ => by rw [hm.2]; exact nI_n1 (by have := hm.1; omega), fun _ y => y m hm.1 e1⟩
/-- asking: the class and the model -/
theorem ak_ok {m M : MM} {v ns nm nt : Nat} (hV : VC2 m v ns nm nt) (hB : BO (abV m v) ns nm nt) (hL : LKo (abV m v)) (hA : AG (abV m v) (M.1 54 0) ns nm nt) : (akM m v).1 0 0 6 = (asF M).2.2 ∧ ∀ s, s < ns → (akM m v).1 15 0 s = kfF (asF M).1 nm (nI s) ∧ (kpP (asF M).1 nm (nI s) ↔ ¬ (akM m v).1 15 0 s = -1) ∧ ((akM m v).1 15 0 s = -1 ∨ ∃ k, k < nm ∧ (akM m v).1 15 0 s = nI k) := by
  have n4 := hV.1.1.2
  have m4 := hV.1.2.1.2
  have hL' : LKo (M.1 54 0) := fun s d hs hd => by rw [← AG_l hA hs hd]; exact hL s d hs hd
  obtain ⟨N, c1, c2, c3, c4⟩ := ak_cl hV hB hL
  obtain ⟨N', d1, d2, d3, d4⟩ := ak_mo (AG_VA hA hV.1) (AG_BO hA hB) hL'
  have e : N = N' := GS_u (AG_GS hA hV.1 c2) (AG_CF hA hV.1 c3) d2 d3
  rw [← e] at d1 d2 d4
  refine ⟨c1.trans d1.symm, fun s hs => ?_⟩
  rw [c4 s hs, AG_ask hA _ (show s < 4 by omega) nm m4]
  refine ⟨(d4 s hs).1.symm, (d4 s hs).2, ?_⟩
  rcases BS_no hL' (show s < 4 by omega) m4 (d2.1 s (by omega)) with z | ⟨k, hk⟩
  · exact Or.inl z
  · exact Or.inr ⟨k, hk.1, hk.2⟩

end
