/-! PART 26: the model: what must be given ahead, who never, lies, cheats -/

/-- what each THING is AFTER, as a number -/
def ahN (a : Nat → Int32) (j : Nat) : Nat := (a (46 + 3 * j)).toNatClampNeg
/-- all sets of what things are after are of the first twelve -/
def AFo (a : Nat → Int32) (nt : Nat) : Prop := ∀ j, j < nt → ahN a j < 4096 ∧ a (46 + 3 * j) = nI (ahN a j)
/-- one round of needsOf: with all that the members of s are after, of the first n -/
def ndS (f : Nat → Nat) (s : Nat) : Nat → Nat
  | 0 => s
  | j + 1 => if s.testBit j then ndS f s j ||| f j else ndS f s j
def itr {α : Type} (g : α → α) : Nat → α → α
  | 0, x => x
  | k + 1, x => itr g k (g x)
/-- all that must be given ahead, from a first set on -/
def clo (f : Nat → Nat) (nt s : Nat) : Nat := itr (fun t => ndS f t nt) (4096 - s) s
theorem or_lt {a b n : Nat} (ha : a < 2 ^ n) (hb : b < 2 ^ n) : a ||| b < 2 ^ n := Nat.or_lt_two_pow ha hb
theorem ndS_lt {f : Nat → Nat} {s : Nat} (hs : s < 4096) : ∀ {n : Nat}, (∀ j, j < n → f j < 4096) → ndS f s n < 4096
  | 0, _ => hs
  | n + 1, hf => by
    have ih := ndS_lt hs (n := n) (fun j hj => hf j (by omega))
    unfold ndS
    split
    · exact or_lt (n := 12) ih (hf n (by omega))
    · exact ih
theorem ndS_ge {f : Nat → Nat} {s : Nat} : ∀ n : Nat, s ≤ ndS f s n
  | 0 => Nat.le_refl _
  | n + 1 => by
    have ih := ndS_ge (f := f) (s := s) n
    unfold ndS
    split
    · exact Nat.le_trans ih Nat.left_le_or
    · exact ih
theorem itr_fix {α : Type} {g : α → α} {x : α} (h : g x = x) : ∀ k, itr g k x = x
  | 0 => rfl
  | k + 1 => by
    show itr g k (g x) = x
    rw [h]
    exact itr_fix h k
theorem clo_stab {f : Nat → Nat} {nt : Nat} (hf : ∀ j, j < nt → f j < 4096) : ∀ (d s k : Nat), s < 4096 → 4096 - s ≤ d → 4096 - s ≤ k → itr (fun t => ndS f t nt) k s = clo f nt s
  | 0, s, k, hs, hd, _ => by omega
  | d + 1, s, k, hs, hd, hk => by
    by_cases h : ndS f s nt = s
    · unfold clo
      rw [itr_fix h, itr_fix h]
    · have hlt := ndS_lt hs hf
      have hge := ndS_ge (f := f) (s := s) nt
      have hgt : s < ndS f s nt := by omega
      obtain ⟨k', rfl⟩ : ∃ k', k = k' + 1 := ⟨k - 1, by omega⟩
      have e1 : itr (fun t => ndS f t nt) (k' + 1) s = itr (fun t => ndS f t nt) k' (ndS f s nt) := rfl
      have e2 : clo f nt s = itr (fun t => ndS f t nt) (4096 - s - 1) (ndS f s nt) := by
        unfold clo
        obtain ⟨z, hz⟩ : ∃ z, 4096 - s = z + 1 := ⟨4096 - s - 1, by omega⟩
        rw [hz]
        rfl
      rw [e1, e2, clo_stab hf d _ k' hlt (by omega) (by omega), clo_stab hf d _ (4096 - s - 1) hlt (by omega) (by omega)]
theorem clo_fix {f : Nat → Nat} {nt s : Nat} (h : ndS f s nt = s) : clo f nt s = s := itr_fix h _
theorem clo_step {f : Nat → Nat} {nt s : Nat} (hf : ∀ j, j < nt → f j < 4096) (hs : s < 4096) : clo f nt (ndS f s nt) = clo f nt s := by
  by_cases h : ndS f s nt = s
  · rw [h]
  · have hge := ndS_ge (f := f) (s := s) nt
    have hlt := ndS_lt hs hf
    have e2 : clo f nt s = itr (fun t => ndS f t nt) (4096 - s - 1) (ndS f s nt) := by
      unfold clo
      obtain ⟨z, hz⟩ : ∃ z, 4096 - s = z + 1 := ⟨4096 - s - 1, by omega⟩
      rw [hz]
      rfl
    rw [e2]
    exact (clo_stab hf 4096 _ _ hlt (by omega) (by omega)).symm
theorem clo_lt {f : Nat → Nat} {nt : Nat} (hf : ∀ j, j < nt → f j < 4096) : ∀ (k s : Nat), s < 4096 → itr (fun t => ndS f t nt) k s < 4096
  | 0, _, hs => hs
  | k + 1, s, hs => clo_lt hf k _ (ndS_lt hs hf)
theorem inS_nI {s j : Nat} (hs : s < 2 ^ 31) (hj : j < 31) : inS (nI s) (nI j) ↔ s.testBit j = true := by
  unfold inS
  rw [nIshr hs (by omega)]
  show nI (s / 2 ^ j) &&& nI 1 = nI 1 ↔ _
  rw [nIand, Nat.and_one_is_mod, nI_eq (by omega) (by omega), Nat.testBit_eq_decide_div_mod_eq, decide_eq_true_eq]
def ndA (a : Nat → Int32) (nt j : Nat) : Nat := clo (ahN a) nt (ahN a j)
theorem ndA_lt {a : Nat → Int32} {nt j : Nat} (h : AFo a nt) (hj : j < nt) : ndA a nt j < 4096 := clo_lt (fun k hk => (h k hk).1) _ _ (h j hj).1

def Pre_X12_needsOf : PreT := fun m as => ∃ (ns nm nt j : Nat), VMx m ns nm nt ∧ AFo (m.1 54 0) nt ∧ j < nt ∧ as = [vR 12 0, vI (nI j)]
def Fn_X12_needsOf : FnT := fun m as => match as with
  | [_, Sum.inl j] => (some (vI (nI (ndA (m.1 54 0) (m.1 54 0 2).toNatClampNeg j.toNatClampNeg))), m)
  | _ => (none, m)
abbrev y_X12_needsOf : MethodName := ⟨"GivenUpModel", "needsOf", "(I)I"⟩
def P_X12_needsOf : List StpT := [s_aload 0, s_iload 1, s_callV 12 1 Pre_X12_aheadOf Fn_X12_aheadOf, s_istore 2, s_ic (-1), s_istore 3, s_iload 2, s_iload 3, s_iceq 33, s_iload 2, s_istore 3, s_ic (0), s_istore 4, s_iload 4, s_aload 0, s_getR 12 0 54, s_ic (2), s_iald, s_icge 32, s_aload 0, s_iload 3, s_iload 4, s_callV 12 2 Pre_X12_isIn Fn_X12_isIn, s_ifeq 30, s_iload 2, s_aload 0, s_iload 4, s_callV 12 1 Pre_X12_aheadOf Fn_X12_aheadOf, s_ior, s_istore 2, s_iinc 4 (1), s_goto 13, s_goto 6, s_iload 2, s_iret]
def pc_X12_needsOf : Nat → Nat := fun i => [0, 1, 2, 5, 6, 7, 8, 9, 10, 13, 14, 15, 16, 18, 20, 21, 24, 25, 26, 29, 30, 31, 33, 36, 39, 40, 41, 43, 46, 47, 48, 51, 54, 57, 58].getD i 0
def dl_X12_needsOf : List (Nat × Instr × Nat) := [(0, .aload_n 0, 1), (1, .iload_n 1, 1), (2, .invokevirtual 316, 3), (5, .istore_n 2, 1), (6, .iconst (-1), 1), (7, .istore_n 3, 1), (8, .iload_n 2, 1), (9, .iload_n 3, 1), (10, .if_icmp .eq 47, 3), (13, .iload_n 2, 1), (14, .istore_n 3, 1), (15, .iconst 0, 1), (16, .istore 4, 2), (18, .iload 4, 2), (20, .aload_n 0, 1), (21, .getfield 7, 3), (24, .iconst 2, 1), (25, .iaload, 1), (26, .if_icmp .ge 28, 3), (29, .aload_n 0, 1), (30, .iload_n 3, 1), (31, .iload 4, 2), (33, .invokevirtual 277, 3), (36, .ifCond .eq 12, 3), (39, .iload_n 2, 1), (40, .aload_n 0, 1), (41, .iload 4, 2), (43, .invokevirtual 316, 3), (46, .ior, 1), (47, .istore_n 2, 1), (48, .iinc 4 1, 3), (51, .goto (-33), 3), (54, .goto (-46), 3), (57, .iload_n 2, 1), (58, .ireturn, 1)]
theorem dc_X12_needsOf : DEC prog_14_method_144_code pc_X12_needsOf dl_X12_needsOf := DEC_of (by decide +kernel)
abbrev rm_X12_needsOf : Room := { frames := 2, cells := 0, slots := 0, locals := 41 }
set_option maxRecDepth 20000 in
theorem sa_X12_needsOf (l : Launch) : SNDALL l prog_14_method_144_code "GivenUpModel" 5 (some .int) rm_X12_needsOf P_X12_needsOf pc_X12_needsOf := fun p e s m args below meth c cells slots Q D dA ad A RR hC hR => by
  have hM := RTX_room (R := rm_X12_needsOf) hR
  exact ⟨st_aload_n hC (n := 0) (k := 0) (dc_X12_needsOf 0 (0, .aload_n 0, 1) rfl rfl) rfl rfl,
    st_iload_n hC (n := 1) (k := 1) (dc_X12_needsOf 1 (1, .iload_n 1, 1) rfl rfl) rfl rfl,
    st_callV hC (n := 2) (k := 12) (na := 1) (con_X12_aheadOf l) (dc_X12_needsOf 2 (2, .invokevirtual 316, 3) rfl rfl) rfl wd_1942 wd_160 (by decide) ⟨rfl, rfl, by decide, by decide⟩ hM wd_1939 wd_1941 wd_95 clf_12,
    st_istore_n hC (n := 3) (k := 2) (dc_X12_needsOf 3 (5, .istore_n 2, 1) rfl rfl) rfl rfl (by decide),
    st_iconst hC (n := 4) (x := (-1)) (dc_X12_needsOf 4 (6, .iconst (-1), 1) rfl rfl) rfl (by decide),
    st_istore_n hC (n := 5) (k := 3) (dc_X12_needsOf 5 (7, .istore_n 3, 1) rfl rfl) rfl rfl (by decide),
    st_iload_n hC (n := 6) (k := 2) (dc_X12_needsOf 6 (8, .iload_n 2, 1) rfl rfl) rfl rfl,
    st_iload_n hC (n := 7) (k := 3) (dc_X12_needsOf 7 (9, .iload_n 3, 1) rfl rfl) rfl rfl,
    st_iceq hC (n := 8) (dc_X12_needsOf 8 (10, .if_icmp .eq 47, 3) rfl rfl) rfl (by decide),
    st_iload_n hC (n := 9) (k := 2) (dc_X12_needsOf 9 (13, .iload_n 2, 1) rfl rfl) rfl rfl,
    st_istore_n hC (n := 10) (k := 3) (dc_X12_needsOf 10 (14, .istore_n 3, 1) rfl rfl) rfl rfl (by decide),
    st_iconst hC (n := 11) (x := 0) (dc_X12_needsOf 11 (15, .iconst 0, 1) rfl rfl) rfl (by decide),
    st_istore hC (n := 12) (dc_X12_needsOf 12 (16, .istore 4, 2) rfl rfl) rfl (by decide),
    st_iload hC (n := 13) (dc_X12_needsOf 13 (18, .iload 4, 2) rfl rfl) rfl,
    st_aload_n hC (n := 14) (k := 0) (dc_X12_needsOf 14 (20, .aload_n 0, 1) rfl rfl) rfl rfl,
    st_getR hC (n := 15) (k := 12) (j := 0) (dc_X12_needsOf 15 (21, .getfield 7, 3) rfl rfl) rfl clf_12 (by decide) rfl (by decide) wd_1552,
    st_iconst hC (n := 16) (x := 2) (dc_X12_needsOf 16 (24, .iconst 2, 1) rfl rfl) rfl (by decide),
    st_iald hC (n := 17) (dc_X12_needsOf 17 (25, .iaload, 1) rfl rfl) rfl,
    st_icge hC (n := 18) (dc_X12_needsOf 18 (26, .if_icmp .ge 28, 3) rfl rfl) rfl (by decide),
    st_aload_n hC (n := 19) (k := 0) (dc_X12_needsOf 19 (29, .aload_n 0, 1) rfl rfl) rfl rfl,
    st_iload_n hC (n := 20) (k := 3) (dc_X12_needsOf 20 (30, .iload_n 3, 1) rfl rfl) rfl rfl,
    st_iload hC (n := 21) (dc_X12_needsOf 21 (31, .iload 4, 2) rfl rfl) rfl,
    st_callV hC (n := 22) (k := 12) (na := 2) (con_X12_isIn l) (dc_X12_needsOf 22 (33, .invokevirtual 277, 3) rfl rfl) rfl wd_1907 wd_160 (by decide) ⟨rfl, rfl, by decide, by decide⟩ hM wd_1904 wd_1906 wd_89 clf_12,
    st_ifeq hC (n := 23) (dc_X12_needsOf 23 (36, .ifCond .eq 12, 3) rfl rfl) rfl (by decide),
    st_iload_n hC (n := 24) (k := 2) (dc_X12_needsOf 24 (39, .iload_n 2, 1) rfl rfl) rfl rfl,
    st_aload_n hC (n := 25) (k := 0) (dc_X12_needsOf 25 (40, .aload_n 0, 1) rfl rfl) rfl rfl,
    st_iload hC (n := 26) (dc_X12_needsOf 26 (41, .iload 4, 2) rfl rfl) rfl,
    st_callV hC (n := 27) (k := 12) (na := 1) (con_X12_aheadOf l) (dc_X12_needsOf 27 (43, .invokevirtual 316, 3) rfl rfl) rfl wd_1942 wd_160 (by decide) ⟨rfl, rfl, by decide, by decide⟩ hM wd_1939 wd_1941 wd_95 clf_12,
    st_ior hC (n := 28) (dc_X12_needsOf 28 (46, .ior, 1) rfl rfl) rfl,
    st_istore_n hC (n := 29) (k := 2) (dc_X12_needsOf 29 (47, .istore_n 2, 1) rfl rfl) rfl rfl (by decide),
    st_iinc hC (n := 30) (x := 1) (dc_X12_needsOf 30 (48, .iinc 4 1, 3) rfl rfl) rfl (by decide) (by decide),
    st_goto hC (n := 31) (dc_X12_needsOf 31 (51, .goto (-33), 3) rfl rfl) (by decide),
    st_goto hC (n := 32) (dc_X12_needsOf 32 (54, .goto (-46), 3) rfl rfl) (by decide),
    st_iload_n hC (n := 33) (k := 2) (dc_X12_needsOf 33 (57, .iload_n 2, 1) rfl rfl) rfl rfl,
    st_iret hC (n := 34) hR (dc_X12_needsOf 34 (58, .ireturn, 1) rfl rfl), trivial⟩
theorem vc_X12_needsOf : VC P_X12_needsOf 5 Pre_X12_needsOf Fn_X12_needsOf := by
  rintro mm as hom hoa ⟨ns, nm, nt, j, hV, hA, hj, rfl⟩
  refine ⟨Nat.le_of_ble_eq_true rfl, fun X h => ?_⟩
  have hn : mm.1 54 0 2 = nI nt := hV.2.2.1.1
  have hnt : nt ≤ 12 := hV.2.2.1.2
  have ej : (nI j).toNatClampNeg = j := nI_clamp (by omega)
  have en : (mm.1 54 0 2).toNatClampNeg = nt := by rw [hn, nI_clamp (by omega)]
  have hf : ∀ k, k < nt → ahN (mm.1 54 0) k < 4096 := fun k hk => (hA k hk).1
  have eF : Fn_X12_needsOf mm [vR 12 0, vI (nI j)] = (some (vI (nI (ndA (mm.1 54 0) nt j))), mm) := by
    simp only [Fn_X12_needsOf, ej, en]
  rw [eF] at h
  have inner : ∀ s, s < 4096 → (∀ L4, X 6 [some (vR 12 0), some (vI (nI j)), some (vI (nI (ndS (ahN (mm.1 54 0)) s nt))), some (vI (nI s)), L4] [] mm) → ∀ t, t ≤ nt → X 13 [some (vR 12 0), some (vI (nI j)), some (vI (nI (ndS (ahN (mm.1 54 0)) s t))), some (vI (nI s)), some (vI (nI t))] [] mm := by
    intro s hs hnext
    refine up_ind nt ?_ (fun t ht hk => ?_)
    · refine h (fun i => Nat.beq i 6) 3000 13 _ _ _ ?_
      repeat' (first | refine And.intro (by (first | exact rfl | exact Or.inl rfl | exact Or.inr rfl | exact bI_in | exact inb_o 3060 rfl rfl (by (try simp (disch := omega) only [hn, li, pk_mul, nI_add, nI_clamp]); rfl) (by omega) | exact inb_o 12 rfl rfl (by (try simp (disch := omega) only [hn, li, pk_mul, nI_add, nI_clamp]); rfl) (by omega) | exact inb_o 4 rfl rfl (by (try simp (disch := omega) only [hn, li, pk_mul, nI_add, nI_clamp]); rfl) (by omega) | exact inb_o 5 rfl rfl (by (try simp (disch := omega) only [hn, li, pk_mul, nI_add, nI_clamp]); rfl) (by omega) | exact inb_o 16 rfl rfl (by (try simp (disch := omega) only [hn, li, pk_mul, nI_add, nI_clamp]); rfl) (by omega) | exact inb_o 20 rfl rfl (by (try simp (disch := omega) only [hn, li, pk_mul, nI_add, nI_clamp]); rfl) (by omega) | exact inb_o 30 rfl rfl (by (try simp (disch := omega) only [hn, li, pk_mul, nI_add, nI_clamp]); rfl) (by omega) | exact inb_o 48 rfl rfl (by (try simp (disch := omega) only [hn, li, pk_mul, nI_add, nI_clamp]); rfl) (by omega) | exact inb_o 60 rfl rfl (by (try simp (disch := omega) only [hn, li, pk_mul, nI_add, nI_clamp]); rfl) (by omega) | exact inb_o 80 rfl rfl (by (try simp (disch := omega) only [hn, li, pk_mul, nI_add, nI_clamp]); rfl) (by omega) | exact inb_o 120 rfl rfl (by (try simp (disch := omega) only [hn, li, pk_mul, nI_add, nI_clamp]); rfl) (by omega) | exact inb_o 240 rfl rfl (by (try simp (disch := omega) only [hn, li, pk_mul, nI_add, nI_clamp]); rfl) (by omega) | exact inb_o 900 rfl rfl (by (try simp (disch := omega) only [hn, li, pk_mul, nI_add, nI_clamp]); rfl) (by omega) | exact inb_o 4096 rfl rfl (by (try simp (disch := omega) only [hn, li, pk_mul, nI_add, nI_clamp]); rfl) (by omega) | exact inb_o 3 rfl rfl (by (try simp (disch := omega) only [hn, li, pk_mul, nI_add, nI_clamp]); rfl) (by omega))) ?_ | refine br_t (by ((try simp (disch := omega) only [hn, li, pk_mul, nI_add, nI_clamp, nI_leI, nI_ltI, nI_eq, bI_0, bI_n0, Decidable.not_not, gu_m1]); first | done | omega | assumption)) ?_ | refine br_f (by ((try simp (disch := omega) only [hn, li, pk_mul, nI_add, nI_clamp, nI_leI, nI_ltI, nI_eq, bI_0, bI_n0, Decidable.not_not, gu_m1]); first | done | omega | assumption)) ?_ | refine brn_t (by ((try simp (disch := omega) only [hn, li, pk_mul, nI_add, nI_clamp, nI_leI, nI_ltI, nI_eq, bI_0, bI_n0, Decidable.not_not, gu_m1]); first | done | omega | assumption)) ?_ | refine brn_f (by ((try simp (disch := omega) only [hn, li, pk_mul, nI_add, nI_clamp, nI_leI, nI_ltI, nI_eq, bI_0, bI_n0, Decidable.not_not, gu_m1]); first | done | omega | assumption)) ?_ | refine br_c (fun _ => ?_) (fun _ => ?_) | refine brn_c (fun _ => ?_) (fun _ => ?_))
      exact hnext _
    · refine h (fun i => Nat.beq i 13 || Nat.beq i 30) 3000 13 _ _ _ ?_
      repeat' (first | refine And.intro (by (first | exact rfl | exact Or.inl rfl | exact Or.inr rfl | exact bI_in | exact inb_o 3060 rfl rfl (by (try simp (disch := omega) only [hn, li, pk_mul, nI_add, nI_clamp]); rfl) (by omega) | exact inb_o 12 rfl rfl (by (try simp (disch := omega) only [hn, li, pk_mul, nI_add, nI_clamp]); rfl) (by omega) | exact inb_o 4 rfl rfl (by (try simp (disch := omega) only [hn, li, pk_mul, nI_add, nI_clamp]); rfl) (by omega) | exact inb_o 5 rfl rfl (by (try simp (disch := omega) only [hn, li, pk_mul, nI_add, nI_clamp]); rfl) (by omega) | exact inb_o 16 rfl rfl (by (try simp (disch := omega) only [hn, li, pk_mul, nI_add, nI_clamp]); rfl) (by omega) | exact inb_o 20 rfl rfl (by (try simp (disch := omega) only [hn, li, pk_mul, nI_add, nI_clamp]); rfl) (by omega) | exact inb_o 30 rfl rfl (by (try simp (disch := omega) only [hn, li, pk_mul, nI_add, nI_clamp]); rfl) (by omega) | exact inb_o 48 rfl rfl (by (try simp (disch := omega) only [hn, li, pk_mul, nI_add, nI_clamp]); rfl) (by omega) | exact inb_o 60 rfl rfl (by (try simp (disch := omega) only [hn, li, pk_mul, nI_add, nI_clamp]); rfl) (by omega) | exact inb_o 80 rfl rfl (by (try simp (disch := omega) only [hn, li, pk_mul, nI_add, nI_clamp]); rfl) (by omega) | exact inb_o 120 rfl rfl (by (try simp (disch := omega) only [hn, li, pk_mul, nI_add, nI_clamp]); rfl) (by omega) | exact inb_o 240 rfl rfl (by (try simp (disch := omega) only [hn, li, pk_mul, nI_add, nI_clamp]); rfl) (by omega) | exact inb_o 900 rfl rfl (by (try simp (disch := omega) only [hn, li, pk_mul, nI_add, nI_clamp]); rfl) (by omega) | exact inb_o 4096 rfl rfl (by (try simp (disch := omega) only [hn, li, pk_mul, nI_add, nI_clamp]); rfl) (by omega) | exact inb_o 3 rfl rfl (by (try simp (disch := omega) only [hn, li, pk_mul, nI_add, nI_clamp]); rfl) (by omega))) ?_ | refine br_t (by ((try simp (disch := omega) only [hn, li, pk_mul, nI_add, nI_clamp, nI_leI, nI_ltI, nI_eq, bI_0, bI_n0, Decidable.not_not, gu_m1]); first | done | omega | assumption)) ?_ | refine br_f (by ((try simp (disch := omega) only [hn, li, pk_mul, nI_add, nI_clamp, nI_leI, nI_ltI, nI_eq, bI_0, bI_n0, Decidable.not_not, gu_m1]); first | done | omega | assumption)) ?_ | refine brn_t (by ((try simp (disch := omega) only [hn, li, pk_mul, nI_add, nI_clamp, nI_leI, nI_ltI, nI_eq, bI_0, bI_n0, Decidable.not_not, gu_m1]); first | done | omega | assumption)) ?_ | refine brn_f (by ((try simp (disch := omega) only [hn, li, pk_mul, nI_add, nI_clamp, nI_leI, nI_ltI, nI_eq, bI_0, bI_n0, Decidable.not_not, gu_m1]); first | done | omega | assumption)) ?_ | refine br_c (fun _ => ?_) (fun _ => ?_) | refine brn_c (fun _ => ?_) (fun _ => ?_))
      refine And.intro ⟨_, _, rfl⟩ ?_
      refine br_c (fun h1 => ?_) (fun h1 => ?_)
      · have h1' : ¬ s.testBit t = true := fun z => bI_0.mp h1 ((inS_nI (by omega) (by omega)).mpr z)
        have e : ndS (ahN (mm.1 54 0)) s (t + 1) = ndS (ahN (mm.1 54 0)) s t := by
          show (if s.testBit t then _ else _) = _
          rw [if_neg h1']
        rw [e] at hk
        show X 30 [some (vR 12 0), some (vI (nI j)), some (vI (nI (ndS (ahN (mm.1 54 0)) s t))), some (vI (nI s)), some (vI (nI t))] [] mm
        refine h (fun i => Nat.beq i 13) 3000 30 _ _ _ ?_
        rw [← nI_1] at hk
        exact hk
      · have h1' : s.testBit t = true := (inS_nI (by omega) (by omega)).mp (bI_n0.mp h1)
        have e : ndS (ahN (mm.1 54 0)) s (t + 1) = ndS (ahN (mm.1 54 0)) s t ||| ahN (mm.1 54 0) t := by
          show (if s.testBit t then _ else _) = _
          rw [if_pos h1']
        refine And.intro ⟨t, by omega, rfl⟩ ?_
        show X 30 [some (vR 12 0), some (vI (nI j)), some (vI (nI (ndS (ahN (mm.1 54 0)) s t) ||| mm.1 54 0 (46 + 3 * (nI t).toNatClampNeg))), some (vI (nI s)), some (vI (nI t))] [] mm
        rw [nI_clamp (show t < 2 ^ 31 by omega), (hA t ht).2, nIor, ← e]
        refine h (fun i => Nat.beq i 13) 3000 30 _ _ _ ?_
        rw [← nI_1] at hk
        exact hk
  have loop : ∀ d s old, s < 4096 → 4096 - s ≤ d → (∀ L4, X 33 [some (vR 12 0), some (vI (nI j)), some (vI (nI (clo (ahN (mm.1 54 0)) nt s))), some (vI (nI (clo (ahN (mm.1 54 0)) nt s))), L4] [] mm) → (old = nI s → ndS (ahN (mm.1 54 0)) s nt = s) → ∀ L4, X 6 [some (vR 12 0), some (vI (nI j)), some (vI (nI s)), some (vI old), L4] [] mm := by
    intro d
    induction d with
    | zero => intro s old hs hd; omega
    | succ d ih =>
      intro s old hs hd hend hold L4
      refine h (fun i => Nat.beq i 33 || Nat.beq i 13) 3000 6 _ _ _ ?_
      by_cases he : nI s = old
      · refine br_t he ?_
        have e := clo_fix (hold he.symm)
        have := hend L4
        rw [e] at this
        rw [he] at this
        show X 33 [some (vR 12 0), some (vI (nI j)), some (vI (nI s)), some (vI old), L4] [] mm
        rw [he]
        exact this
      · refine br_f he ?_
        refine inner s hs ?_ 0 (Nat.zero_le _)
        intro L4'
        by_cases hfx : ndS (ahN (mm.1 54 0)) s nt = s
        · rw [hfx]
          refine h (fun i => Nat.beq i 33) 3000 6 _ _ _ ?_
          refine br_t rfl ?_
          have := hend L4'
          rw [clo_fix hfx] at this
          exact this
        · have hge := ndS_ge (f := ahN (mm.1 54 0)) (s := s) nt
          have hlt := ndS_lt hs hf
          refine ih _ _ hlt (by omega) ?_ ?_ L4'
          · rw [clo_step hf hs]
            exact hend
          · intro z
            rw [nI_eq (by omega) (by omega)] at z
            exact absurd z.symm hfx
  refine h (fun i => Nat.beq i 6) 3000 0 _ _ _ ?_
  refine And.intro ⟨j, by omega, rfl⟩ ?_
  show X 6 [some (vR 12 0), some (vI (nI j)), some (vI (mm.1 54 0 (46 + 3 * (nI j).toNatClampNeg))), some (vI (-1)), none] [] mm
  rw [ej, (hA j hj).2]
  refine loop 4096 _ _ (hA j hj).1 (by omega) ?_ ?_ none
  · intro L4
    refine h (fun _ => false) 3000 33 _ _ _ ?_
    exact rfl
  · intro z
    exact absurd z.symm (fun e => (gu_m1 (by have := (hA j hj).1; omega)).mp e)
theorem con_X12_needsOf (l : Launch) : CON l y_X12_needsOf prog_14_method_144_code 5 (some .int) rm_X12_needsOf Pre_X12_needsOf Fn_X12_needsOf := CON_of (by decide) rfl rfl (sa_X12_needsOf l) vc_X12_needsOf
/-- never to be given -/
abbrev nvP (a : Nat → Int32) (nt j : Nat) : Prop := ¬ ∀ o, o < nt → ¬ ((ndA a nt j ||| 2 ^ j).testBit o = true ∧ (ndA a nt o).testBit o = true)
def dpA (a : Nat → Int32) (nt j : Nat) : Nat := if nvP a nt j then 99 else pcN (ndA a nt j)
theorem p2_lt {j : Nat} (h : j < 12) : 2 ^ j < 4096 := by
  have := Nat.pow_lt_pow_right (a := 2) (m := j) (n := 12) (by decide) h
  omega

def Pre_X12_isNever : PreT := fun m as => ∃ (ns nm nt j : Nat), VMx m ns nm nt ∧ AFo (m.1 54 0) nt ∧ j < nt ∧ as = [vR 12 0, vI (nI j)]
def Fn_X12_isNever : FnT := fun m as => match as with
  | [_, Sum.inl j] => (some (vI (bI (nvP (m.1 54 0) (m.1 54 0 2).toNatClampNeg j.toNatClampNeg))), m)
  | _ => (none, m)
abbrev y_X12_isNever : MethodName := ⟨"GivenUpModel", "isNever", "(I)Z"⟩
def P_X12_isNever : List StpT := [s_aload 0, s_iload 1, s_callV 12 1 Pre_X12_needsOf Fn_X12_needsOf, s_ic (1), s_iload 1, s_ishl, s_ior, s_istore 2, s_ic (0), s_istore 3, s_iload 3, s_aload 0, s_getR 12 0 54, s_ic (2), s_iald, s_icge 32, s_aload 0, s_iload 2, s_iload 3, s_callV 12 2 Pre_X12_isIn Fn_X12_isIn, s_ifeq 30, s_aload 0, s_aload 0, s_iload 3, s_callV 12 1 Pre_X12_needsOf Fn_X12_needsOf, s_iload 3, s_callV 12 2 Pre_X12_isIn Fn_X12_isIn, s_ifeq 30, s_ic (1), s_zret, s_iinc 3 (1), s_goto 10, s_ic (0), s_zret]
def pc_X12_isNever : Nat → Nat := fun i => [0, 1, 2, 5, 6, 7, 8, 9, 10, 11, 12, 13, 14, 17, 18, 19, 22, 23, 24, 25, 28, 31, 32, 33, 34, 37, 38, 41, 44, 45, 46, 49, 52, 53].getD i 0
def dl_X12_isNever : List (Nat × Instr × Nat) := [(0, .aload_n 0, 1), (1, .iload_n 1, 1), (2, .invokevirtual 445, 3), (5, .iconst 1, 1), (6, .iload_n 1, 1), (7, .ishl, 1), (8, .ior, 1), (9, .istore_n 2, 1), (10, .iconst 0, 1), (11, .istore_n 3, 1), (12, .iload_n 3, 1), (13, .aload_n 0, 1), (14, .getfield 7, 3), (17, .iconst 2, 1), (18, .iaload, 1), (19, .if_icmp .ge 33, 3), (22, .aload_n 0, 1), (23, .iload_n 2, 1), (24, .iload_n 3, 1), (25, .invokevirtual 277, 3), (28, .ifCond .eq 18, 3), (31, .aload_n 0, 1), (32, .aload_n 0, 1), (33, .iload_n 3, 1), (34, .invokevirtual 445, 3), (37, .iload_n 3, 1), (38, .invokevirtual 277, 3), (41, .ifCond .eq 5, 3), (44, .iconst 1, 1), (45, .ireturn, 1), (46, .iinc 3 1, 3), (49, .goto (-37), 3), (52, .iconst 0, 1), (53, .ireturn, 1)]
theorem dc_X12_isNever : DEC prog_14_method_145_code pc_X12_isNever dl_X12_isNever := DEC_of (by decide +kernel)
abbrev rm_X12_isNever : Room := { frames := 3, cells := 0, slots := 0, locals := 65 }
set_option maxRecDepth 20000 in
theorem sa_X12_isNever (l : Launch) : SNDALL l prog_14_method_145_code "GivenUpModel" 4 (some .boolean) rm_X12_isNever P_X12_isNever pc_X12_isNever := fun p e s m args below meth c cells slots Q D dA ad A RR hC hR => by
  have hM := RTX_room (R := rm_X12_isNever) hR
  exact ⟨st_aload_n hC (n := 0) (k := 0) (dc_X12_isNever 0 (0, .aload_n 0, 1) rfl rfl) rfl rfl,
    st_iload_n hC (n := 1) (k := 1) (dc_X12_isNever 1 (1, .iload_n 1, 1) rfl rfl) rfl rfl,
    st_callV hC (n := 2) (k := 12) (na := 1) (con_X12_needsOf l) (dc_X12_isNever 2 (2, .invokevirtual 445, 3) rfl rfl) rfl wd_1954 wd_160 (by decide) ⟨rfl, rfl, by decide, by decide⟩ hM wd_1951 wd_1953 wd_98 clf_12,
    st_iconst hC (n := 3) (x := 1) (dc_X12_isNever 3 (5, .iconst 1, 1) rfl rfl) rfl (by decide),
    st_iload_n hC (n := 4) (k := 1) (dc_X12_isNever 4 (6, .iload_n 1, 1) rfl rfl) rfl rfl,
    st_ishl hC (n := 5) (dc_X12_isNever 5 (7, .ishl, 1) rfl rfl) rfl,
    st_ior hC (n := 6) (dc_X12_isNever 6 (8, .ior, 1) rfl rfl) rfl,
    st_istore_n hC (n := 7) (k := 2) (dc_X12_isNever 7 (9, .istore_n 2, 1) rfl rfl) rfl rfl (by decide),
    st_iconst hC (n := 8) (x := 0) (dc_X12_isNever 8 (10, .iconst 0, 1) rfl rfl) rfl (by decide),
    st_istore_n hC (n := 9) (k := 3) (dc_X12_isNever 9 (11, .istore_n 3, 1) rfl rfl) rfl rfl (by decide),
    st_iload_n hC (n := 10) (k := 3) (dc_X12_isNever 10 (12, .iload_n 3, 1) rfl rfl) rfl rfl,
    st_aload_n hC (n := 11) (k := 0) (dc_X12_isNever 11 (13, .aload_n 0, 1) rfl rfl) rfl rfl,
    st_getR hC (n := 12) (k := 12) (j := 0) (dc_X12_isNever 12 (14, .getfield 7, 3) rfl rfl) rfl clf_12 (by decide) rfl (by decide) wd_1552,
    st_iconst hC (n := 13) (x := 2) (dc_X12_isNever 13 (17, .iconst 2, 1) rfl rfl) rfl (by decide),
    st_iald hC (n := 14) (dc_X12_isNever 14 (18, .iaload, 1) rfl rfl) rfl,
    st_icge hC (n := 15) (dc_X12_isNever 15 (19, .if_icmp .ge 33, 3) rfl rfl) rfl (by decide),
    st_aload_n hC (n := 16) (k := 0) (dc_X12_isNever 16 (22, .aload_n 0, 1) rfl rfl) rfl rfl,
    st_iload_n hC (n := 17) (k := 2) (dc_X12_isNever 17 (23, .iload_n 2, 1) rfl rfl) rfl rfl,
    st_iload_n hC (n := 18) (k := 3) (dc_X12_isNever 18 (24, .iload_n 3, 1) rfl rfl) rfl rfl,
    st_callV hC (n := 19) (k := 12) (na := 2) (con_X12_isIn l) (dc_X12_isNever 19 (25, .invokevirtual 277, 3) rfl rfl) rfl wd_1907 wd_160 (by decide) ⟨rfl, rfl, by decide, by decide⟩ hM wd_1904 wd_1906 wd_89 clf_12,
    st_ifeq hC (n := 20) (dc_X12_isNever 20 (28, .ifCond .eq 18, 3) rfl rfl) rfl (by decide),
    st_aload_n hC (n := 21) (k := 0) (dc_X12_isNever 21 (31, .aload_n 0, 1) rfl rfl) rfl rfl,
    st_aload_n hC (n := 22) (k := 0) (dc_X12_isNever 22 (32, .aload_n 0, 1) rfl rfl) rfl rfl,
    st_iload_n hC (n := 23) (k := 3) (dc_X12_isNever 23 (33, .iload_n 3, 1) rfl rfl) rfl rfl,
    st_callV hC (n := 24) (k := 12) (na := 1) (con_X12_needsOf l) (dc_X12_isNever 24 (34, .invokevirtual 445, 3) rfl rfl) rfl wd_1954 wd_160 (by decide) ⟨rfl, rfl, by decide, by decide⟩ hM wd_1951 wd_1953 wd_98 clf_12,
    st_iload_n hC (n := 25) (k := 3) (dc_X12_isNever 25 (37, .iload_n 3, 1) rfl rfl) rfl rfl,
    st_callV hC (n := 26) (k := 12) (na := 2) (con_X12_isIn l) (dc_X12_isNever 26 (38, .invokevirtual 277, 3) rfl rfl) rfl wd_1907 wd_160 (by decide) ⟨rfl, rfl, by decide, by decide⟩ hM wd_1904 wd_1906 wd_89 clf_12,
    st_ifeq hC (n := 27) (dc_X12_isNever 27 (41, .ifCond .eq 5, 3) rfl rfl) rfl (by decide),
    st_iconst hC (n := 28) (x := 1) (dc_X12_isNever 28 (44, .iconst 1, 1) rfl rfl) rfl (by decide),
    st_zret hC (n := 29) hR (dc_X12_isNever 29 (45, .ireturn, 1) rfl rfl),
    st_iinc hC (n := 30) (x := 1) (dc_X12_isNever 30 (46, .iinc 3 1, 3) rfl rfl) rfl (by decide) (by decide),
    st_goto hC (n := 31) (dc_X12_isNever 31 (49, .goto (-37), 3) rfl rfl) (by decide),
    st_iconst hC (n := 32) (x := 0) (dc_X12_isNever 32 (52, .iconst 0, 1) rfl rfl) rfl (by decide),
    st_zret hC (n := 33) hR (dc_X12_isNever 33 (53, .ireturn, 1) rfl rfl), trivial⟩
theorem vc_X12_isNever : VC P_X12_isNever 4 Pre_X12_isNever Fn_X12_isNever := by
  rintro mm as hom hoa ⟨ns, nm, nt, j, hV, hA, hj, rfl⟩
  refine ⟨Nat.le_of_ble_eq_true rfl, fun X h => ?_⟩
  have hn : mm.1 54 0 2 = nI nt := hV.2.2.1.1
  have hnt : nt ≤ 12 := hV.2.2.1.2
  have ej : (nI j).toNatClampNeg = j := nI_clamp (by omega)
  have en : (mm.1 54 0 2).toNatClampNeg = nt := by rw [hn, nI_clamp (by omega)]
  have eF : Fn_X12_isNever mm [vR 12 0, vI (nI j)] = (some (vI (bI (nvP (mm.1 54 0) nt j))), mm) := by
    simp only [Fn_X12_isNever, ej, en]
  rw [eF] at h
  have hsl : ndA (mm.1 54 0) nt j ||| 2 ^ j < 4096 := or_lt (n := 12) (ndA_lt hA hj) (p2_lt (by omega))
  have loop : ∀ t, t ≤ nt → (∀ o, o < t → ¬ ((ndA (mm.1 54 0) nt j ||| 2 ^ j).testBit o = true ∧ (ndA (mm.1 54 0) nt o).testBit o = true)) → X 10 [some (vR 12 0), some (vI (nI j)), some (vI (nI (ndA (mm.1 54 0) nt j ||| 2 ^ j))), some (vI (nI t))] [] mm := by
    refine up_ind nt ?_ (fun t ht hk => ?_)
    · intro hno
      refine h (fun i => Nat.beq i 10) 3000 10 _ _ _ ?_
      repeat' (first | refine And.intro (by (first | exact rfl | exact Or.inl rfl | exact Or.inr rfl | exact bI_in | exact inb_o 3060 rfl rfl (by (try simp (disch := omega) only [hn, li, pk_mul, nI_add, nI_clamp]); rfl) (by omega) | exact inb_o 12 rfl rfl (by (try simp (disch := omega) only [hn, li, pk_mul, nI_add, nI_clamp]); rfl) (by omega) | exact inb_o 4 rfl rfl (by (try simp (disch := omega) only [hn, li, pk_mul, nI_add, nI_clamp]); rfl) (by omega) | exact inb_o 5 rfl rfl (by (try simp (disch := omega) only [hn, li, pk_mul, nI_add, nI_clamp]); rfl) (by omega) | exact inb_o 16 rfl rfl (by (try simp (disch := omega) only [hn, li, pk_mul, nI_add, nI_clamp]); rfl) (by omega) | exact inb_o 20 rfl rfl (by (try simp (disch := omega) only [hn, li, pk_mul, nI_add, nI_clamp]); rfl) (by omega) | exact inb_o 30 rfl rfl (by (try simp (disch := omega) only [hn, li, pk_mul, nI_add, nI_clamp]); rfl) (by omega) | exact inb_o 48 rfl rfl (by (try simp (disch := omega) only [hn, li, pk_mul, nI_add, nI_clamp]); rfl) (by omega) | exact inb_o 60 rfl rfl (by (try simp (disch := omega) only [hn, li, pk_mul, nI_add, nI_clamp]); rfl) (by omega) | exact inb_o 80 rfl rfl (by (try simp (disch := omega) only [hn, li, pk_mul, nI_add, nI_clamp]); rfl) (by omega) | exact inb_o 120 rfl rfl (by (try simp (disch := omega) only [hn, li, pk_mul, nI_add, nI_clamp]); rfl) (by omega) | exact inb_o 240 rfl rfl (by (try simp (disch := omega) only [hn, li, pk_mul, nI_add, nI_clamp]); rfl) (by omega) | exact inb_o 900 rfl rfl (by (try simp (disch := omega) only [hn, li, pk_mul, nI_add, nI_clamp]); rfl) (by omega) | exact inb_o 4096 rfl rfl (by (try simp (disch := omega) only [hn, li, pk_mul, nI_add, nI_clamp]); rfl) (by omega) | exact inb_o 3 rfl rfl (by (try simp (disch := omega) only [hn, li, pk_mul, nI_add, nI_clamp]); rfl) (by omega))) ?_ | refine br_t (by ((try simp (disch := omega) only [hn, li, pk_mul, nI_add, nI_clamp, nI_leI, nI_ltI, nI_eq, bI_0, bI_n0, Decidable.not_not, gu_m1]); first | done | omega | assumption)) ?_ | refine br_f (by ((try simp (disch := omega) only [hn, li, pk_mul, nI_add, nI_clamp, nI_leI, nI_ltI, nI_eq, bI_0, bI_n0, Decidable.not_not, gu_m1]); first | done | omega | assumption)) ?_ | refine brn_t (by ((try simp (disch := omega) only [hn, li, pk_mul, nI_add, nI_clamp, nI_leI, nI_ltI, nI_eq, bI_0, bI_n0, Decidable.not_not, gu_m1]); first | done | omega | assumption)) ?_ | refine brn_f (by ((try simp (disch := omega) only [hn, li, pk_mul, nI_add, nI_clamp, nI_leI, nI_ltI, nI_eq, bI_0, bI_n0, Decidable.not_not, gu_m1]); first | done | omega | assumption)) ?_ | refine br_c (fun _ => ?_) (fun _ => ?_) | refine brn_c (fun _ => ?_) (fun _ => ?_))
      exact ret_f (fun z => z hno)
    · intro hno
      refine h (fun i => Nat.beq i 10) 3000 10 _ _ _ ?_
      repeat' (first | refine And.intro (by (first | exact rfl | exact Or.inl rfl | exact Or.inr rfl | exact bI_in | exact inb_o 3060 rfl rfl (by (try simp (disch := omega) only [hn, li, pk_mul, nI_add, nI_clamp]); rfl) (by omega) | exact inb_o 12 rfl rfl (by (try simp (disch := omega) only [hn, li, pk_mul, nI_add, nI_clamp]); rfl) (by omega) | exact inb_o 4 rfl rfl (by (try simp (disch := omega) only [hn, li, pk_mul, nI_add, nI_clamp]); rfl) (by omega) | exact inb_o 5 rfl rfl (by (try simp (disch := omega) only [hn, li, pk_mul, nI_add, nI_clamp]); rfl) (by omega) | exact inb_o 16 rfl rfl (by (try simp (disch := omega) only [hn, li, pk_mul, nI_add, nI_clamp]); rfl) (by omega) | exact inb_o 20 rfl rfl (by (try simp (disch := omega) only [hn, li, pk_mul, nI_add, nI_clamp]); rfl) (by omega) | exact inb_o 30 rfl rfl (by (try simp (disch := omega) only [hn, li, pk_mul, nI_add, nI_clamp]); rfl) (by omega) | exact inb_o 48 rfl rfl (by (try simp (disch := omega) only [hn, li, pk_mul, nI_add, nI_clamp]); rfl) (by omega) | exact inb_o 60 rfl rfl (by (try simp (disch := omega) only [hn, li, pk_mul, nI_add, nI_clamp]); rfl) (by omega) | exact inb_o 80 rfl rfl (by (try simp (disch := omega) only [hn, li, pk_mul, nI_add, nI_clamp]); rfl) (by omega) | exact inb_o 120 rfl rfl (by (try simp (disch := omega) only [hn, li, pk_mul, nI_add, nI_clamp]); rfl) (by omega) | exact inb_o 240 rfl rfl (by (try simp (disch := omega) only [hn, li, pk_mul, nI_add, nI_clamp]); rfl) (by omega) | exact inb_o 900 rfl rfl (by (try simp (disch := omega) only [hn, li, pk_mul, nI_add, nI_clamp]); rfl) (by omega) | exact inb_o 4096 rfl rfl (by (try simp (disch := omega) only [hn, li, pk_mul, nI_add, nI_clamp]); rfl) (by omega) | exact inb_o 3 rfl rfl (by (try simp (disch := omega) only [hn, li, pk_mul, nI_add, nI_clamp]); rfl) (by omega))) ?_ | refine br_t (by ((try simp (disch := omega) only [hn, li, pk_mul, nI_add, nI_clamp, nI_leI, nI_ltI, nI_eq, bI_0, bI_n0, Decidable.not_not, gu_m1]); first | done | omega | assumption)) ?_ | refine br_f (by ((try simp (disch := omega) only [hn, li, pk_mul, nI_add, nI_clamp, nI_leI, nI_ltI, nI_eq, bI_0, bI_n0, Decidable.not_not, gu_m1]); first | done | omega | assumption)) ?_ | refine brn_t (by ((try simp (disch := omega) only [hn, li, pk_mul, nI_add, nI_clamp, nI_leI, nI_ltI, nI_eq, bI_0, bI_n0, Decidable.not_not, gu_m1]); first | done | omega | assumption)) ?_ | refine brn_f (by ((try simp (disch := omega) only [hn, li, pk_mul, nI_add, nI_clamp, nI_leI, nI_ltI, nI_eq, bI_0, bI_n0, Decidable.not_not, gu_m1]); first | done | omega | assumption)) ?_ | refine br_c (fun _ => ?_) (fun _ => ?_) | refine brn_c (fun _ => ?_) (fun _ => ?_))
      refine And.intro ⟨_, _, rfl⟩ ?_
      refine br_c (fun h1 => ?_) (fun h1 => ?_)
      · have h1' := fun z => bI_0.mp h1 ((inS_nI (by omega) (by omega)).mpr z)
        have hk2 := hk (fun o ho => by
          by_cases e : o = t
          · subst e; exact fun z => h1' z.1
          · exact hno o (by omega))
        rw [← nI_1] at hk2
        exact hk2
      · have h1' := (inS_nI (by omega) (by omega)).mp (bI_n0.mp h1)
        refine And.intro ⟨ns, nm, nt, t, hV, hA, ht, rfl⟩ ?_
        refine And.intro ⟨_, _, rfl⟩ ?_
        have hlt2 := ndA_lt hA ht
        have e9 : nI (ndA (mm.1 54 0) (mm.1 54 0 2).toNatClampNeg (nI t).toNatClampNeg) = nI (ndA (mm.1 54 0) nt t) := by rw [en, nI_clamp (by omega)]
        refine br_c (fun h2 => ?_) (fun h2 => ?_)
        · have h2' : ¬ inS (nI (ndA (mm.1 54 0) (mm.1 54 0 2).toNatClampNeg (nI t).toNatClampNeg)) (nI t) := bI_0.mp h2
          rw [e9] at h2'
          have hk2 := hk (fun o ho => by
            by_cases e : o = t
            · subst e; exact fun z => h2' ((inS_nI (by omega) (by omega)).mpr z.2)
            · exact hno o (by omega))
          rw [← nI_1] at hk2
          exact hk2
        · have h2' : inS (nI (ndA (mm.1 54 0) (mm.1 54 0 2).toNatClampNeg (nI t).toNatClampNeg)) (nI t) := bI_n0.mp h2
          rw [e9] at h2'
          refine And.intro (Or.inr rfl) ?_
          exact ret_t (fun z => z t ht ⟨h1', (inS_nI (by omega) (by omega)).mp h2'⟩)
  refine h (fun i => Nat.beq i 8) 3000 0 _ _ _ ?_
  refine And.intro ⟨ns, nm, nt, j, hV, hA, hj, rfl⟩ ?_
  show X 8 [some (vR 12 0), some (vI (nI j)), some (vI (nI (ndA (mm.1 54 0) (mm.1 54 0 2).toNatClampNeg (nI j).toNatClampNeg) ||| 1 <<< (nI j &&& 31))), none] [] mm
  rw [en, ej, nIbit (by omega), nIor]
  refine h (fun i => Nat.beq i 10) 3000 8 _ _ _ ?_
  exact loop 0 (Nat.zero_le _) (fun o ho => by omega)
theorem con_X12_isNever (l : Launch) : CON l y_X12_isNever prog_14_method_145_code 4 (some .boolean) rm_X12_isNever Pre_X12_isNever Fn_X12_isNever := CON_of (by decide) rfl rfl (sa_X12_isNever l) vc_X12_isNever
def Pre_X12_deepOf : PreT := fun m as => ∃ (ns nm nt j : Nat), VMx m ns nm nt ∧ AFo (m.1 54 0) nt ∧ j < nt ∧ as = [vR 12 0, vI (nI j)]
def Fn_X12_deepOf : FnT := fun m as => match as with
  | [_, Sum.inl j] => (some (vI (nI (dpA (m.1 54 0) (m.1 54 0 2).toNatClampNeg j.toNatClampNeg))), m)
  | _ => (none, m)
abbrev y_X12_deepOf : MethodName := ⟨"GivenUpModel", "deepOf", "(I)I"⟩
def P_X12_deepOf : List StpT := [s_aload 0, s_iload 1, s_callV 12 1 Pre_X12_isNever Fn_X12_isNever, s_ifeq 6, s_ic (99), s_goto 10, s_aload 0, s_iload 1, s_callV 12 1 Pre_X12_needsOf Fn_X12_needsOf, s_callS 1 Pre_X12_bits Fn_X12_bits, s_iret]
def pc_X12_deepOf : Nat → Nat := fun i => [0, 1, 2, 5, 8, 10, 13, 14, 15, 18, 21].getD i 0
def dl_X12_deepOf : List (Nat × Instr × Nat) := [(0, .aload_n 0, 1), (1, .iload_n 1, 1), (2, .invokevirtual 448, 3), (5, .ifCond .eq 8, 3), (8, .bipush 99, 2), (10, .goto 11, 3), (13, .aload_n 0, 1), (14, .iload_n 1, 1), (15, .invokevirtual 445, 3), (18, .invokestatic 331, 3), (21, .ireturn, 1)]
theorem dc_X12_deepOf : DEC prog_14_method_146_code pc_X12_deepOf dl_X12_deepOf := DEC_of (by decide +kernel)
abbrev rm_X12_deepOf : Room := { frames := 4, cells := 0, slots := 0, locals := 88 }
set_option maxRecDepth 20000 in
theorem sa_X12_deepOf (l : Launch) : SNDALL l prog_14_method_146_code "GivenUpModel" 2 (some .int) rm_X12_deepOf P_X12_deepOf pc_X12_deepOf := fun p e s m args below meth c cells slots Q D dA ad A RR hC hR => by
  have hM := RTX_room (R := rm_X12_deepOf) hR
  exact ⟨st_aload_n hC (n := 0) (k := 0) (dc_X12_deepOf 0 (0, .aload_n 0, 1) rfl rfl) rfl rfl,
    st_iload_n hC (n := 1) (k := 1) (dc_X12_deepOf 1 (1, .iload_n 1, 1) rfl rfl) rfl rfl,
    st_callV hC (n := 2) (k := 12) (na := 1) (con_X12_isNever l) (dc_X12_deepOf 2 (2, .invokevirtual 448, 3) rfl rfl) rfl wd_1950 wd_160 (by decide) ⟨rfl, rfl, by decide, by decide⟩ hM wd_1947 wd_1949 wd_97 clf_12,
    st_ifeq hC (n := 3) (dc_X12_deepOf 3 (5, .ifCond .eq 8, 3) rfl rfl) rfl (by decide),
    st_bipush hC (n := 4) (x := 99) (dc_X12_deepOf 4 (8, .bipush 99, 2) rfl rfl) rfl (by decide),
    st_goto hC (n := 5) (dc_X12_deepOf 5 (10, .goto 11, 3) rfl rfl) (by decide),
    st_aload_n hC (n := 6) (k := 0) (dc_X12_deepOf 6 (13, .aload_n 0, 1) rfl rfl) rfl rfl,
    st_iload_n hC (n := 7) (k := 1) (dc_X12_deepOf 7 (14, .iload_n 1, 1) rfl rfl) rfl rfl,
    st_callV hC (n := 8) (k := 12) (na := 1) (con_X12_needsOf l) (dc_X12_deepOf 8 (15, .invokevirtual 445, 3) rfl rfl) rfl wd_1954 wd_160 (by decide) ⟨rfl, rfl, by decide, by decide⟩ hM wd_1951 wd_1953 wd_98 clf_12,
    st_callS hC (n := 9) (na := 1) (con_X12_bits l) (dc_X12_deepOf 9 (18, .invokestatic 331, 3) rfl rfl) rfl wd_1957 wd_160 (by decide) ⟨rfl, rfl, by decide, by decide⟩ hM wd_1955 wd_1956,
    st_iret hC (n := 10) hR (dc_X12_deepOf 10 (21, .ireturn, 1) rfl rfl), trivial⟩
theorem vc_X12_deepOf : VC P_X12_deepOf 2 Pre_X12_deepOf Fn_X12_deepOf := by
  rintro mm as hom hoa ⟨ns, nm, nt, j, hV, hA, hj, rfl⟩
  refine ⟨Nat.le_of_ble_eq_true rfl, fun X h => ?_⟩
  have hn : mm.1 54 0 2 = nI nt := hV.2.2.1.1
  have hnt : nt ≤ 12 := hV.2.2.1.2
  have ej : (nI j).toNatClampNeg = j := nI_clamp (by omega)
  have en : (mm.1 54 0 2).toNatClampNeg = nt := by rw [hn, nI_clamp (by omega)]
  have eF : Fn_X12_deepOf mm [vR 12 0, vI (nI j)] = (some (vI (nI (dpA (mm.1 54 0) nt j))), mm) := by
    simp only [Fn_X12_deepOf, ej, en]
  rw [eF] at h
  refine h (fun i => Nat.beq i 6 || Nat.beq i 9) 3000 0 _ _ _ ?_
  refine And.intro ⟨ns, nm, nt, j, hV, hA, hj, rfl⟩ ?_
  refine br_c (fun h1 => ?_) (fun h1 => ?_)
  · have h1' : ¬ nvP (mm.1 54 0) (mm.1 54 0 2).toNatClampNeg (nI j).toNatClampNeg := bI_0.mp h1
    rw [en, ej] at h1'
    show X 6 [some (vR 12 0), some (vI (nI j))] [] mm
    refine h (fun i => Nat.beq i 9) 3000 6 _ _ _ ?_
    refine And.intro ⟨ns, nm, nt, j, hV, hA, hj, rfl⟩ ?_
    show X 9 [some (vR 12 0), some (vI (nI j))] [vI (nI (ndA (mm.1 54 0) (mm.1 54 0 2).toNatClampNeg (nI j).toNatClampNeg))] mm
    rw [en, ej]
    have hl := ndA_lt hA hj
    refine h (fun _ => false) 3000 9 _ _ _ ?_
    refine And.intro ⟨_, hl, rfl⟩ ?_
    refine leaf ?_
    simp only [Fn_X12_bits, dpA, if_neg h1', nI_clamp (show ndA (mm.1 54 0) nt j < 2 ^ 31 by omega)]
  · have h1' : nvP (mm.1 54 0) (mm.1 54 0 2).toNatClampNeg (nI j).toNatClampNeg := bI_n0.mp h1
    rw [en, ej] at h1'
    refine leaf ?_
    simp only [dpA, if_pos h1']
    rfl
theorem con_X12_deepOf (l : Launch) : CON l y_X12_deepOf prog_14_method_146_code 2 (some .int) rm_X12_deepOf Pre_X12_deepOf Fn_X12_deepOf := CON_of (by decide) rfl rfl (sa_X12_deepOf l) vc_X12_deepOf
def Pre_X12_needs : PreT := fun m as => ∃ (ns nm nt : Nat), VMx m ns nm nt ∧ AFo (m.1 54 0) nt ∧ ∃ x : Int32, as = [vR 12 0, vI x]
def Fn_X12_needs : FnT := fun m as => match as with
  | [_, Sum.inl x] => if tgP (m.1 54 0) x then gvM m (nI (ndA (m.1 54 0) (m.1 54 0 2).toNatClampNeg x.toNatClampNeg)) else rfM m 1
  | _ => (none, m)
abbrev y_X12_needs : MethodName := ⟨"GivenUpModel", "needs", "(I)I"⟩
def P_X12_needs : List StpT := [s_aload 0, s_iload 1, s_callV 12 1 Pre_X12_isThing Fn_X12_isThing, s_ifeq 10, s_aload 0, s_aload 0, s_iload 1, s_callV 12 1 Pre_X12_needsOf Fn_X12_needsOf, s_callV 12 1 Pre_X12_gives Fn_X12_gives, s_goto 13, s_aload 0, s_ic (1), s_callV 12 1 Pre_X12_refuse Fn_X12_refuse, s_iret]
def pc_X12_needs : Nat → Nat := fun i => [0, 1, 2, 5, 8, 9, 10, 11, 14, 17, 20, 21, 22, 25].getD i 0
def dl_X12_needs : List (Nat × Instr × Nat) := [(0, .aload_n 0, 1), (1, .iload_n 1, 1), (2, .invokevirtual 313, 3), (5, .ifCond .eq 15, 3), (8, .aload_n 0, 1), (9, .aload_n 0, 1), (10, .iload_n 1, 1), (11, .invokevirtual 445, 3), (14, .invokevirtual 91, 3), (17, .goto 8, 3), (20, .aload_n 0, 1), (21, .iconst 1, 1), (22, .invokevirtual 87, 3), (25, .ireturn, 1)]
theorem dc_X12_needs : DEC prog_14_method_147_code pc_X12_needs dl_X12_needs := DEC_of (by decide +kernel)
abbrev rm_X12_needs : Room := { frames := 3, cells := 0, slots := 0, locals := 65 }
set_option maxRecDepth 20000 in
theorem sa_X12_needs (l : Launch) : SNDALL l prog_14_method_147_code "GivenUpModel" 2 (some .int) rm_X12_needs P_X12_needs pc_X12_needs := fun p e s m args below meth c cells slots Q D dA ad A RR hC hR => by
  have hM := RTX_room (R := rm_X12_needs) hR
  exact ⟨st_aload_n hC (n := 0) (k := 0) (dc_X12_needs 0 (0, .aload_n 0, 1) rfl rfl) rfl rfl,
    st_iload_n hC (n := 1) (k := 1) (dc_X12_needs 1 (1, .iload_n 1, 1) rfl rfl) rfl rfl,
    st_callV hC (n := 2) (k := 12) (na := 1) (con_X12_isThing l) (dc_X12_needs 2 (2, .invokevirtual 313, 3) rfl rfl) rfl wd_1938 wd_160 (by decide) ⟨rfl, rfl, by decide, by decide⟩ hM wd_1935 wd_1937 wd_94 clf_12,
    st_ifeq hC (n := 3) (dc_X12_needs 3 (5, .ifCond .eq 15, 3) rfl rfl) rfl (by decide),
    st_aload_n hC (n := 4) (k := 0) (dc_X12_needs 4 (8, .aload_n 0, 1) rfl rfl) rfl rfl,
    st_aload_n hC (n := 5) (k := 0) (dc_X12_needs 5 (9, .aload_n 0, 1) rfl rfl) rfl rfl,
    st_iload_n hC (n := 6) (k := 1) (dc_X12_needs 6 (10, .iload_n 1, 1) rfl rfl) rfl rfl,
    st_callV hC (n := 7) (k := 12) (na := 1) (con_X12_needsOf l) (dc_X12_needs 7 (11, .invokevirtual 445, 3) rfl rfl) rfl wd_1954 wd_160 (by decide) ⟨rfl, rfl, by decide, by decide⟩ hM wd_1951 wd_1953 wd_98 clf_12,
    st_callV hC (n := 8) (k := 12) (na := 1) (con_X12_gives l) (dc_X12_needs 8 (14, .invokevirtual 91, 3) rfl rfl) rfl wd_1849 wd_160 (by decide) ⟨rfl, rfl, by decide, by decide⟩ hM wd_1846 wd_1848 wd_79 clf_12,
    st_goto hC (n := 9) (dc_X12_needs 9 (17, .goto 8, 3) rfl rfl) (by decide),
    st_aload_n hC (n := 10) (k := 0) (dc_X12_needs 10 (20, .aload_n 0, 1) rfl rfl) rfl rfl,
    st_iconst hC (n := 11) (x := 1) (dc_X12_needs 11 (21, .iconst 1, 1) rfl rfl) rfl (by decide),
    st_callV hC (n := 12) (k := 12) (na := 1) (con_X12_refuse l) (dc_X12_needs 12 (22, .invokevirtual 87, 3) rfl rfl) rfl wd_1758 wd_160 (by decide) ⟨rfl, rfl, by decide, by decide⟩ hM wd_1755 wd_1757 wd_57 clf_12,
    st_iret hC (n := 13) hR (dc_X12_needs 13 (25, .ireturn, 1) rfl rfl), trivial⟩
theorem vc_X12_needs : VC P_X12_needs 2 Pre_X12_needs Fn_X12_needs := by
  rintro mm as hom hoa ⟨ns, nm, nt, hV, hA, x, rfl⟩
  refine ⟨Nat.le_of_ble_eq_true rfl, fun X h => ?_⟩
  refine h (fun _ => false) 3000 0 _ _ _ ?_
  refine And.intro ⟨_, rfl⟩ ?_
  refine br_c (fun h1 => ?_) (fun h1 => ?_)
  · replace h1 := bI_0.mp h1
    refine And.intro ⟨_, rfl⟩ ?_
    exact (if_neg h1).symm
  replace h1 := bI_n0.mp h1
  obtain ⟨j, hj, rfl⟩ := tg_in hV h1
  refine And.intro ⟨ns, nm, nt, j, hV, hA, hj, rfl⟩ ?_
  refine And.intro ⟨_, rfl⟩ ?_
  exact (if_pos h1).symm
theorem con_X12_needs (l : Launch) : CON l y_X12_needs prog_14_method_147_code 2 (some .int) rm_X12_needs Pre_X12_needs Fn_X12_needs := CON_of (by decide) rfl rfl (sa_X12_needs l) vc_X12_needs
def nvS (a : Nat → Int32) (nt : Nat) (s : Int32) : Nat → Int32
  | 0 => 0
  | j + 1 => nvS a nt s j ||| (if a (44 + 3 * j) = s ∧ nvP a nt j then 1 <<< (nI j &&& 31) else 0)

def Pre_X12_neverOf : PreT := fun m as => ∃ (ns nm nt : Nat), VMx m ns nm nt ∧ AFo (m.1 54 0) nt ∧ ∃ s : Int32, as = [vR 12 0, vI s]
def Fn_X12_neverOf : FnT := fun m as => match as with
  | [_, Sum.inl s] => (some (vI (nvS (m.1 54 0) (m.1 54 0 2).toNatClampNeg s (m.1 54 0 2).toNatClampNeg)), m)
  | _ => (none, m)
abbrev y_X12_neverOf : MethodName := ⟨"GivenUpModel", "neverOf", "(I)I"⟩
def P_X12_neverOf : List StpT := [s_ic (0), s_istore 2, s_ic (0), s_istore 3, s_iload 3, s_aload 0, s_getR 12 0 54, s_ic (2), s_iald, s_icge 29, s_iload 2, s_aload 0, s_iload 3, s_callV 12 1 Pre_X12_ownerOf Fn_X12_ownerOf, s_iload 1, s_icne 24, s_aload 0, s_iload 3, s_callV 12 1 Pre_X12_isNever Fn_X12_isNever, s_ifeq 24, s_ic (1), s_iload 3, s_ishl, s_goto 25, s_ic (0), s_ior, s_istore 2, s_iinc 3 (1), s_goto 4, s_iload 2, s_iret]
def pc_X12_neverOf : Nat → Nat := fun i => [0, 1, 2, 3, 4, 5, 6, 9, 10, 11, 14, 15, 16, 17, 20, 21, 24, 25, 26, 29, 32, 33, 34, 35, 38, 39, 40, 41, 44, 47, 48].getD i 0
def dl_X12_neverOf : List (Nat × Instr × Nat) := [(0, .iconst 0, 1), (1, .istore_n 2, 1), (2, .iconst 0, 1), (3, .istore_n 3, 1), (4, .iload_n 3, 1), (5, .aload_n 0, 1), (6, .getfield 7, 3), (9, .iconst 2, 1), (10, .iaload, 1), (11, .if_icmp .ge 36, 3), (14, .iload_n 2, 1), (15, .aload_n 0, 1), (16, .iload_n 3, 1), (17, .invokevirtual 274, 3), (20, .iload_n 1, 1), (21, .if_icmp .ne 17, 3), (24, .aload_n 0, 1), (25, .iload_n 3, 1), (26, .invokevirtual 448, 3), (29, .ifCond .eq 9, 3), (32, .iconst 1, 1), (33, .iload_n 3, 1), (34, .ishl, 1), (35, .goto 4, 3), (38, .iconst 0, 1), (39, .ior, 1), (40, .istore_n 2, 1), (41, .iinc 3 1, 3), (44, .goto (-40), 3), (47, .iload_n 2, 1), (48, .ireturn, 1)]
theorem dc_X12_neverOf : DEC prog_14_method_148_code pc_X12_neverOf dl_X12_neverOf := DEC_of (by decide +kernel)
abbrev rm_X12_neverOf : Room := { frames := 4, cells := 0, slots := 0, locals := 88 }
set_option maxRecDepth 20000 in
theorem sa_X12_neverOf (l : Launch) : SNDALL l prog_14_method_148_code "GivenUpModel" 4 (some .int) rm_X12_neverOf P_X12_neverOf pc_X12_neverOf := fun p e s m args below meth c cells slots Q D dA ad A RR hC hR => by
  have hM := RTX_room (R := rm_X12_neverOf) hR
  exact ⟨st_iconst hC (n := 0) (x := 0) (dc_X12_neverOf 0 (0, .iconst 0, 1) rfl rfl) rfl (by decide),
    st_istore_n hC (n := 1) (k := 2) (dc_X12_neverOf 1 (1, .istore_n 2, 1) rfl rfl) rfl rfl (by decide),
    st_iconst hC (n := 2) (x := 0) (dc_X12_neverOf 2 (2, .iconst 0, 1) rfl rfl) rfl (by decide),
    st_istore_n hC (n := 3) (k := 3) (dc_X12_neverOf 3 (3, .istore_n 3, 1) rfl rfl) rfl rfl (by decide),
    st_iload_n hC (n := 4) (k := 3) (dc_X12_neverOf 4 (4, .iload_n 3, 1) rfl rfl) rfl rfl,
    st_aload_n hC (n := 5) (k := 0) (dc_X12_neverOf 5 (5, .aload_n 0, 1) rfl rfl) rfl rfl,
    st_getR hC (n := 6) (k := 12) (j := 0) (dc_X12_neverOf 6 (6, .getfield 7, 3) rfl rfl) rfl clf_12 (by decide) rfl (by decide) wd_1552,
    st_iconst hC (n := 7) (x := 2) (dc_X12_neverOf 7 (9, .iconst 2, 1) rfl rfl) rfl (by decide),
    st_iald hC (n := 8) (dc_X12_neverOf 8 (10, .iaload, 1) rfl rfl) rfl,
    st_icge hC (n := 9) (dc_X12_neverOf 9 (11, .if_icmp .ge 36, 3) rfl rfl) rfl (by decide),
    st_iload_n hC (n := 10) (k := 2) (dc_X12_neverOf 10 (14, .iload_n 2, 1) rfl rfl) rfl rfl,
    st_aload_n hC (n := 11) (k := 0) (dc_X12_neverOf 11 (15, .aload_n 0, 1) rfl rfl) rfl rfl,
    st_iload_n hC (n := 12) (k := 3) (dc_X12_neverOf 12 (16, .iload_n 3, 1) rfl rfl) rfl rfl,
    st_callV hC (n := 13) (k := 12) (na := 1) (con_X12_ownerOf l) (dc_X12_neverOf 13 (17, .invokevirtual 274, 3) rfl rfl) rfl wd_1896 wd_160 (by decide) ⟨rfl, rfl, by decide, by decide⟩ hM wd_1893 wd_1895 wd_87 clf_12,
    st_iload_n hC (n := 14) (k := 1) (dc_X12_neverOf 14 (20, .iload_n 1, 1) rfl rfl) rfl rfl,
    st_icne hC (n := 15) (dc_X12_neverOf 15 (21, .if_icmp .ne 17, 3) rfl rfl) rfl (by decide),
    st_aload_n hC (n := 16) (k := 0) (dc_X12_neverOf 16 (24, .aload_n 0, 1) rfl rfl) rfl rfl,
    st_iload_n hC (n := 17) (k := 3) (dc_X12_neverOf 17 (25, .iload_n 3, 1) rfl rfl) rfl rfl,
    st_callV hC (n := 18) (k := 12) (na := 1) (con_X12_isNever l) (dc_X12_neverOf 18 (26, .invokevirtual 448, 3) rfl rfl) rfl wd_1950 wd_160 (by decide) ⟨rfl, rfl, by decide, by decide⟩ hM wd_1947 wd_1949 wd_97 clf_12,
    st_ifeq hC (n := 19) (dc_X12_neverOf 19 (29, .ifCond .eq 9, 3) rfl rfl) rfl (by decide),
    st_iconst hC (n := 20) (x := 1) (dc_X12_neverOf 20 (32, .iconst 1, 1) rfl rfl) rfl (by decide),
    st_iload_n hC (n := 21) (k := 3) (dc_X12_neverOf 21 (33, .iload_n 3, 1) rfl rfl) rfl rfl,
    st_ishl hC (n := 22) (dc_X12_neverOf 22 (34, .ishl, 1) rfl rfl) rfl,
    st_goto hC (n := 23) (dc_X12_neverOf 23 (35, .goto 4, 3) rfl rfl) (by decide),
    st_iconst hC (n := 24) (x := 0) (dc_X12_neverOf 24 (38, .iconst 0, 1) rfl rfl) rfl (by decide),
    st_ior hC (n := 25) (dc_X12_neverOf 25 (39, .ior, 1) rfl rfl) rfl,
    st_istore_n hC (n := 26) (k := 2) (dc_X12_neverOf 26 (40, .istore_n 2, 1) rfl rfl) rfl rfl (by decide),
    st_iinc hC (n := 27) (x := 1) (dc_X12_neverOf 27 (41, .iinc 3 1, 3) rfl rfl) rfl (by decide) (by decide),
    st_goto hC (n := 28) (dc_X12_neverOf 28 (44, .goto (-40), 3) rfl rfl) (by decide),
    st_iload_n hC (n := 29) (k := 2) (dc_X12_neverOf 29 (47, .iload_n 2, 1) rfl rfl) rfl rfl,
    st_iret hC (n := 30) hR (dc_X12_neverOf 30 (48, .ireturn, 1) rfl rfl), trivial⟩
theorem vc_X12_neverOf : VC P_X12_neverOf 4 Pre_X12_neverOf Fn_X12_neverOf := by
  rintro mm as hom hoa ⟨ns, nm, n, hV, hA, s, rfl⟩
  refine ⟨Nat.le_of_ble_eq_true rfl, fun X h => ?_⟩
  have hn : mm.1 54 0 2 = nI n := hV.2.2.1.1
  have hn12 : n ≤ 12 := hV.2.2.1.2
  have en : (mm.1 54 0 2).toNatClampNeg = n := by rw [hn, nI_clamp (by omega)]
  have loop : ∀ t, t ≤ n → X 4 [some (vR 12 0), some (vI s), some (vI (nvS (mm.1 54 0) n s t)), some (vI (nI t))] [] mm := by
    refine up_ind n ?_ (fun t ht hk => ?_)
    · refine h (fun i => Nat.beq i 4) 3000 4 _ _ _ ?_
      repeat' (first | refine And.intro (by (first | exact rfl | exact Or.inl rfl | exact Or.inr rfl | exact bI_in | exact inb_o 3060 rfl rfl (by (try simp (disch := omega) only [hn, li, pk_mul, nI_add, nI_clamp]); rfl) (by omega) | exact inb_o 12 rfl rfl (by (try simp (disch := omega) only [hn, li, pk_mul, nI_add, nI_clamp]); rfl) (by omega) | exact inb_o 4 rfl rfl (by (try simp (disch := omega) only [hn, li, pk_mul, nI_add, nI_clamp]); rfl) (by omega) | exact inb_o 5 rfl rfl (by (try simp (disch := omega) only [hn, li, pk_mul, nI_add, nI_clamp]); rfl) (by omega) | exact inb_o 16 rfl rfl (by (try simp (disch := omega) only [hn, li, pk_mul, nI_add, nI_clamp]); rfl) (by omega) | exact inb_o 20 rfl rfl (by (try simp (disch := omega) only [hn, li, pk_mul, nI_add, nI_clamp]); rfl) (by omega) | exact inb_o 30 rfl rfl (by (try simp (disch := omega) only [hn, li, pk_mul, nI_add, nI_clamp]); rfl) (by omega) | exact inb_o 48 rfl rfl (by (try simp (disch := omega) only [hn, li, pk_mul, nI_add, nI_clamp]); rfl) (by omega) | exact inb_o 60 rfl rfl (by (try simp (disch := omega) only [hn, li, pk_mul, nI_add, nI_clamp]); rfl) (by omega) | exact inb_o 80 rfl rfl (by (try simp (disch := omega) only [hn, li, pk_mul, nI_add, nI_clamp]); rfl) (by omega) | exact inb_o 120 rfl rfl (by (try simp (disch := omega) only [hn, li, pk_mul, nI_add, nI_clamp]); rfl) (by omega) | exact inb_o 240 rfl rfl (by (try simp (disch := omega) only [hn, li, pk_mul, nI_add, nI_clamp]); rfl) (by omega) | exact inb_o 900 rfl rfl (by (try simp (disch := omega) only [hn, li, pk_mul, nI_add, nI_clamp]); rfl) (by omega) | exact inb_o 4096 rfl rfl (by (try simp (disch := omega) only [hn, li, pk_mul, nI_add, nI_clamp]); rfl) (by omega) | exact inb_o 3 rfl rfl (by (try simp (disch := omega) only [hn, li, pk_mul, nI_add, nI_clamp]); rfl) (by omega))) ?_ | refine br_t (by ((try simp (disch := omega) only [hn, li, pk_mul, nI_add, nI_clamp, nI_leI, nI_ltI, nI_eq, bI_0, bI_n0, Decidable.not_not, gu_m1]); first | done | omega | assumption)) ?_ | refine br_f (by ((try simp (disch := omega) only [hn, li, pk_mul, nI_add, nI_clamp, nI_leI, nI_ltI, nI_eq, bI_0, bI_n0, Decidable.not_not, gu_m1]); first | done | omega | assumption)) ?_ | refine brn_t (by ((try simp (disch := omega) only [hn, li, pk_mul, nI_add, nI_clamp, nI_leI, nI_ltI, nI_eq, bI_0, bI_n0, Decidable.not_not, gu_m1]); first | done | omega | assumption)) ?_ | refine brn_f (by ((try simp (disch := omega) only [hn, li, pk_mul, nI_add, nI_clamp, nI_leI, nI_ltI, nI_eq, bI_0, bI_n0, Decidable.not_not, gu_m1]); first | done | omega | assumption)) ?_ | refine br_c (fun _ => ?_) (fun _ => ?_) | refine brn_c (fun _ => ?_) (fun _ => ?_))
      (refine leaf ?_; simp (disch := omega) only [Fn_X12_neverOf, hn, li, pk_mul, nI_add, nI_clamp])
    · have et : (nI t).toNatClampNeg = t := nI_clamp (by omega)
      refine h (fun i => Nat.beq i 4) 3000 4 _ _ _ ?_
      repeat' (first | refine And.intro (by (first | exact rfl | exact Or.inl rfl | exact Or.inr rfl | exact bI_in | exact inb_o 3060 rfl rfl (by (try simp (disch := omega) only [hn, li, pk_mul, nI_add, nI_clamp]); rfl) (by omega) | exact inb_o 12 rfl rfl (by (try simp (disch := omega) only [hn, li, pk_mul, nI_add, nI_clamp]); rfl) (by omega) | exact inb_o 4 rfl rfl (by (try simp (disch := omega) only [hn, li, pk_mul, nI_add, nI_clamp]); rfl) (by omega) | exact inb_o 5 rfl rfl (by (try simp (disch := omega) only [hn, li, pk_mul, nI_add, nI_clamp]); rfl) (by omega) | exact inb_o 16 rfl rfl (by (try simp (disch := omega) only [hn, li, pk_mul, nI_add, nI_clamp]); rfl) (by omega) | exact inb_o 20 rfl rfl (by (try simp (disch := omega) only [hn, li, pk_mul, nI_add, nI_clamp]); rfl) (by omega) | exact inb_o 30 rfl rfl (by (try simp (disch := omega) only [hn, li, pk_mul, nI_add, nI_clamp]); rfl) (by omega) | exact inb_o 48 rfl rfl (by (try simp (disch := omega) only [hn, li, pk_mul, nI_add, nI_clamp]); rfl) (by omega) | exact inb_o 60 rfl rfl (by (try simp (disch := omega) only [hn, li, pk_mul, nI_add, nI_clamp]); rfl) (by omega) | exact inb_o 80 rfl rfl (by (try simp (disch := omega) only [hn, li, pk_mul, nI_add, nI_clamp]); rfl) (by omega) | exact inb_o 120 rfl rfl (by (try simp (disch := omega) only [hn, li, pk_mul, nI_add, nI_clamp]); rfl) (by omega) | exact inb_o 240 rfl rfl (by (try simp (disch := omega) only [hn, li, pk_mul, nI_add, nI_clamp]); rfl) (by omega) | exact inb_o 900 rfl rfl (by (try simp (disch := omega) only [hn, li, pk_mul, nI_add, nI_clamp]); rfl) (by omega) | exact inb_o 4096 rfl rfl (by (try simp (disch := omega) only [hn, li, pk_mul, nI_add, nI_clamp]); rfl) (by omega) | exact inb_o 3 rfl rfl (by (try simp (disch := omega) only [hn, li, pk_mul, nI_add, nI_clamp]); rfl) (by omega))) ?_ | refine br_t (by ((try simp (disch := omega) only [hn, li, pk_mul, nI_add, nI_clamp, nI_leI, nI_ltI, nI_eq, bI_0, bI_n0, Decidable.not_not, gu_m1]); first | done | omega | assumption)) ?_ | refine br_f (by ((try simp (disch := omega) only [hn, li, pk_mul, nI_add, nI_clamp, nI_leI, nI_ltI, nI_eq, bI_0, bI_n0, Decidable.not_not, gu_m1]); first | done | omega | assumption)) ?_ | refine brn_t (by ((try simp (disch := omega) only [hn, li, pk_mul, nI_add, nI_clamp, nI_leI, nI_ltI, nI_eq, bI_0, bI_n0, Decidable.not_not, gu_m1]); first | done | omega | assumption)) ?_ | refine brn_f (by ((try simp (disch := omega) only [hn, li, pk_mul, nI_add, nI_clamp, nI_leI, nI_ltI, nI_eq, bI_0, bI_n0, Decidable.not_not, gu_m1]); first | done | omega | assumption)) ?_ | refine br_c (fun _ => ?_) (fun _ => ?_) | refine brn_c (fun _ => ?_) (fun _ => ?_))
      refine And.intro ⟨t, by omega, rfl⟩ ?_
      repeat' (first | refine And.intro (by (first | exact rfl | exact Or.inl rfl | exact Or.inr rfl | exact bI_in | exact inb_o 3060 rfl rfl (by (try simp (disch := omega) only [hn, li, pk_mul, nI_add, nI_clamp]); rfl) (by omega) | exact inb_o 12 rfl rfl (by (try simp (disch := omega) only [hn, li, pk_mul, nI_add, nI_clamp]); rfl) (by omega) | exact inb_o 4 rfl rfl (by (try simp (disch := omega) only [hn, li, pk_mul, nI_add, nI_clamp]); rfl) (by omega) | exact inb_o 5 rfl rfl (by (try simp (disch := omega) only [hn, li, pk_mul, nI_add, nI_clamp]); rfl) (by omega) | exact inb_o 16 rfl rfl (by (try simp (disch := omega) only [hn, li, pk_mul, nI_add, nI_clamp]); rfl) (by omega) | exact inb_o 20 rfl rfl (by (try simp (disch := omega) only [hn, li, pk_mul, nI_add, nI_clamp]); rfl) (by omega) | exact inb_o 30 rfl rfl (by (try simp (disch := omega) only [hn, li, pk_mul, nI_add, nI_clamp]); rfl) (by omega) | exact inb_o 48 rfl rfl (by (try simp (disch := omega) only [hn, li, pk_mul, nI_add, nI_clamp]); rfl) (by omega) | exact inb_o 60 rfl rfl (by (try simp (disch := omega) only [hn, li, pk_mul, nI_add, nI_clamp]); rfl) (by omega) | exact inb_o 80 rfl rfl (by (try simp (disch := omega) only [hn, li, pk_mul, nI_add, nI_clamp]); rfl) (by omega) | exact inb_o 120 rfl rfl (by (try simp (disch := omega) only [hn, li, pk_mul, nI_add, nI_clamp]); rfl) (by omega) | exact inb_o 240 rfl rfl (by (try simp (disch := omega) only [hn, li, pk_mul, nI_add, nI_clamp]); rfl) (by omega) | exact inb_o 900 rfl rfl (by (try simp (disch := omega) only [hn, li, pk_mul, nI_add, nI_clamp]); rfl) (by omega) | exact inb_o 4096 rfl rfl (by (try simp (disch := omega) only [hn, li, pk_mul, nI_add, nI_clamp]); rfl) (by omega) | exact inb_o 3 rfl rfl (by (try simp (disch := omega) only [hn, li, pk_mul, nI_add, nI_clamp]); rfl) (by omega))) ?_ | refine br_t (by ((try simp (disch := omega) only [hn, li, pk_mul, nI_add, nI_clamp, nI_leI, nI_ltI, nI_eq, bI_0, bI_n0, Decidable.not_not, gu_m1]); first | done | omega | assumption)) ?_ | refine br_f (by ((try simp (disch := omega) only [hn, li, pk_mul, nI_add, nI_clamp, nI_leI, nI_ltI, nI_eq, bI_0, bI_n0, Decidable.not_not, gu_m1]); first | done | omega | assumption)) ?_ | refine brn_t (by ((try simp (disch := omega) only [hn, li, pk_mul, nI_add, nI_clamp, nI_leI, nI_ltI, nI_eq, bI_0, bI_n0, Decidable.not_not, gu_m1]); first | done | omega | assumption)) ?_ | refine brn_f (by ((try simp (disch := omega) only [hn, li, pk_mul, nI_add, nI_clamp, nI_leI, nI_ltI, nI_eq, bI_0, bI_n0, Decidable.not_not, gu_m1]); first | done | omega | assumption)) ?_ | refine br_c (fun _ => ?_) (fun _ => ?_) | refine brn_c (fun _ => ?_) (fun _ => ?_))
      · rename_i h1
        simp (disch := omega) only [li, pk_mul, nI_add, nI_clamp, nI_leI, nI_ltI, nI_eq, bI_0, bI_n0, Decidable.not_not, gu_m1] at h1
        rw [nvS, if_neg (fun z => h1 z.1), ← nI_1] at hk
        exact hk
      · rename_i h1
        simp (disch := omega) only [li, pk_mul, nI_add, nI_clamp, nI_leI, nI_ltI, nI_eq, bI_0, bI_n0, Decidable.not_not, gu_m1] at h1
        refine And.intro ⟨ns, nm, n, t, hV, hA, ht, rfl⟩ ?_
        refine br_c (fun h2 => ?_) (fun h2 => ?_)
        · have h2' : ¬ nvP (mm.1 54 0) (mm.1 54 0 2).toNatClampNeg (nI t).toNatClampNeg := bI_0.mp h2
          rw [et, en] at h2'
          rw [nvS, if_neg (fun z => h2' z.2), ← nI_1] at hk
          exact hk
        · have h2' : nvP (mm.1 54 0) (mm.1 54 0 2).toNatClampNeg (nI t).toNatClampNeg := bI_n0.mp h2
          rw [et, en] at h2'
          rw [nvS, if_pos ⟨h1, h2'⟩, ← nI_1] at hk
          exact hk
  refine h (fun i => Nat.beq i 4) 3000 0 _ _ _ ?_
  exact loop 0 (Nat.zero_le n)
theorem con_X12_neverOf (l : Launch) : CON l y_X12_neverOf prog_14_method_148_code 4 (some .int) rm_X12_neverOf Pre_X12_neverOf Fn_X12_neverOf := CON_of (by decide) rfl rfl (sa_X12_neverOf l) vc_X12_neverOf
def Pre_X12_never : PreT := fun m as => ∃ (ns nm nt : Nat), VMx m ns nm nt ∧ AFo (m.1 54 0) nt ∧ ∃ s : Int32, as = [vR 12 0, vI s]
def Fn_X12_never : FnT := fun m as => match as with
  | [_, Sum.inl x] => if suP (m.1 54 0) x then gvM m (nvS (m.1 54 0) (m.1 54 0 2).toNatClampNeg x (m.1 54 0 2).toNatClampNeg) else rfM m 1
  | _ => (none, m)
abbrev y_X12_never : MethodName := ⟨"GivenUpModel", "never", "(I)I"⟩
def P_X12_never : List StpT := [s_aload 0, s_iload 1, s_callV 12 1 Pre_X12_isSuitor Fn_X12_isSuitor, s_ifeq 10, s_aload 0, s_aload 0, s_iload 1, s_callV 12 1 Pre_X12_neverOf Fn_X12_neverOf, s_callV 12 1 Pre_X12_gives Fn_X12_gives, s_goto 13, s_aload 0, s_ic (1), s_callV 12 1 Pre_X12_refuse Fn_X12_refuse, s_iret]
def pc_X12_never : Nat → Nat := fun i => [0, 1, 2, 5, 8, 9, 10, 11, 14, 17, 20, 21, 22, 25].getD i 0
def dl_X12_never : List (Nat × Instr × Nat) := [(0, .aload_n 0, 1), (1, .iload_n 1, 1), (2, .invokevirtual 265, 3), (5, .ifCond .eq 15, 3), (8, .aload_n 0, 1), (9, .aload_n 0, 1), (10, .iload_n 1, 1), (11, .invokevirtual 451, 3), (14, .invokevirtual 91, 3), (17, .goto 8, 3), (20, .aload_n 0, 1), (21, .iconst 1, 1), (22, .invokevirtual 87, 3), (25, .ireturn, 1)]
theorem dc_X12_never : DEC prog_14_method_149_code pc_X12_never dl_X12_never := DEC_of (by decide +kernel)
abbrev rm_X12_never : Room := { frames := 5, cells := 0, slots := 0, locals := 111 }
set_option maxRecDepth 20000 in
theorem sa_X12_never (l : Launch) : SNDALL l prog_14_method_149_code "GivenUpModel" 2 (some .int) rm_X12_never P_X12_never pc_X12_never := fun p e s m args below meth c cells slots Q D dA ad A RR hC hR => by
  have hM := RTX_room (R := rm_X12_never) hR
  exact ⟨st_aload_n hC (n := 0) (k := 0) (dc_X12_never 0 (0, .aload_n 0, 1) rfl rfl) rfl rfl,
    st_iload_n hC (n := 1) (k := 1) (dc_X12_never 1 (1, .iload_n 1, 1) rfl rfl) rfl rfl,
    st_callV hC (n := 2) (k := 12) (na := 1) (con_X12_isSuitor l) (dc_X12_never 2 (2, .invokevirtual 265, 3) rfl rfl) rfl wd_1885 wd_160 (by decide) ⟨rfl, rfl, by decide, by decide⟩ hM wd_1882 wd_1884 wd_85 clf_12,
    st_ifeq hC (n := 3) (dc_X12_never 3 (5, .ifCond .eq 15, 3) rfl rfl) rfl (by decide),
    st_aload_n hC (n := 4) (k := 0) (dc_X12_never 4 (8, .aload_n 0, 1) rfl rfl) rfl rfl,
    st_aload_n hC (n := 5) (k := 0) (dc_X12_never 5 (9, .aload_n 0, 1) rfl rfl) rfl rfl,
    st_iload_n hC (n := 6) (k := 1) (dc_X12_never 6 (10, .iload_n 1, 1) rfl rfl) rfl rfl,
    st_callV hC (n := 7) (k := 12) (na := 1) (con_X12_neverOf l) (dc_X12_never 7 (11, .invokevirtual 451, 3) rfl rfl) rfl wd_2263 wd_160 (by decide) ⟨rfl, rfl, by decide, by decide⟩ hM wd_2260 wd_2262 wd_133 clf_12,
    st_callV hC (n := 8) (k := 12) (na := 1) (con_X12_gives l) (dc_X12_never 8 (14, .invokevirtual 91, 3) rfl rfl) rfl wd_1849 wd_160 (by decide) ⟨rfl, rfl, by decide, by decide⟩ hM wd_1846 wd_1848 wd_79 clf_12,
    st_goto hC (n := 9) (dc_X12_never 9 (17, .goto 8, 3) rfl rfl) (by decide),
    st_aload_n hC (n := 10) (k := 0) (dc_X12_never 10 (20, .aload_n 0, 1) rfl rfl) rfl rfl,
    st_iconst hC (n := 11) (x := 1) (dc_X12_never 11 (21, .iconst 1, 1) rfl rfl) rfl (by decide),
    st_callV hC (n := 12) (k := 12) (na := 1) (con_X12_refuse l) (dc_X12_never 12 (22, .invokevirtual 87, 3) rfl rfl) rfl wd_1758 wd_160 (by decide) ⟨rfl, rfl, by decide, by decide⟩ hM wd_1755 wd_1757 wd_57 clf_12,
    st_iret hC (n := 13) hR (dc_X12_never 13 (25, .ireturn, 1) rfl rfl), trivial⟩
theorem vc_X12_never : VC P_X12_never 2 Pre_X12_never Fn_X12_never := by
  rintro mm as hom hoa ⟨ns, nm, nt, hV, hA, x, rfl⟩
  refine ⟨Nat.le_of_ble_eq_true rfl, fun X h => ?_⟩
  refine h (fun _ => false) 3000 0 _ _ _ ?_
  refine And.intro ⟨_, rfl⟩ ?_
  refine br_c (fun h1 => ?_) (fun h1 => ?_)
  · replace h1 := bI_0.mp h1
    refine And.intro ⟨_, rfl⟩ ?_
    exact (if_neg h1).symm
  replace h1 := bI_n0.mp h1
  refine And.intro ⟨ns, nm, nt, hV, hA, _, rfl⟩ ?_
  refine And.intro ⟨_, rfl⟩ ?_
  exact (if_pos h1).symm
theorem con_X12_never (l : Launch) : CON l y_X12_never prog_14_method_149_code 2 (some .int) rm_X12_never Pre_X12_never Fn_X12_never := CON_of (by decide) rfl rfl (sa_X12_never l) vc_X12_never
