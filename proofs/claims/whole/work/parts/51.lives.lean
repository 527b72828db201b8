/-! PART 51: the model: draws, what a STEP does -/

/-- the set of the first n that are so -/
def stN (P : Nat → Prop) [DecidablePred P] : Nat → Nat
  | 0 => 0
  | j + 1 => stN P j ||| (if P j then 2 ^ j else 0)
theorem stN_lt (P : Nat → Prop) [DecidablePred P] : ∀ n, stN P n < 2 ^ n
  | 0 => by show 0 < 2 ^ 0; decide
  | n + 1 => by
    rw [stN]
    refine Nat.or_lt_two_pow (Nat.lt_of_lt_of_le (stN_lt P n) (Nat.pow_le_pow_right (by omega) (by omega))) ?_
    split
    · exact Nat.pow_lt_pow_right (by omega) (by omega)
    · exact Nat.two_pow_pos _
theorem stN_bit (P : Nat → Prop) [DecidablePred P] : ∀ n j, (stN P n).testBit j = true ↔ j < n ∧ P j
  | 0, j => by
    rw [stN, Nat.zero_testBit]
    exact ⟨fun z => Bool.noConfusion z, fun z => absurd z.1 (by omega)⟩
  | n + 1, j => by
    rw [stN, Nat.testBit_or, Bool.or_eq_true, stN_bit P n j]
    by_cases hp : P n
    · rw [if_pos hp, Nat.testBit_two_pow, decide_eq_true_eq]
      constructor
      · rintro (⟨h1, h2⟩ | h)
        · exact ⟨by omega, h2⟩
        · rw [← h]; exact ⟨by omega, hp⟩
      · rintro ⟨h1, h2⟩
        by_cases e : n = j
        · exact Or.inr e
        · exact Or.inl ⟨by omega, h2⟩
    · rw [if_neg hp, Nat.zero_testBit]
      constructor
      · rintro (⟨h1, h2⟩ | h)
        · exact ⟨by omega, h2⟩
        · exact Bool.noConfusion h
      · rintro ⟨h1, h2⟩
        by_cases e : n = j
        · exact absurd (e ▸ h2) hp
        · exact Or.inl ⟨by omega, h2⟩
theorem st_or {x : Int32} {v n : Nat} (P : Prop) [Decidable P] (h : x = nI v) (hn : n < 31) : x ||| (if P then 1 <<< (nI n &&& 31) else 0) = nI (v ||| (if P then 2 ^ n else 0)) := by
  rw [h]
  by_cases hp : P
  · rw [if_pos hp, if_pos hp, nIbit hn, nIor]
  · rw [if_neg hp, if_neg hp, show (0 : Int32) = nI 0 from rfl, nIor]
theorem gds_st (a : Nat → Int32) (s : Int32) : ∀ n, n ≤ 31 → gds a s n = nI (stN (fun j => a (44 + 3 * j) = s) n)
  | 0, _ => rfl
  | n + 1, h => st_or _ (gds_st a s n (by omega)) (by omega)
theorem myA_st (a : Nat → Int32) (s : Int32) : ∀ n, n ≤ 31 → myA a s n = nI (stN (fun j => a (44 + 3 * j) = s ∧ mgA a j) n)
  | 0, _ => rfl
  | n + 1, h => st_or _ (myA_st a s n (by omega)) (by omega)
def drN (d : Nat) : Nat := (d * 2927 + 11129) % 65536

def Pre_X12_draw : PreT := fun m as => ∃ d b : Nat, m.1 12 0 34 = nI d ∧ d < 65536 ∧ 1 ≤ b ∧ b ≤ 12 ∧ as = [vR 12 0, vI (nI b)]
def Fn_X12_draw : FnT := fun m as => match as with
  | [_, Sum.inl b] => (some (vI (nI (drN (m.1 12 0 34).toNatClampNeg / 8 % b.toNatClampNeg))), mI m 12 0 34 (nI (drN (m.1 12 0 34).toNatClampNeg)))
  | _ => (none, m)
--tpl rfl || nI (drN ({r 1 12 0 34}).toNatClampNeg / 8 % {1n}) || mI {m} 12 0 34 (nI (drN ({r 1 12 0 34}).toNatClampNeg))
abbrev y_X12_draw : MethodName := ⟨"GivenUpModel", "draw", "(I)I"⟩
def P_X12_draw : List StpT := [s_aload 0, s_aload 0, s_getI 12 34, s_ic (2927), s_imul, s_ic (11129), s_iadd, s_ic (65536), s_irem, s_putI 12 34, s_aload 0, s_getI 12 34, s_ic (8), s_idiv, s_iload 1, s_irem, s_iret]
def pc_X12_draw : Nat → Nat := fun i => [0, 1, 2, 5, 8, 9, 12, 13, 16, 17, 20, 21, 24, 26, 27, 28, 29].getD i 0
def dl_X12_draw : List (Nat × Instr × Nat) := [(0, .aload_n 0, 1), (1, .aload_n 0, 1), (2, .getfield 454, 3), (5, .sipush 2927, 3), (8, .imul, 1), (9, .sipush 11129, 3), (12, .iadd, 1), (13, .ldc_w 457, 3), (16, .irem, 1), (17, .putfield 454, 3), (20, .aload_n 0, 1), (21, .getfield 454, 3), (24, .bipush 8, 2), (26, .idiv, 1), (27, .iload_n 1, 1), (28, .irem, 1), (29, .ireturn, 1)]
theorem dc_X12_draw : DEC prog_14_method_153_code pc_X12_draw dl_X12_draw := DEC_of (by decide +kernel)
abbrev rm_X12_draw : Room := { frames := 0, cells := 0, slots := 0, locals := 0 }
set_option maxRecDepth 20000 in
theorem sa_X12_draw (l : Launch) : SNDALL l prog_14_method_153_code "GivenUpModel" 2 (some .int) rm_X12_draw P_X12_draw pc_X12_draw := fun p e s m args below meth c cells slots Q D dA ad A RR hC hR => by
  have hM := RTX_room (R := rm_X12_draw) hR
  exact ⟨st_aload_n hC (n := 0) (k := 0) (dc_X12_draw 0 (0, .aload_n 0, 1) rfl rfl) rfl rfl,
    st_aload_n hC (n := 1) (k := 0) (dc_X12_draw 1 (1, .aload_n 0, 1) rfl rfl) rfl rfl,
    st_getI hC (n := 2) (k := 12) (j := 34) (dc_X12_draw 2 (2, .getfield 454, 3) rfl rfl) rfl clf_12 (by decide) rfl wd_1586,
    st_sipush hC (n := 3) (x := 2927) (dc_X12_draw 3 (5, .sipush 2927, 3) rfl rfl) rfl (by decide),
    st_imul hC (n := 4) (dc_X12_draw 4 (8, .imul, 1) rfl rfl) rfl,
    st_sipush hC (n := 5) (x := 11129) (dc_X12_draw 5 (9, .sipush 11129, 3) rfl rfl) rfl (by decide),
    st_iadd hC (n := 6) (dc_X12_draw 6 (12, .iadd, 1) rfl rfl) rfl,
    st_ldcw hC (n := 7) (x := 65536) (dc_X12_draw 7 (13, .ldc_w 457, 3) rfl rfl) rfl wd_2301,
    st_irem hC (n := 8) (dc_X12_draw 8 (16, .irem, 1) rfl rfl) rfl,
    st_putI hC (n := 9) (k := 12) (j := 34) (dc_X12_draw 9 (17, .putfield 454, 3) rfl rfl) rfl clf_12 (by decide) rfl rfl rfl wd_1586,
    st_aload_n hC (n := 10) (k := 0) (dc_X12_draw 10 (20, .aload_n 0, 1) rfl rfl) rfl rfl,
    st_getI hC (n := 11) (k := 12) (j := 34) (dc_X12_draw 11 (21, .getfield 454, 3) rfl rfl) rfl clf_12 (by decide) rfl wd_1586,
    st_bipush hC (n := 12) (x := 8) (dc_X12_draw 12 (24, .bipush 8, 2) rfl rfl) rfl (by decide),
    st_idiv hC (n := 13) (dc_X12_draw 13 (26, .idiv, 1) rfl rfl) rfl,
    st_iload_n hC (n := 14) (k := 1) (dc_X12_draw 14 (27, .iload_n 1, 1) rfl rfl) rfl rfl,
    st_irem hC (n := 15) (dc_X12_draw 15 (28, .irem, 1) rfl rfl) rfl,
    st_iret hC (n := 16) hR (dc_X12_draw 16 (29, .ireturn, 1) rfl rfl), trivial⟩
set_option maxRecDepth 8000 in
theorem vc_X12_draw : VC P_X12_draw 2 Pre_X12_draw Fn_X12_draw := by
  rintro mm as hom hoa ⟨d, b, hd, hd2, hb1, hb2, rfl⟩
  refine ⟨Nat.le_of_ble_eq_true rfl, fun X h => ?_⟩
  have ed : (nI d).toNatClampNeg = d := nI_clamp (by omega)
  have eb : (nI b).toNatClampNeg = b := nI_clamp (by omega)
  have hF : Fn_X12_draw mm [vR 12 0, vI (nI b)] = (some (vI (nI (drN d / 8 % b))), mI mm 12 0 34 (nI (drN d))) := by
    show (some (vI (nI (drN (mm.1 12 0 34).toNatClampNeg / 8 % (nI b).toNatClampNeg))), mI mm 12 0 34 (nI (drN (mm.1 12 0 34).toNatClampNeg))) = _
    rw [hd, ed, eb]
  rw [hF] at h
  have hdr : drN d < 65536 := Nat.mod_lt _ (by omega)
  have e1 : nI d * 2927 + 11129 - (nI d * 2927 + 11129) / 65536 * 65536 = nI (drN d) := by
    rw [show (2927 : Int32) = nI 2927 from rfl, show (11129 : Int32) = nI 11129 from rfl, show (65536 : Int32) = nI 65536 from rfl, pk_mul, nI_add]
    exact nIrm (by omega) (by omega) (by omega)
  have e2 : nI (drN d) / 8 = nI (drN d / 8) := by
    rw [show (8 : Int32) = nI 8 from rfl]
    exact nIdv (by omega) (by omega) (by omega)
  have e3 : nI (drN d / 8) - nI (drN d / 8) / nI b * nI b = nI (drN d / 8 % b) := nIrm (by omega) (by omega) (by omega)
  show X 0 [some (vR 12 0), some (vI (nI b))] [] mm
  refine h (fun _ => false) 3000 0 _ _ _ ?_
  refine And.intro (by decide) ?_
  refine And.intro (by decide) ?_
  refine And.intro (fun z => by have := (nI_eq (a := b) (b := 0) (by omega) (by omega)).mp z; omega) ?_
  show ((some (vI ((((((mm.1 12 0 34) * 2927) + 11129) - (((mm.1 12 0 34) * 2927) + 11129) / 65536 * 65536) / 8) - (((((mm.1 12 0 34) * 2927) + 11129) - (((mm.1 12 0 34) * 2927) + 11129) / 65536 * 65536) / 8) / (nI b) * (nI b))) : Option MV), mI mm 12 0 34 ((((mm.1 12 0 34) * 2927) + 11129) - (((mm.1 12 0 34) * 2927) + 11129) / 65536 * 65536)) = _
  rw [hd, e1, e2, e3]
theorem con_X12_draw (l : Launch) : CON l y_X12_draw prog_14_method_153_code 2 (some .int) rm_X12_draw Pre_X12_draw Fn_X12_draw := CON_of (by decide) rfl rfl (sa_X12_draw l) vc_X12_draw
def pbP (m : MM) (j : Nat) : PR := if mgA (m.1 54 0) j then (true, mI (putA m 8 j) 70 0 2 (m.1 70 0 2 + 1)) else (false, m)

--tpl ⟨_, _, _, {1N}, by assumption, by omega, rfl⟩ || bI ((pbP {m} {1n}).1 = true) || (pbP {m} {1n}).2
def Pre_X12_partsBy : PreT := fun m as => ∃ ns nm nt j, VMx m ns nm nt ∧ j < nt ∧ as = [vR 12 0, vI (nI j)]
def Fn_X12_partsBy : FnT := fun m as => match as with
  | [_, Sum.inl j] => (some (vI (bI ((pbP m j.toNatClampNeg).1 = true))), (pbP m j.toNatClampNeg).2)
  | _ => (none, m)
abbrev y_X12_partsBy : MethodName := ⟨"GivenUpModel", "partsBy", "(I)Z"⟩
def P_X12_partsBy : List StpT := [s_aload 0, s_iload 1, s_ic (8), s_callV 12 2 Pre_X12_parts Fn_X12_parts, s_ifne 7, s_ic (0), s_zret, s_aload 0, s_getR 12 37 70, s_ic (2), s_dup2, s_iald, s_ic (1), s_iadd, s_iast, s_ic (1), s_zret]
def pc_X12_partsBy : Nat → Nat := fun i => [0, 1, 2, 4, 7, 10, 11, 12, 13, 16, 17, 18, 19, 20, 21, 22, 23].getD i 0
def dl_X12_partsBy : List (Nat × Instr × Nat) := [(0, .aload_n 0, 1), (1, .iload_n 1, 1), (2, .bipush 8, 2), (4, .invokevirtual 328, 3), (7, .ifCond .ne 5, 3), (10, .iconst 0, 1), (11, .ireturn, 1), (12, .aload_n 0, 1), (13, .getfield 71, 3), (16, .iconst 2, 1), (17, .dup2, 1), (18, .iaload, 1), (19, .iconst 1, 1), (20, .iadd, 1), (21, .iastore, 1), (22, .iconst 1, 1), (23, .ireturn, 1)]
theorem dc_X12_partsBy : DEC prog_14_method_155_code pc_X12_partsBy dl_X12_partsBy := DEC_of (by decide +kernel)
abbrev rm_X12_partsBy : Room := { frames := 4, cells := 0, slots := 0, locals := 85 }
set_option maxRecDepth 20000 in
theorem sa_X12_partsBy (l : Launch) : SNDALL l prog_14_method_155_code "GivenUpModel" 2 (some .boolean) rm_X12_partsBy P_X12_partsBy pc_X12_partsBy := fun p e s m args below meth c cells slots Q D dA ad A RR hC hR => by
  have hM := RTX_room (R := rm_X12_partsBy) hR
  exact ⟨st_aload_n hC (n := 0) (k := 0) (dc_X12_partsBy 0 (0, .aload_n 0, 1) rfl rfl) rfl rfl,
    st_iload_n hC (n := 1) (k := 1) (dc_X12_partsBy 1 (1, .iload_n 1, 1) rfl rfl) rfl rfl,
    st_bipush hC (n := 2) (x := 8) (dc_X12_partsBy 2 (2, .bipush 8, 2) rfl rfl) rfl (by decide),
    st_callV hC (n := 3) (k := 12) (na := 2) (con_X12_parts l) (dc_X12_partsBy 3 (4, .invokevirtual 328, 3) rfl rfl) rfl wd_1977 wd_160 (by decide) ⟨rfl, rfl, by decide, by decide⟩ hM wd_1974 wd_1976 wd_100 clf_12,
    st_ifne hC (n := 4) (dc_X12_partsBy 4 (7, .ifCond .ne 5, 3) rfl rfl) rfl (by decide),
    st_iconst hC (n := 5) (x := 0) (dc_X12_partsBy 5 (10, .iconst 0, 1) rfl rfl) rfl (by decide),
    st_zret hC (n := 6) hR (dc_X12_partsBy 6 (11, .ireturn, 1) rfl rfl),
    st_aload_n hC (n := 7) (k := 0) (dc_X12_partsBy 7 (12, .aload_n 0, 1) rfl rfl) rfl rfl,
    st_getR hC (n := 8) (k := 12) (j := 37) (dc_X12_partsBy 8 (13, .getfield 71, 3) rfl rfl) rfl clf_12 (by decide) rfl (by decide) wd_1589,
    st_iconst hC (n := 9) (x := 2) (dc_X12_partsBy 9 (16, .iconst 2, 1) rfl rfl) rfl (by decide),
    st_dup2 hC (n := 10) (dc_X12_partsBy 10 (17, .dup2, 1) rfl rfl) rfl,
    st_iald hC (n := 11) (dc_X12_partsBy 11 (18, .iaload, 1) rfl rfl) rfl,
    st_iconst hC (n := 12) (x := 1) (dc_X12_partsBy 12 (19, .iconst 1, 1) rfl rfl) rfl (by decide),
    st_iadd hC (n := 13) (dc_X12_partsBy 13 (20, .iadd, 1) rfl rfl) rfl,
    st_iast hC (n := 14) (dc_X12_partsBy 14 (21, .iastore, 1) rfl rfl) rfl,
    st_iconst hC (n := 15) (x := 1) (dc_X12_partsBy 15 (22, .iconst 1, 1) rfl rfl) rfl (by decide),
    st_zret hC (n := 16) hR (dc_X12_partsBy 16 (23, .ireturn, 1) rfl rfl), trivial⟩
set_option maxRecDepth 8000 in
theorem vc_X12_partsBy : VC P_X12_partsBy 2 Pre_X12_partsBy Fn_X12_partsBy := by
  rintro mm as hom hoa ⟨ns, nm, nt, j, hV, hj, rfl⟩
  refine ⟨Nat.le_of_ble_eq_true rfl, fun X h => ?_⟩
  have hnt : nt ≤ 12 := hV.2.2.1.2
  have ej : (nI j).toNatClampNeg = j := nI_clamp (by omega)
  replace h : RUN P_X12_partsBy (RT (pbP mm (nI j).toNatClampNeg)) X := h
  rw [ej] at h
  suffices z : mgA (mm.1 54 0) j → X 7 [some (vR 12 0), some (vI (nI j))] [] (putA mm 8 j) by
    show X 0 [some (vR 12 0), some (vI (nI j))] [] mm
    refine h (fun i => Nat.beq i 7) 3000 0 _ _ _ ?_
    refine And.intro (show Pre_X12_parts mm [vR 12 0, vI (nI j), vI 8] from ⟨ns, nm, nt, j, 8, hV, hj, Or.inl rfl, rfl⟩) ?_
    refine brn_c (fun b4 => ?_) (fun b4 => ?_)
    · -- 4: bI (mgA (mm.1 54 0) (nI j).toNatClampNeg) = 0 taken
      replace b4 : mgA (mm.1 54 0) (nI j).toNatClampNeg := bI_n0.mp b4
      (try simp only [ej] at b4)
      show X 7 [some (vR 12 0), some (vI (nI j))] [] (mite (mgA (mm.1 54 0) (nI j).toNatClampNeg) (putA mm 8 (nI j).toNatClampNeg) mm)
      (try simp only [ej])
      rw [mite_t b4]
      exact z b4
    · -- 4: bI (mgA (mm.1 54 0) (nI j).toNatClampNeg) = 0 on
      replace b4 : ¬ (mgA (mm.1 54 0) (nI j).toNatClampNeg) := bI_0.mp b4
      (try simp only [ej] at b4)
      refine And.intro (Or.inl rfl) ?_
      show ((some (vI 0) : Option MV), mite (mgA (mm.1 54 0) (nI j).toNatClampNeg) (putA mm 8 (nI j).toNatClampNeg) mm) = _
      (try simp only [ej])
      rw [mite_f b4]
      exact PR_f (if_neg b4)
  intro hc
  show X 7 [some (vR 12 0), some (vI (nI j))] [] (putA mm 8 j)
  refine h (fun _ => false) 3000 7 _ _ _ ?_
  refine And.intro (show inb 2 (alen 70) = true from rfl) ?_
  refine And.intro (show inb 2 (alen 70) = true from rfl) ?_
  refine And.intro (Or.inr rfl) ?_
  show ((some (vI 1) : Option MV), mRow (putA mm 8 j) 70 0 (upd ((putA mm 8 j).1 70 0) 2 (((putA mm 8 j).1 70 0 2) + 1))) = _
  exact PR_t (if_pos hc)
theorem con_X12_partsBy (l : Launch) : CON l y_X12_partsBy prog_14_method_155_code 2 (some .boolean) rm_X12_partsBy Pre_X12_partsBy Fn_X12_partsBy := CON_of (by decide) rfl rfl (sa_X12_partsBy l) vc_X12_partsBy
def lbI (w : Nat) : Int32 := fsI (fun t => w.testBit t = true) 12 0
abbrev clr (w : Nat) : Nat := w &&& (w - 1)
theorem clr_bit {w t : Nat} (h : (clr w).testBit t = true) : w.testBit t = true := by
  rw [Nat.testBit_and, Bool.and_eq_true] at h
  exact h.1
theorem itr_bit : ∀ (k w t : Nat), (itr clr k w).testBit t = true → w.testBit t = true
  | 0, _, _, h => h
  | k + 1, w, t, h => clr_bit (itr_bit k (clr w) t h)
theorem itr_pc : ∀ (k w : Nat), w < 4096 → k < pcN w → itr clr k w < 4096 ∧ pcN (itr clr k w) + k = pcN w
  | 0, w, hw, _ => ⟨hw, rfl⟩
  | k + 1, w, hw, hk => by
    have hn : w ≠ 0 := fun e => by rw [e] at hk; exact absurd hk (Nat.not_lt_zero _)
    have h1 : pcN w = pcN (clr w) + 1 := (pc_step w hw hn).1
    have h2 : clr w < 4096 := (pc_step w hw hn).2
    obtain ⟨h3, h4⟩ := itr_pc k (clr w) h2 (by omega)
    exact ⟨h3, by show pcN (itr clr k (clr w)) + (k + 1) = _; omega⟩
theorem lb_ex {w : Nat} (hw : w < 4096) (h0 : ¬ w = 0) : ∃ t, t < 12 ∧ lbI w = nI t ∧ w.testBit t = true ∧ ∀ i, i < t → ¬ w.testBit i = true := by
  rcases fsI_in (fun t => w.testBit t = true) 12 0 with ⟨-, hn⟩ | ⟨t, -, ht, e, hp, hn⟩
  · refine absurd (Nat.eq_of_testBit_eq (fun i => ?_)) h0
    rw [Nat.zero_testBit]
    by_cases hi : i < 12
    · exact Bool.eq_false_iff.mpr (hn i (Nat.zero_le _) (by omega))
    · exact Nat.testBit_lt_two_pow (Nat.lt_of_lt_of_le hw (Nat.pow_le_pow_right (n := 2) (by omega) (by omega : 12 ≤ i)))
  · exact ⟨t, by omega, e, hp, fun i hi => hn i (Nat.zero_le _) hi⟩
def gaW (m : MM) (s : Int32) : Nat := (myA (m.1 54 0) s (m.1 54 0 2).toNatClampNeg).toNatClampNeg
def gaK (m : MM) (s : Int32) : Nat := drN (m.1 12 0 34).toNatClampNeg / 8 % pcN (gaW m s)
def gaD (m : MM) : MM := mI m 12 0 34 (nI (drN (m.1 12 0 34).toNatClampNeg))
def pGa (m : MM) (s : Int32) : PR := if gaW m s = 0 then (false, m) else pbP (gaD m) (lbI (itr clr (gaK m s) (gaW m s))).toNatClampNeg

--tpl rfl || bI ((pGa {m} {1}).1 = true) || (pGa {m} {1}).2
def Pre_X12_givesAny : PreT := fun m as => ∃ ns nm nt d, VMx m ns nm nt ∧ m.1 12 0 34 = nI d ∧ d < 65536 ∧ ∃ s : Int32, as = [vR 12 0, vI s]
def Fn_X12_givesAny : FnT := fun m as => match as with
  | [_, Sum.inl s] => (some (vI (bI ((pGa m s).1 = true))), (pGa m s).2)
  | _ => (none, m)
abbrev y_X12_givesAny : MethodName := ⟨"GivenUpModel", "givesAny", "(I)Z"⟩
def P_X12_givesAny : List StpT := [s_aload 0, s_iload 1, s_callV 12 1 Pre_X12_mayOf Fn_X12_mayOf, s_istore 2, s_iload 2, s_ifne 8, s_ic (0), s_zret, s_aload 0, s_iload 2, s_callS 1 Pre_X12_bits Fn_X12_bits, s_callV 12 1 Pre_X12_draw Fn_X12_draw, s_istore 3, s_iload 3, s_ifle 23, s_iload 2, s_iload 2, s_ic (1), s_isub, s_iand, s_istore 2, s_iinc 3 (-1), s_goto 13, s_ic (0), s_istore 3, s_aload 0, s_iload 2, s_iload 3, s_callV 12 2 Pre_X12_isIn Fn_X12_isIn, s_ifne 32, s_iinc 3 (1), s_goto 25, s_aload 0, s_iload 3, s_callV 12 1 Pre_X12_partsBy Fn_X12_partsBy, s_zret]
def pc_X12_givesAny : Nat → Nat := fun i => [0, 1, 2, 5, 6, 7, 10, 11, 12, 13, 14, 17, 20, 21, 22, 25, 26, 27, 28, 29, 30, 31, 34, 37, 38, 39, 40, 41, 42, 45, 48, 51, 54, 55, 56, 59].getD i 0
def dl_X12_givesAny : List (Nat × Instr × Nat) := [(0, .aload_n 0, 1), (1, .iload_n 1, 1), (2, .invokevirtual 337, 3), (5, .istore_n 2, 1), (6, .iload_n 2, 1), (7, .ifCond .ne 5, 3), (10, .iconst 0, 1), (11, .ireturn, 1), (12, .aload_n 0, 1), (13, .iload_n 2, 1), (14, .invokestatic 331, 3), (17, .invokevirtual 458, 3), (20, .istore_n 3, 1), (21, .iload_n 3, 1), (22, .ifCond .le 15, 3), (25, .iload_n 2, 1), (26, .iload_n 2, 1), (27, .iconst 1, 1), (28, .isub, 1), (29, .iand, 1), (30, .istore_n 2, 1), (31, .iinc 3 (-1), 3), (34, .goto (-13), 3), (37, .iconst 0, 1), (38, .istore_n 3, 1), (39, .aload_n 0, 1), (40, .iload_n 2, 1), (41, .iload_n 3, 1), (42, .invokevirtual 277, 3), (45, .ifCond .ne 9, 3), (48, .iinc 3 1, 3), (51, .goto (-12), 3), (54, .aload_n 0, 1), (55, .iload_n 3, 1), (56, .invokevirtual 461, 3), (59, .ireturn, 1)]
theorem dc_X12_givesAny : DEC prog_14_method_154_code pc_X12_givesAny dl_X12_givesAny := DEC_of (by decide +kernel)
abbrev rm_X12_givesAny : Room := { frames := 5, cells := 0, slots := 0, locals := 106 }
set_option maxRecDepth 20000 in
theorem sa_X12_givesAny (l : Launch) : SNDALL l prog_14_method_154_code "GivenUpModel" 4 (some .boolean) rm_X12_givesAny P_X12_givesAny pc_X12_givesAny := fun p e s m args below meth c cells slots Q D dA ad A RR hC hR => by
  have hM := RTX_room (R := rm_X12_givesAny) hR
  exact ⟨st_aload_n hC (n := 0) (k := 0) (dc_X12_givesAny 0 (0, .aload_n 0, 1) rfl rfl) rfl rfl,
    st_iload_n hC (n := 1) (k := 1) (dc_X12_givesAny 1 (1, .iload_n 1, 1) rfl rfl) rfl rfl,
    st_callV hC (n := 2) (k := 12) (na := 1) (con_X12_mayOf l) (dc_X12_givesAny 2 (2, .invokevirtual 337, 3) rfl rfl) rfl wd_2005 wd_160 (by decide) ⟨rfl, rfl, by decide, by decide⟩ hM wd_2002 wd_2004 wd_104 clf_12,
    st_istore_n hC (n := 3) (k := 2) (dc_X12_givesAny 3 (5, .istore_n 2, 1) rfl rfl) rfl rfl (by decide),
    st_iload_n hC (n := 4) (k := 2) (dc_X12_givesAny 4 (6, .iload_n 2, 1) rfl rfl) rfl rfl,
    st_ifne hC (n := 5) (dc_X12_givesAny 5 (7, .ifCond .ne 5, 3) rfl rfl) rfl (by decide),
    st_iconst hC (n := 6) (x := 0) (dc_X12_givesAny 6 (10, .iconst 0, 1) rfl rfl) rfl (by decide),
    st_zret hC (n := 7) hR (dc_X12_givesAny 7 (11, .ireturn, 1) rfl rfl),
    st_aload_n hC (n := 8) (k := 0) (dc_X12_givesAny 8 (12, .aload_n 0, 1) rfl rfl) rfl rfl,
    st_iload_n hC (n := 9) (k := 2) (dc_X12_givesAny 9 (13, .iload_n 2, 1) rfl rfl) rfl rfl,
    st_callS hC (n := 10) (na := 1) (con_X12_bits l) (dc_X12_givesAny 10 (14, .invokestatic 331, 3) rfl rfl) rfl wd_1957 wd_160 (by decide) ⟨rfl, rfl, by decide, by decide⟩ hM wd_1955 wd_1956,
    st_callV hC (n := 11) (k := 12) (na := 1) (con_X12_draw l) (dc_X12_givesAny 11 (17, .invokevirtual 458, 3) rfl rfl) rfl wd_2300 wd_160 (by decide) ⟨rfl, rfl, by decide, by decide⟩ hM wd_2297 wd_2299 wd_138 clf_12,
    st_istore_n hC (n := 12) (k := 3) (dc_X12_givesAny 12 (20, .istore_n 3, 1) rfl rfl) rfl rfl (by decide),
    st_iload_n hC (n := 13) (k := 3) (dc_X12_givesAny 13 (21, .iload_n 3, 1) rfl rfl) rfl rfl,
    st_ifle hC (n := 14) (dc_X12_givesAny 14 (22, .ifCond .le 15, 3) rfl rfl) rfl (by decide),
    st_iload_n hC (n := 15) (k := 2) (dc_X12_givesAny 15 (25, .iload_n 2, 1) rfl rfl) rfl rfl,
    st_iload_n hC (n := 16) (k := 2) (dc_X12_givesAny 16 (26, .iload_n 2, 1) rfl rfl) rfl rfl,
    st_iconst hC (n := 17) (x := 1) (dc_X12_givesAny 17 (27, .iconst 1, 1) rfl rfl) rfl (by decide),
    st_isub hC (n := 18) (dc_X12_givesAny 18 (28, .isub, 1) rfl rfl) rfl,
    st_iand hC (n := 19) (dc_X12_givesAny 19 (29, .iand, 1) rfl rfl) rfl,
    st_istore_n hC (n := 20) (k := 2) (dc_X12_givesAny 20 (30, .istore_n 2, 1) rfl rfl) rfl rfl (by decide),
    st_iinc hC (n := 21) (x := (-1)) (dc_X12_givesAny 21 (31, .iinc 3 (-1), 3) rfl rfl) rfl (by decide) (by decide),
    st_goto hC (n := 22) (dc_X12_givesAny 22 (34, .goto (-13), 3) rfl rfl) (by decide),
    st_iconst hC (n := 23) (x := 0) (dc_X12_givesAny 23 (37, .iconst 0, 1) rfl rfl) rfl (by decide),
    st_istore_n hC (n := 24) (k := 3) (dc_X12_givesAny 24 (38, .istore_n 3, 1) rfl rfl) rfl rfl (by decide),
    st_aload_n hC (n := 25) (k := 0) (dc_X12_givesAny 25 (39, .aload_n 0, 1) rfl rfl) rfl rfl,
    st_iload_n hC (n := 26) (k := 2) (dc_X12_givesAny 26 (40, .iload_n 2, 1) rfl rfl) rfl rfl,
    st_iload_n hC (n := 27) (k := 3) (dc_X12_givesAny 27 (41, .iload_n 3, 1) rfl rfl) rfl rfl,
    st_callV hC (n := 28) (k := 12) (na := 2) (con_X12_isIn l) (dc_X12_givesAny 28 (42, .invokevirtual 277, 3) rfl rfl) rfl wd_1907 wd_160 (by decide) ⟨rfl, rfl, by decide, by decide⟩ hM wd_1904 wd_1906 wd_89 clf_12,
    st_ifne hC (n := 29) (dc_X12_givesAny 29 (45, .ifCond .ne 9, 3) rfl rfl) rfl (by decide),
    st_iinc hC (n := 30) (x := 1) (dc_X12_givesAny 30 (48, .iinc 3 1, 3) rfl rfl) rfl (by decide) (by decide),
    st_goto hC (n := 31) (dc_X12_givesAny 31 (51, .goto (-12), 3) rfl rfl) (by decide),
    st_aload_n hC (n := 32) (k := 0) (dc_X12_givesAny 32 (54, .aload_n 0, 1) rfl rfl) rfl rfl,
    st_iload_n hC (n := 33) (k := 3) (dc_X12_givesAny 33 (55, .iload_n 3, 1) rfl rfl) rfl rfl,
    st_callV hC (n := 34) (k := 12) (na := 1) (con_X12_partsBy l) (dc_X12_givesAny 34 (56, .invokevirtual 461, 3) rfl rfl) rfl wd_2292 wd_160 (by decide) ⟨rfl, rfl, by decide, by decide⟩ hM wd_2289 wd_2291 wd_136 clf_12,
    st_zret hC (n := 35) hR (dc_X12_givesAny 35 (59, .ireturn, 1) rfl rfl), trivial⟩
set_option maxRecDepth 8000 in
theorem vc_X12_givesAny : VC P_X12_givesAny 4 Pre_X12_givesAny Fn_X12_givesAny := by
  rintro mm as hom hoa ⟨ns, nm, nt, d, hV, hd, hd2, s, rfl⟩
  refine ⟨Nat.le_of_ble_eq_true rfl, fun X h => ?_⟩
  have hnt : nt ≤ 12 := hV.2.2.1.2
  have h2 : mm.1 54 0 2 = nI nt := hV.2.2.1.1
  have ent : (nI nt).toNatClampNeg = nt := nI_clamp (by omega)
  have hM : VM mm := ⟨ns, nm, nt, hV⟩
  obtain ⟨W, hW⟩ : ∃ W, W = stN (fun j => mm.1 54 0 (44 + 3 * j) = s ∧ mgA (mm.1 54 0) j) nt := ⟨_, rfl⟩
  have hW2 : W < 4096 := by rw [hW]; exact Nat.lt_of_lt_of_le (stN_lt _ nt) (Nat.pow_le_pow_right (n := 2) (by omega) hnt)
  have hWb : ∀ t, W.testBit t = true → t < nt := fun t ht => by rw [hW] at ht; exact ((stN_bit _ nt t).mp ht).1
  have eW : myA (mm.1 54 0) s nt = nI W := by rw [hW]; exact myA_st _ _ _ (by omega)
  have eWn : (nI W).toNatClampNeg = W := nI_clamp (by omega)
  have gW : gaW mm s = W := by unfold gaW; rw [h2, ent, eW, eWn]
  replace h : RUN P_X12_givesAny (RT (pGa mm s)) X := h
  have e0 : nI W = 0 ↔ W = 0 := show nI W = nI 0 ↔ W = 0 from nI_eq (by omega) (by omega)
  have main : ¬ W = 0 → X 8 [some (vR 12 0), some (vI (s)), some (vI (nI W)), none] [] mm := by
    intro hW0
    have hpc : 1 ≤ pcN W := Nat.pos_of_ne_zero (fun e => hW0 (pc_zero hW2 e))
    have hpc2 := pc_le W hW2
    obtain ⟨k, hk⟩ : ∃ k, k = drN d / 8 % pcN W := ⟨_, rfl⟩
    have hkl : k < pcN W := by rw [hk]; exact Nat.mod_lt _ (by omega)
    obtain ⟨M, eM⟩ : ∃ M, M = mI mm 12 0 34 (nI (drN d)) := ⟨_, rfl⟩
    obtain ⟨q1, q2⟩ := itr_pc k W hW2 hkl
    obtain ⟨w, hw⟩ : ∃ w, w = itr clr k W := ⟨_, rfl⟩
    rw [← hw] at q1 q2
    have hw0 : ¬ w = 0 := fun e => by rw [e] at q2; have : pcN 0 = 0 := rfl; omega
    obtain ⟨t, ht12, et, htb, htn⟩ := lb_ex q1 hw0
    have htnt : t < nt := hWb t (itr_bit k W t (by rw [← hw]; exact htb))
    have hp : pGa mm s = pbP M t := by
      unfold pGa gaK gaD
      rw [gW, if_neg hW0, hd, nI_clamp (show d < 2 ^ 31 by omega), ← hk, ← hw, et, nI_clamp (show t < 2 ^ 31 by omega), eM]
    rw [hp] at h
    have hVM : VMx M ns nm nt := by rw [eM]; exact hV
    have low : ∀ i, i ≤ t → X 25 [some (vR 12 0), some (vI (s)), some (vI (nI w)), some (vI (nI i))] [] (M) := by
      refine up_ind t ?_ (fun i hi ih => ?_)
      ·
        show X 25 [some (vR 12 0), some (vI s), some (vI (nI w)), some (vI (nI t))] [] M
        refine h (fun _ => false) 3000 25 _ _ _ ?_
        refine And.intro (show Pre_X12_isIn M [vR 12 0, vI (nI w), vI (nI t)] from ⟨_, _, rfl⟩) ?_
        refine brn_t (bI_n0.mpr ((inS_nI (by omega) (by omega)).mpr htb)) ?_
        refine And.intro (show Pre_X12_partsBy M [vR 12 0, vI (nI t)] from ⟨ns, nm, nt, t, hVM, htnt, rfl⟩) ?_
        refine And.intro bI_in ?_
        show ((some (vI (bI ((pbP M (nI t).toNatClampNeg).1 = true))) : Option MV), (pbP M (nI t).toNatClampNeg).2) = _
        rw [nI_clamp (show t < 2 ^ 31 by omega)]
        all_goals exact PR_q rfl
      ·
        show X 25 [some (vR 12 0), some (vI s), some (vI (nI w)), some (vI (nI i))] [] M
        refine h (fun i => Nat.beq i 25) 3000 25 _ _ _ ?_
        refine And.intro (show Pre_X12_isIn M [vR 12 0, vI (nI w), vI (nI i)] from ⟨_, _, rfl⟩) ?_
        refine brn_f (bI_0.mpr (fun z => htn i hi ((inS_nI (by omega) (by omega)).mp z))) ?_
        show X 25 [some (vR 12 0), some (vI s), some (vI (nI w)), some (vI ((nI i) + 1))] [] M
        rw [nI_1]
        exact ih
    have drop : ∀ j v, v < 4096 → j < pcN v → itr clr j v = w → X 13 [some (vR 12 0), some (vI (s)), some (vI (nI v)), some (vI (nI j))] [] (M) := by
      intro j
      induction j with
      | zero =>
        intro v hv _ he
        have : v = w := he
        subst this
        show X 13 [some (vR 12 0), some (vI s), some (vI (nI v)), some (vI (nI 0))] [] M
        refine h (fun i => Nat.beq i 25) 3000 13 _ _ _ ?_
        refine br_t (Int32.le_refl _) ?_
        show X 25 [some (vR 12 0), some (vI s), some (vI (nI v)), some (vI 0)] [] M
        exact low 0 (by omega)
      | succ j ih =>
        intro v hv hj he
        have hn : v ≠ 0 := fun e => by rw [e] at hj; exact absurd hj (Nat.not_lt_zero _)
        have g0 := pc_le v hv
        have g1 : pcN v = pcN (clr v) + 1 := (pc_step v hv hn).1
        have g2 : clr v < 4096 := (pc_step v hv hn).2
        have ec : nI v &&& (nI v - 1) = nI (clr v) := by rw [show (1 : Int32) = nI 1 from rfl, nI_sb (by omega), nIand]
        have ej : nI (j + 1) + (-1) = nI j := by
          have := nI_sb (a := j + 1) (b := 1) (by omega)
          rw [show j + 1 - 1 = j by omega] at this
          rw [← this]
          exact (Int32.sub_eq_add_neg _ _).symm
        show X 13 [some (vR 12 0), some (vI s), some (vI (nI v)), some (vI (nI (j + 1)))] [] M
        refine h (fun i => Nat.beq i 13) 3000 13 _ _ _ ?_
        refine br_f (show ¬ nI (j + 1) ≤ nI 0 from nI_ge (by omega) (by omega)) ?_
        show X 13 [some (vR 12 0), some (vI s), some (vI ((nI v) &&& ((nI v) - 1))), some (vI ((nI (j + 1)) + (-1)))] [] M
        rw [ec, ej]
        exact ih _ g2 (by omega) he
    show X 8 [some (vR 12 0), some (vI s), some (vI (nI W)), none] [] mm
    refine h (fun i => Nat.beq i 13) 3000 8 _ _ _ ?_
    refine And.intro (show Pre_X12_bits mm [vI (nI W)] from ⟨W, hW2, rfl⟩) ?_
    refine And.intro (show Pre_X12_draw mm [vR 12 0, vI (nI (pcN (nI W).toNatClampNeg))] from ⟨d, pcN W, hd, hd2, hpc, hpc2, by rw [eWn]⟩) ?_
    show X 13 [some (vR 12 0), some (vI s), some (vI (nI W)), some (vI (nI (drN (mm.1 12 0 34).toNatClampNeg / 8 % (nI (pcN (nI W).toNatClampNeg)).toNatClampNeg)))] [] (mI mm 12 0 34 (nI (drN (mm.1 12 0 34).toNatClampNeg)))
    rw [eWn, hd, nI_clamp (show d < 2 ^ 31 by omega), nI_clamp (show pcN W < 2 ^ 31 by omega), ← hk, ← eM]
    exact drop k W hW2 hkl hw.symm
  show X 0 [some (vR 12 0), some (vI s), none, none] [] mm
  refine h (fun i => Nat.beq i 8) 3000 0 _ _ _ ?_
  refine And.intro (show Pre_X12_mayOf mm [vR 12 0, vI s] from ⟨hM, _, rfl⟩) ?_
  refine brn_c (fun b5 => ?_) (fun b5 => ?_)
  · -- 5: myA (mm.1 54 0) s (mm.1 54 0 2).toNatClampNeg = 0 taken
    replace b5 : ¬ (myA (mm.1 54 0) s (mm.1 54 0 2).toNatClampNeg = 0) := b5
    (try simp only [h2, ent, eW] at b5)
    show X 8 [some (vR 12 0), some (vI s), some (vI (myA (mm.1 54 0) s (mm.1 54 0 2).toNatClampNeg)), none] [] mm
    (try simp only [h2, ent, eW])
    exact main (fun z => b5 (e0.mpr z))
  · -- 5: myA (mm.1 54 0) s (mm.1 54 0 2).toNatClampNeg = 0 on
    replace b5 : myA (mm.1 54 0) s (mm.1 54 0 2).toNatClampNeg = 0 := b5
    (try simp only [h2, ent, eW] at b5)
    refine And.intro (Or.inl rfl) ?_
    show ((some (vI 0) : Option MV), mm) = _
    (try simp only [h2, ent, eW])
    exact PR_f (if_pos (gW.trans (e0.mp b5)))
theorem con_X12_givesAny (l : Launch) : CON l y_X12_givesAny prog_14_method_154_code 4 (some .boolean) rm_X12_givesAny Pre_X12_givesAny Fn_X12_givesAny := CON_of (by decide) rfl rfl (sa_X12_givesAny l) vc_X12_givesAny
