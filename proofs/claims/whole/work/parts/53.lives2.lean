/-! PART 53: the model: ends that are come to -/

/-- rounds that are left -/
def LPo (m : MM) : Prop := ∀ o, o < 80 → ∃ q, q ≤ 98 ∧ m.1 69 0 o = nI q
def smL (f : Nat → Int32) : Nat → Nat
  | 0 => 0
  | n + 1 => smL f n + (f n).toNatClampNeg
theorem smL_ne {f : Nat → Int32} {o : Nat} {x : Int32} : ∀ n, n ≤ o → smL (upd f o x) n = smL f n
  | 0, _ => rfl
  | n + 1, h => by rw [smL, smL, smL_ne n (by omega), upd_ne (by omega)]
theorem smL_upd {f : Nat → Int32} {o : Nat} {x : Int32} : ∀ n, o < n → smL (upd f o x) n + (f o).toNatClampNeg = smL f n + x.toNatClampNeg
  | 0, h => absurd h (by omega)
  | n + 1, h => by
    rw [smL, smL]
    by_cases e : o = n
    · subst e
      rw [smL_ne _ (Nat.le_refl _), upd_eq]
      omega
    · have := smL_upd (f := f) (x := x) n (by omega : o < n)
      rw [upd_ne (fun z => e z.symm)]
      omega
theorem smL_le {f : Nat → Int32} {b : Nat} : ∀ n, (∀ o, o < n → (f o).toNatClampNeg ≤ b) → smL f n ≤ b * n
  | 0, _ => Nat.zero_le _
  | n + 1, h => by
    have h1 := smL_le n (fun o ho => h o (by omega))
    have h2 := h n (by omega)
    rw [smL, Nat.mul_succ]
    omega
/-- how many ends stand one behind the other -/
def fwF (a : Nat → Int32) (L : Nat) : Nat → Nat → Nat
  | 0, _ => 0
  | f + 1, k => if k < L ∧ a (146 + 6 * k) = 25 then fwF a L f (k + 1) + 1 else 0
def fw (a : Nat → Int32) (L k : Nat) : Nat := fwF a L (61 - k) k
theorem fw_y {a : Nat → Int32} {L k : Nat} (hL : L ≤ 60) (h : k < L ∧ a (146 + 6 * k) = 25) : fw a L k = fw a L (k + 1) + 1 := by
  unfold fw
  rw [show 61 - k = (61 - (k + 1)) + 1 by omega, fwF, if_pos h]
theorem fwF_n {a : Nat → Int32} {L k : Nat} (h : ¬ (k < L ∧ a (146 + 6 * k) = 25)) : ∀ f, fwF a L f k = 0
  | 0 => rfl
  | f + 1 => if_neg h
theorem fw_n {a : Nat → Int32} {L k : Nat} (h : ¬ (k < L ∧ a (146 + 6 * k) = 25)) : fw a L k = 0 := fwF_n h _
theorem fwF_le (a : Nat → Int32) (L : Nat) : ∀ f k, fwF a L f k ≤ f
  | 0, _ => Nat.le_refl _
  | f + 1, k => by
    rw [fwF]
    split
    · have := fwF_le a L f (k + 1); omega
    · omega
theorem fw_le (a : Nat → Int32) (L k : Nat) : fw a L k ≤ 61 := by
  have := fwF_le a L (61 - k) k
  unfold fw
  omega
/-- an end that is come to -/
def enO (a : Nat → Int32) (k : Nat) : Nat := (a (150 + 6 * k)).toNatClampNeg
abbrev enP (m : MM) (k : Nat) : Prop := m.1 54 0 (146 + 6 * enO (m.1 54 0) k) = 24 ∧ ¬ m.1 69 0 (enO (m.1 54 0) k) ≤ 0
def enK (m : MM) (k : Nat) : Nat := if enP m k then enO (m.1 54 0) k + 1 else k + 1
def enM (m : MM) (k : Nat) : MM := mite (enP m k) (mI m 69 0 (enO (m.1 54 0) k) (m.1 69 0 (enO (m.1 54 0) k) - 1)) m
def pE (m : MM) (L k : Nat) : Nat := smL (m.1 69 0) 60 + fw (m.1 54 0) L k
abbrev clP (m : MM) (L k : Nat) : Prop := k < L ∧ m.1 54 0 (146 + 6 * k) = 25
theorem enM_54 (m : MM) (k : Nat) : (enM m k).1 54 0 = m.1 54 0 := by
  unfold enM mite; split <;> rfl
theorem enM_LP {m : MM} {k : Nat} (h : LPo m) (ho : enO (m.1 54 0) k < 80) : LPo (enM m k) := by
  unfold enM mite; split
  · rename_i hp
    intro o h80
    obtain ⟨q, hq, e⟩ := h _ ho
    have hp2 := hp.2
    rw [e] at hp2
    have hq1 : 1 ≤ q := by
      rcases Nat.eq_zero_or_pos q with z | z
      · rw [z] at hp2; exact absurd (Int32.le_refl _) hp2
      · exact z
    by_cases hoo : o = enO (m.1 54 0) k
    · subst hoo
      refine ⟨q - 1, by omega, ?_⟩
      show upd (m.1 69 0) _ _ _ = _
      rw [upd_eq, e, show (1 : Int32) = nI 1 from rfl, nI_sb hq1]
    · obtain ⟨q', hq', e'⟩ := h o h80
      refine ⟨q', hq', ?_⟩
      show upd (m.1 69 0) _ _ _ = _
      rw [upd_ne hoo]
      exact e'
  · exact h
theorem en_ok {m : MM} {ns nm nt L k : Nat} (hY : YP (m.1 54 0) ns nm nt L) (hl : LPo m) (hc : clP m L k) : pE (enM m k) L (enK m k) + 1 ≤ pE m L k ∧ LPo (enM m k) ∧ enK m k ≤ L ∧ enO (m.1 54 0) k < k := by
  obtain ⟨hL, hL60, hY⟩ := hY
  obtain ⟨hk, h25⟩ := hc
  obtain ⟨-, -, -, -, y5, -⟩ := hY k hk
  obtain ⟨o, ho, eo, hs⟩ := y5 h25
  have eO : enO (m.1 54 0) k = o := by unfold enO; rw [eo]; exact nI_clamp (by omega)
  refine ⟨?_, enM_LP hl (by omega), ?_, by omega⟩
  · unfold pE
    rw [enM_54]
    by_cases hp : enP m k
    · have hp2 := hp.2
      rw [eO] at hp2
      obtain ⟨q, hq, e⟩ := hl o (by omega)
      rw [e] at hp2
      have hq1 : 1 ≤ q := by
        rcases Nat.eq_zero_or_pos q with z | z
        · rw [z] at hp2; exact absurd (Int32.le_refl _) hp2
        · exact z
      have ek : enK m k = o + 1 := by unfold enK; rw [if_pos hp, eO]
      have em : (enM m k).1 69 0 = upd (m.1 69 0) o (nI (q - 1)) := by
        unfold enM
        rw [mite_t hp, eO]
        show upd (m.1 69 0) o (m.1 69 0 o - 1) = _
        rw [e, show (1 : Int32) = nI 1 from rfl, nI_sb hq1]
      have h1 := smL_upd (f := m.1 69 0) (x := nI (q - 1)) 60 (show o < 60 by omega)
      rw [e, nI_clamp (show q < 2 ^ 31 by omega), nI_clamp (show q - 1 < 2 ^ 31 by omega)] at h1
      rw [em, ek]
      have h2 : fw (m.1 54 0) L (o + 1) ≤ fw (m.1 54 0) L k := by
        by_cases z : o + 1 < L ∧ m.1 54 0 (146 + 6 * (o + 1)) = 25
        · rw [hs z.2]; exact Nat.le_refl _
        · rw [fw_n z]; exact Nat.zero_le _
      omega
    · have ek : enK m k = k + 1 := if_neg hp
      have em : enM m k = m := mite_f hp
      have h1 := fw_y hL60 ⟨hk, h25⟩
      rw [em, ek]
      omega
  · unfold enK
    split
    · rw [eO]; omega
    · omega
def beK : Nat → MM → Nat → Nat → Nat × MM
  | 0, m, _, k => (k, m)
  | f + 1, m, L, k => if clP m L k then beK f (enM m k) L (enK m k) else (k, m)
theorem pE_le {m : MM} {L k : Nat} (hl : LPo m) : pE m L k ≤ 5941 := by
  have h1 := smL_le (f := m.1 69 0) (b := 98) 60 (fun o ho => by
    obtain ⟨q, hq, e⟩ := hl o (by omega)
    rw [e, nI_clamp (by omega)]
    exact hq)
  have h2 := fw_le (m.1 54 0) L k
  unfold pE
  omega

def Pre_X12_behindEnds : PreT := fun m as => ∃ ns nm nt L k, YP (m.1 54 0) ns nm nt L ∧ LPo m ∧ k ≤ L ∧ as = [vR 12 0, vI (nI k)]
def Fn_X12_behindEnds : FnT := fun m as => match as with
  | [_, Sum.inl k] => (some (vI (nI (beK 6000 m (m.1 54 0 10).toNatClampNeg k.toNatClampNeg).1)), (beK 6000 m (m.1 54 0 10).toNatClampNeg k.toNatClampNeg).2)
  | _ => (none, m)
--tpl rfl || nI (beK 6000 {m} ({r 1 54 0 10}).toNatClampNeg {1n}).1 || (beK 6000 {m} ({r 1 54 0 10}).toNatClampNeg {1n}).2
abbrev y_X12_behindEnds : MethodName := ⟨"GivenUpModel", "behindEnds", "(I)I"⟩
def P_X12_behindEnds : List StpT := [s_iload 1, s_istore 2, s_iload 2, s_aload 0, s_getR 12 0 54, s_ic (10), s_iald, s_icge 71, s_aload 0, s_getR 12 0 54, s_ic (146), s_ic (6), s_iload 2, s_imul, s_iadd, s_iald, s_ic (25), s_icne 71, s_aload 0, s_getR 12 0 54, s_ic (146), s_ic (6), s_iload 2, s_imul, s_iadd, s_ic (4), s_iadd, s_iald, s_istore 3, s_aload 0, s_getR 12 0 54, s_ic (146), s_ic (6), s_iload 3, s_imul, s_iadd, s_iald, s_ic (24), s_icne 46, s_aload 0, s_getR 12 36 69, s_iload 3, s_iald, s_ifle 46, s_ic (1), s_goto 47, s_ic (0), s_istore 4, s_aload 0, s_getR 12 36 69, s_iload 3, s_dup2, s_iald, s_iload 4, s_ifeq 57, s_ic (1), s_goto 58, s_ic (0), s_isub, s_iast, s_iload 4, s_ifeq 66, s_iload 3, s_ic (1), s_iadd, s_goto 69, s_iload 2, s_ic (1), s_iadd, s_istore 2, s_goto 2, s_iload 2, s_iret]
def pc_X12_behindEnds : Nat → Nat := fun i => [0, 1, 2, 3, 4, 7, 9, 10, 13, 14, 17, 20, 22, 23, 24, 25, 26, 28, 31, 32, 35, 38, 40, 41, 42, 43, 44, 45, 46, 47, 48, 51, 54, 56, 57, 58, 59, 60, 62, 65, 66, 69, 70, 71, 74, 75, 78, 79, 81, 82, 85, 86, 87, 88, 90, 93, 94, 97, 98, 99, 100, 102, 105, 106, 107, 108, 111, 112, 113, 114, 115, 118, 119].getD i 0
def dl_X12_behindEnds : List (Nat × Instr × Nat) := [(0, .iload_n 1, 1), (1, .istore_n 2, 1), (2, .iload_n 2, 1), (3, .aload_n 0, 1), (4, .getfield 7, 3), (7, .bipush 10, 2), (9, .iaload, 1), (10, .if_icmp .ge 108, 3), (13, .aload_n 0, 1), (14, .getfield 7, 3), (17, .sipush 146, 3), (20, .bipush 6, 2), (22, .iload_n 2, 1), (23, .imul, 1), (24, .iadd, 1), (25, .iaload, 1), (26, .bipush 25, 2), (28, .if_icmp .ne 90, 3), (31, .aload_n 0, 1), (32, .getfield 7, 3), (35, .sipush 146, 3), (38, .bipush 6, 2), (40, .iload_n 2, 1), (41, .imul, 1), (42, .iadd, 1), (43, .iconst 4, 1), (44, .iadd, 1), (45, .iaload, 1), (46, .istore_n 3, 1), (47, .aload_n 0, 1), (48, .getfield 7, 3), (51, .sipush 146, 3), (54, .bipush 6, 2), (56, .iload_n 3, 1), (57, .imul, 1), (58, .iadd, 1), (59, .iaload, 1), (60, .bipush 24, 2), (62, .if_icmp .ne 16, 3), (65, .aload_n 0, 1), (66, .getfield 68, 3), (69, .iload_n 3, 1), (70, .iaload, 1), (71, .ifCond .le 7, 3), (74, .iconst 1, 1), (75, .goto 4, 3), (78, .iconst 0, 1), (79, .istore 4, 2), (81, .aload_n 0, 1), (82, .getfield 68, 3), (85, .iload_n 3, 1), (86, .dup2, 1), (87, .iaload, 1), (88, .iload 4, 2), (90, .ifCond .eq 7, 3), (93, .iconst 1, 1), (94, .goto 4, 3), (97, .iconst 0, 1), (98, .isub, 1), (99, .iastore, 1), (100, .iload 4, 2), (102, .ifCond .eq 9, 3), (105, .iload_n 3, 1), (106, .iconst 1, 1), (107, .iadd, 1), (108, .goto 6, 3), (111, .iload_n 2, 1), (112, .iconst 1, 1), (113, .iadd, 1), (114, .istore_n 2, 1), (115, .goto (-113), 3), (118, .iload_n 2, 1), (119, .ireturn, 1)]
theorem dc_X12_behindEnds : DEC prog_14_method_158_code pc_X12_behindEnds dl_X12_behindEnds := DEC_of (by decide +kernel)
abbrev rm_X12_behindEnds : Room := { frames := 0, cells := 0, slots := 0, locals := 0 }
set_option maxRecDepth 20000 in
theorem sa_X12_behindEnds (l : Launch) : SNDALL l prog_14_method_158_code "GivenUpModel" 5 (some .int) rm_X12_behindEnds P_X12_behindEnds pc_X12_behindEnds := fun p e s m args below meth c cells slots Q D dA ad A RR hC hR => by
  have hM := RTX_room (R := rm_X12_behindEnds) hR
  exact ⟨st_iload_n hC (n := 0) (k := 1) (dc_X12_behindEnds 0 (0, .iload_n 1, 1) rfl rfl) rfl rfl,
    st_istore_n hC (n := 1) (k := 2) (dc_X12_behindEnds 1 (1, .istore_n 2, 1) rfl rfl) rfl rfl (by decide),
    st_iload_n hC (n := 2) (k := 2) (dc_X12_behindEnds 2 (2, .iload_n 2, 1) rfl rfl) rfl rfl,
    st_aload_n hC (n := 3) (k := 0) (dc_X12_behindEnds 3 (3, .aload_n 0, 1) rfl rfl) rfl rfl,
    st_getR hC (n := 4) (k := 12) (j := 0) (dc_X12_behindEnds 4 (4, .getfield 7, 3) rfl rfl) rfl clf_12 (by decide) rfl (by decide) wd_1552,
    st_bipush hC (n := 5) (x := 10) (dc_X12_behindEnds 5 (7, .bipush 10, 2) rfl rfl) rfl (by decide),
    st_iald hC (n := 6) (dc_X12_behindEnds 6 (9, .iaload, 1) rfl rfl) rfl,
    st_icge hC (n := 7) (dc_X12_behindEnds 7 (10, .if_icmp .ge 108, 3) rfl rfl) rfl (by decide),
    st_aload_n hC (n := 8) (k := 0) (dc_X12_behindEnds 8 (13, .aload_n 0, 1) rfl rfl) rfl rfl,
    st_getR hC (n := 9) (k := 12) (j := 0) (dc_X12_behindEnds 9 (14, .getfield 7, 3) rfl rfl) rfl clf_12 (by decide) rfl (by decide) wd_1552,
    st_sipush hC (n := 10) (x := 146) (dc_X12_behindEnds 10 (17, .sipush 146, 3) rfl rfl) rfl (by decide),
    st_bipush hC (n := 11) (x := 6) (dc_X12_behindEnds 11 (20, .bipush 6, 2) rfl rfl) rfl (by decide),
    st_iload_n hC (n := 12) (k := 2) (dc_X12_behindEnds 12 (22, .iload_n 2, 1) rfl rfl) rfl rfl,
    st_imul hC (n := 13) (dc_X12_behindEnds 13 (23, .imul, 1) rfl rfl) rfl,
    st_iadd hC (n := 14) (dc_X12_behindEnds 14 (24, .iadd, 1) rfl rfl) rfl,
    st_iald hC (n := 15) (dc_X12_behindEnds 15 (25, .iaload, 1) rfl rfl) rfl,
    st_bipush hC (n := 16) (x := 25) (dc_X12_behindEnds 16 (26, .bipush 25, 2) rfl rfl) rfl (by decide),
    st_icne hC (n := 17) (dc_X12_behindEnds 17 (28, .if_icmp .ne 90, 3) rfl rfl) rfl (by decide),
    st_aload_n hC (n := 18) (k := 0) (dc_X12_behindEnds 18 (31, .aload_n 0, 1) rfl rfl) rfl rfl,
    st_getR hC (n := 19) (k := 12) (j := 0) (dc_X12_behindEnds 19 (32, .getfield 7, 3) rfl rfl) rfl clf_12 (by decide) rfl (by decide) wd_1552,
    st_sipush hC (n := 20) (x := 146) (dc_X12_behindEnds 20 (35, .sipush 146, 3) rfl rfl) rfl (by decide),
    st_bipush hC (n := 21) (x := 6) (dc_X12_behindEnds 21 (38, .bipush 6, 2) rfl rfl) rfl (by decide),
    st_iload_n hC (n := 22) (k := 2) (dc_X12_behindEnds 22 (40, .iload_n 2, 1) rfl rfl) rfl rfl,
    st_imul hC (n := 23) (dc_X12_behindEnds 23 (41, .imul, 1) rfl rfl) rfl,
    st_iadd hC (n := 24) (dc_X12_behindEnds 24 (42, .iadd, 1) rfl rfl) rfl,
    st_iconst hC (n := 25) (x := 4) (dc_X12_behindEnds 25 (43, .iconst 4, 1) rfl rfl) rfl (by decide),
    st_iadd hC (n := 26) (dc_X12_behindEnds 26 (44, .iadd, 1) rfl rfl) rfl,
    st_iald hC (n := 27) (dc_X12_behindEnds 27 (45, .iaload, 1) rfl rfl) rfl,
    st_istore_n hC (n := 28) (k := 3) (dc_X12_behindEnds 28 (46, .istore_n 3, 1) rfl rfl) rfl rfl (by decide),
    st_aload_n hC (n := 29) (k := 0) (dc_X12_behindEnds 29 (47, .aload_n 0, 1) rfl rfl) rfl rfl,
    st_getR hC (n := 30) (k := 12) (j := 0) (dc_X12_behindEnds 30 (48, .getfield 7, 3) rfl rfl) rfl clf_12 (by decide) rfl (by decide) wd_1552,
    st_sipush hC (n := 31) (x := 146) (dc_X12_behindEnds 31 (51, .sipush 146, 3) rfl rfl) rfl (by decide),
    st_bipush hC (n := 32) (x := 6) (dc_X12_behindEnds 32 (54, .bipush 6, 2) rfl rfl) rfl (by decide),
    st_iload_n hC (n := 33) (k := 3) (dc_X12_behindEnds 33 (56, .iload_n 3, 1) rfl rfl) rfl rfl,
    st_imul hC (n := 34) (dc_X12_behindEnds 34 (57, .imul, 1) rfl rfl) rfl,
    st_iadd hC (n := 35) (dc_X12_behindEnds 35 (58, .iadd, 1) rfl rfl) rfl,
    st_iald hC (n := 36) (dc_X12_behindEnds 36 (59, .iaload, 1) rfl rfl) rfl,
    st_bipush hC (n := 37) (x := 24) (dc_X12_behindEnds 37 (60, .bipush 24, 2) rfl rfl) rfl (by decide),
    st_icne hC (n := 38) (dc_X12_behindEnds 38 (62, .if_icmp .ne 16, 3) rfl rfl) rfl (by decide),
    st_aload_n hC (n := 39) (k := 0) (dc_X12_behindEnds 39 (65, .aload_n 0, 1) rfl rfl) rfl rfl,
    st_getR hC (n := 40) (k := 12) (j := 36) (dc_X12_behindEnds 40 (66, .getfield 68, 3) rfl rfl) rfl clf_12 (by decide) rfl (by decide) wd_1588,
    st_iload_n hC (n := 41) (k := 3) (dc_X12_behindEnds 41 (69, .iload_n 3, 1) rfl rfl) rfl rfl,
    st_iald hC (n := 42) (dc_X12_behindEnds 42 (70, .iaload, 1) rfl rfl) rfl,
    st_ifle hC (n := 43) (dc_X12_behindEnds 43 (71, .ifCond .le 7, 3) rfl rfl) rfl (by decide),
    st_iconst hC (n := 44) (x := 1) (dc_X12_behindEnds 44 (74, .iconst 1, 1) rfl rfl) rfl (by decide),
    st_goto hC (n := 45) (dc_X12_behindEnds 45 (75, .goto 4, 3) rfl rfl) (by decide),
    st_iconst hC (n := 46) (x := 0) (dc_X12_behindEnds 46 (78, .iconst 0, 1) rfl rfl) rfl (by decide),
    st_istore hC (n := 47) (dc_X12_behindEnds 47 (79, .istore 4, 2) rfl rfl) rfl (by decide),
    st_aload_n hC (n := 48) (k := 0) (dc_X12_behindEnds 48 (81, .aload_n 0, 1) rfl rfl) rfl rfl,
    st_getR hC (n := 49) (k := 12) (j := 36) (dc_X12_behindEnds 49 (82, .getfield 68, 3) rfl rfl) rfl clf_12 (by decide) rfl (by decide) wd_1588,
    st_iload_n hC (n := 50) (k := 3) (dc_X12_behindEnds 50 (85, .iload_n 3, 1) rfl rfl) rfl rfl,
    st_dup2 hC (n := 51) (dc_X12_behindEnds 51 (86, .dup2, 1) rfl rfl) rfl,
    st_iald hC (n := 52) (dc_X12_behindEnds 52 (87, .iaload, 1) rfl rfl) rfl,
    st_iload hC (n := 53) (dc_X12_behindEnds 53 (88, .iload 4, 2) rfl rfl) rfl,
    st_ifeq hC (n := 54) (dc_X12_behindEnds 54 (90, .ifCond .eq 7, 3) rfl rfl) rfl (by decide),
    st_iconst hC (n := 55) (x := 1) (dc_X12_behindEnds 55 (93, .iconst 1, 1) rfl rfl) rfl (by decide),
    st_goto hC (n := 56) (dc_X12_behindEnds 56 (94, .goto 4, 3) rfl rfl) (by decide),
    st_iconst hC (n := 57) (x := 0) (dc_X12_behindEnds 57 (97, .iconst 0, 1) rfl rfl) rfl (by decide),
    st_isub hC (n := 58) (dc_X12_behindEnds 58 (98, .isub, 1) rfl rfl) rfl,
    st_iast hC (n := 59) (dc_X12_behindEnds 59 (99, .iastore, 1) rfl rfl) rfl,
    st_iload hC (n := 60) (dc_X12_behindEnds 60 (100, .iload 4, 2) rfl rfl) rfl,
    st_ifeq hC (n := 61) (dc_X12_behindEnds 61 (102, .ifCond .eq 9, 3) rfl rfl) rfl (by decide),
    st_iload_n hC (n := 62) (k := 3) (dc_X12_behindEnds 62 (105, .iload_n 3, 1) rfl rfl) rfl rfl,
    st_iconst hC (n := 63) (x := 1) (dc_X12_behindEnds 63 (106, .iconst 1, 1) rfl rfl) rfl (by decide),
    st_iadd hC (n := 64) (dc_X12_behindEnds 64 (107, .iadd, 1) rfl rfl) rfl,
    st_goto hC (n := 65) (dc_X12_behindEnds 65 (108, .goto 6, 3) rfl rfl) (by decide),
    st_iload_n hC (n := 66) (k := 2) (dc_X12_behindEnds 66 (111, .iload_n 2, 1) rfl rfl) rfl rfl,
    st_iconst hC (n := 67) (x := 1) (dc_X12_behindEnds 67 (112, .iconst 1, 1) rfl rfl) rfl (by decide),
    st_iadd hC (n := 68) (dc_X12_behindEnds 68 (113, .iadd, 1) rfl rfl) rfl,
    st_istore_n hC (n := 69) (k := 2) (dc_X12_behindEnds 69 (114, .istore_n 2, 1) rfl rfl) rfl rfl (by decide),
    st_goto hC (n := 70) (dc_X12_behindEnds 70 (115, .goto (-113), 3) rfl rfl) (by decide),
    st_iload_n hC (n := 71) (k := 2) (dc_X12_behindEnds 71 (118, .iload_n 2, 1) rfl rfl) rfl rfl,
    st_iret hC (n := 72) hR (dc_X12_behindEnds 72 (119, .ireturn, 1) rfl rfl), trivial⟩
set_option maxRecDepth 8000 in
theorem vc_X12_behindEnds : VC P_X12_behindEnds 5 Pre_X12_behindEnds Fn_X12_behindEnds := by
  rintro mm as hom hoa ⟨ns, nm, nt, L, k, hY, hl, hk, rfl⟩
  refine ⟨Nat.le_of_ble_eq_true rfl, fun X h => ?_⟩
  have hL : mm.1 54 0 10 = nI L := hY.1
  have hL60 : L ≤ 60 := hY.2.1
  have hF : Fn_X12_behindEnds mm [vR 12 0, vI (nI k)] = (some (vI (nI (beK 6000 mm L k).1)), (beK 6000 mm L k).2) := by
    show (some (vI (nI (beK 6000 mm (mm.1 54 0 10).toNatClampNeg (nI k).toNatClampNeg).1)), (beK 6000 mm (mm.1 54 0 10).toNatClampNeg (nI k).toNatClampNeg).2) = _
    rw [hL, nI_clamp (by omega), nI_clamp (by omega)]
  rw [hF] at h
  have loop : ∀ f M j L3 L4, YP (M.1 54 0) ns nm nt L → LPo M → j ≤ L → pE M L j < f → RUN P_X12_behindEnds (fun r m' => (r, m') = (some (vI (nI (beK f M L j).1)), (beK f M L j).2)) X → X 2 [some (vR 12 0), some (vI (nI k)), some (vI (nI j)), L3, L4] [] (M) := by
    intro f
    induction f with
    | zero => intro M j L3 L4 _ _ _ hf; omega
    | succ f ih =>
      intro M j L3 L4 hY hl hj hf h
      have hL : M.1 54 0 10 = nI L := hY.1
      have x0 : (146 + 6 * nI j).toNatClampNeg = 146 + 6 * j := by simp (disch := omega) only [li, pk_mul, nI_add, nI_clamp]
      have hb : beK (f + 1) M L j = if clP M L j then beK f (enM M j) L (enK M j) else (j, M) := rfl
      have stop : ¬ clP M L j → X 71 [some (vR 12 0), some (vI (nI k)), some (vI (nI j)), L3, L4] [] (M) := by
        intro hc
        rw [hb, if_neg hc] at h
        show X 71 [some (vR 12 0), some (vI (nI k)), some (vI (nI j)), L3, L4] [] M
        refine h (fun _ => false) 3000 71 _ _ _ ?_
        show ((some (vI (nI j)) : Option MV), M) = _
        exact rfl
      have go : clP M L j → X 18 [some (vR 12 0), some (vI (nI k)), some (vI (nI j)), L3, L4] [] (M) := by
        intro hc
        rw [hb, if_pos hc] at h
        obtain ⟨g1, g2, g3, g4⟩ := en_ok hY hl hc
        obtain ⟨o, eo⟩ : ∃ o, o = enO (M.1 54 0) j := ⟨_, rfl⟩
        have ho : o < j := by rw [eo]; exact g4
        obtain ⟨-, -, -, -, y5, -⟩ := hY.2.2 j hc.1
        obtain ⟨o', ho', eo', -⟩ := y5 hc.2
        have e1 : M.1 54 0 (150 + 6 * j) = nI o := by
          rw [eo', eo]
          unfold enO
          rw [eo', nI_clamp (by omega)]
        have x4 : (146 + 6 * nI j + 4).toNatClampNeg = 150 + 6 * j := by simp (disch := omega) only [li, pk_mul, nI_add, nI_clamp]; omega
        have xo : (146 + 6 * nI o).toNatClampNeg = 146 + 6 * o := by simp (disch := omega) only [li, pk_mul, nI_add, nI_clamp]
        have eon : (nI o).toNatClampNeg = o := nI_clamp (by omega)
        have hYM : YP ((enM M j).1 54 0) ns nm nt L := by rw [enM_54]; exact hY
        have fin := ih (enM M j) (enK M j)
        have again : enP M j → ∀ L4, X 47 [some (vR 12 0), some (vI (nI k)), some (vI (nI j)), some (vI (nI o)), L4] [vI (1)] (M) := by
          intro hp L4
          have em : enM M j = mI M 69 0 o (M.1 69 0 o - 1) := by unfold enM; rw [mite_t hp, ← eo]
          have ek : enK M j = o + 1 := by unfold enK; rw [if_pos hp, ← eo]
          have r2 := fin (some (vI (nI o))) (some (vI 1)) hYM g2 g3 (by omega) h
          rw [em, ek] at r2
          show X 47 [some (vR 12 0), some (vI (nI k)), some (vI (nI j)), some (vI (nI o)), L4] [vI 1] M
          refine h (fun i => Nat.beq i 2) 3000 47 _ _ _ ?_
          refine And.intro (show inb (nI o) (alen 69) = true from (inb_o 80 rfl rfl rfl (by omega))) ?_
          refine br_f (by decide) ?_
          refine And.intro (show inb (nI o) (alen 69) = true from (inb_o 80 rfl rfl rfl (by omega))) ?_
          refine br_f (by decide) ?_
          show X 2 [some (vR 12 0), some (vI (nI k)), some (vI ((nI o) + 1)), some (vI (nI o)), some (vI 1)] [] (mRow M 69 0 (upd (M.1 69 0) (nI o).toNatClampNeg ((M.1 69 0 ((nI o).toNatClampNeg)) - 1)))
          rw [eon, nI_1]
          exact r2
        have on : ¬ enP M j → ∀ L4, X 47 [some (vR 12 0), some (vI (nI k)), some (vI (nI j)), some (vI (nI o)), L4] [vI (0)] (M) := by
          intro hp L4
          have em : enM M j = M := mite_f hp
          have ek : enK M j = j + 1 := if_neg hp
          have r2 := fin (some (vI (nI o))) (some (vI 0)) hYM g2 g3 (by omega) h
          rw [em, ek] at r2
          have e0 : mRow M 69 0 (upd (M.1 69 0) o (M.1 69 0 o - 0)) = M := by
            rw [Int32.sub_zero, upd_self rfl]
            exact mRow_self _ _ _
          show X 47 [some (vR 12 0), some (vI (nI k)), some (vI (nI j)), some (vI (nI o)), L4] [vI 0] M
          refine h (fun i => Nat.beq i 2) 3000 47 _ _ _ ?_
          refine And.intro (show inb (nI o) (alen 69) = true from (inb_o 80 rfl rfl rfl (by omega))) ?_
          refine br_t (rfl) ?_
          refine And.intro (show inb (nI o) (alen 69) = true from (inb_o 80 rfl rfl rfl (by omega))) ?_
          refine br_t (rfl) ?_
          show X 2 [some (vR 12 0), some (vI (nI k)), some (vI ((nI j) + 1)), some (vI (nI o)), some (vI 0)] [] (mRow M 69 0 (upd (M.1 69 0) (nI o).toNatClampNeg ((M.1 69 0 ((nI o).toNatClampNeg)) - 0)))
          rw [eon, nI_1, e0]
          exact r2
        suffices z : X 29 [some (vR 12 0), some (vI (nI k)), some (vI (nI j)), some (vI (nI o)), L4] [] (M) by
          show X 18 [some (vR 12 0), some (vI (nI k)), some (vI (nI j)), L3, L4] [] M
          refine h (fun i => Nat.beq i 29) 3000 18 _ _ _ ?_
          refine And.intro (show inb ((146 + (6 * (nI j))) + 4) (alen 54) = true from (inb_o 3060 rfl rfl (show 146 + 6 * nI j + 4 = nI (146 + 6 * j + 4) by simp (disch := omega) only [li, pk_mul, nI_add, nI_clamp]) (by omega))) ?_
          show X 29 [some (vR 12 0), some (vI (nI k)), some (vI (nI j)), some (vI (M.1 54 0 (((146 + (6 * (nI j))) + 4).toNatClampNeg))), L4] [] M
          rw [x4, e1]
          exact z
        show X 29 [some (vR 12 0), some (vI (nI k)), some (vI (nI j)), some (vI (nI o)), L4] [] M
        refine h (fun i => Nat.beq i 47) 3000 29 _ _ _ ?_
        refine And.intro (show inb (146 + (6 * (nI o))) (alen 54) = true from (inb_o 3060 rfl rfl (show 146 + 6 * nI o = nI (146 + 6 * o) by simp (disch := omega) only [li, pk_mul, nI_add, nI_clamp]) (by omega))) ?_
        refine brn_c (fun b38 => ?_) (fun b38 => ?_)
        · -- 38: M.1 54 0 ((146 + (6 * (nI o))).toNatClampNeg) = 24 taken
          replace b38 : ¬ (M.1 54 0 ((146 + (6 * (nI o))).toNatClampNeg) = 24) := b38
          (try simp only [xo, eon] at b38)
          show X 47 [some (vR 12 0), some (vI (nI k)), some (vI (nI j)), some (vI (nI o)), L4] [vI 0] M
          (try simp only [xo, eon])
          exact on (fun z => b38 (by have := z.1; rw [← eo] at this; exact this)) _
        · -- 38: M.1 54 0 ((146 + (6 * (nI o))).toNatClampNeg) = 24 on
          replace b38 : M.1 54 0 ((146 + (6 * (nI o))).toNatClampNeg) = 24 := b38
          (try simp only [xo, eon] at b38)
          refine And.intro (show inb (nI o) (alen 69) = true from (inb_o 80 rfl rfl rfl (by omega))) ?_
          refine br_c (fun b43 => ?_) (fun b43 => ?_)
          · -- 43: M.1 69 0 ((nI o).toNatClampNeg) ≤ 0 taken
            replace b43 : M.1 69 0 ((nI o).toNatClampNeg) ≤ 0 := b43
            (try simp only [xo, eon] at b43)
            show X 47 [some (vR 12 0), some (vI (nI k)), some (vI (nI j)), some (vI (nI o)), L4] [vI 0] M
            (try simp only [xo, eon])
            exact on (fun z => z.2 (by rw [← eo]; exact b43)) _
          · -- 43: M.1 69 0 ((nI o).toNatClampNeg) ≤ 0 on
            replace b43 : ¬ (M.1 69 0 ((nI o).toNatClampNeg) ≤ 0) := b43
            (try simp only [xo, eon] at b43)
            show X 47 [some (vR 12 0), some (vI (nI k)), some (vI (nI j)), some (vI (nI o)), L4] [vI 1] M
            (try simp only [xo, eon])
            exact again ⟨by rw [← eo]; exact b38, by rw [← eo]; exact b43⟩ _
      show X 2 [some (vR 12 0), some (vI (nI k)), some (vI (nI j)), L3, L4] [] M
      refine h (fun i => Nat.beq i 18 || Nat.beq i 71) 3000 2 _ _ _ ?_
      refine And.intro (show inb 10 (alen 54) = true from rfl) ?_
      refine br_c (fun b7 => ?_) (fun b7 => ?_)
      · -- 7: M.1 54 0 10 ≤ nI j taken
        replace b7 : M.1 54 0 10 ≤ nI j := b7
        (try simp only [x0] at b7)
        show X 71 [some (vR 12 0), some (vI (nI k)), some (vI (nI j)), L3, L4] [] M
        (try simp only [x0])
        exact stop (fun z => by rw [hL, nI_leI (by omega) (by omega)] at b7; omega)
      · -- 7: M.1 54 0 10 ≤ nI j on
        replace b7 : ¬ (M.1 54 0 10 ≤ nI j) := b7
        (try simp only [x0] at b7)
        refine And.intro (show inb (146 + (6 * (nI j))) (alen 54) = true from (inb_o 3060 rfl rfl (show 146 + 6 * nI j = nI (146 + 6 * j) by simp (disch := omega) only [li, pk_mul, nI_add, nI_clamp]) (by rw [hL, nI_leI (by omega) (by omega)] at b7; omega))) ?_
        refine brn_c (fun b17 => ?_) (fun b17 => ?_)
        · -- 17: M.1 54 0 ((146 + (6 * (nI j))).toNatClampNeg) = 25 taken
          replace b17 : ¬ (M.1 54 0 ((146 + (6 * (nI j))).toNatClampNeg) = 25) := b17
          (try simp only [x0] at b17)
          show X 71 [some (vR 12 0), some (vI (nI k)), some (vI (nI j)), L3, L4] [] M
          (try simp only [x0])
          exact stop (fun z => b17 z.2)
        · -- 17: M.1 54 0 ((146 + (6 * (nI j))).toNatClampNeg) = 25 on
          replace b17 : M.1 54 0 ((146 + (6 * (nI j))).toNatClampNeg) = 25 := b17
          (try simp only [x0] at b17)
          show X 18 [some (vR 12 0), some (vI (nI k)), some (vI (nI j)), L3, L4] [] M
          (try simp only [x0])
          exact go ⟨by rw [hL, nI_leI (by omega) (by omega)] at b7; omega, b17⟩
  have hp := pE_le (L := L) (k := k) hl
  show X 0 [some (vR 12 0), some (vI (nI k)), none, none, none] [] mm
  refine h (fun i => Nat.beq i 2) 3000 0 _ _ _ ?_
  show X 2 [some (vR 12 0), some (vI (nI k)), some (vI (nI k)), none, none] [] mm
  exact loop 6000 mm k none none hY hl hk (by omega) h
theorem con_X12_behindEnds (l : Launch) : CON l y_X12_behindEnds prog_14_method_158_code 5 (some .int) rm_X12_behindEnds Pre_X12_behindEnds Fn_X12_behindEnds := CON_of (by decide) rfl rfl (sa_X12_behindEnds l) vc_X12_behindEnds
