/-! PART 41: the model: words, names -/

/-- the first that is so, as a number; -1: none -/
def fsI (P : Nat → Prop) [DecidablePred P] : Nat → Nat → Int32
  | 0, _ => -1
  | f + 1, j => if P j then nI j else fsI P f (j + 1)
theorem fsI_y {P : Nat → Prop} [DecidablePred P] {f j : Nat} (h : P j) : fsI P (f + 1) j = nI j := if_pos h
theorem fsI_n {P : Nat → Prop} [DecidablePred P] {f j : Nat} (h : ¬ P j) : fsI P (f + 1) j = fsI P f (j + 1) := if_neg h
theorem fsI_in (P : Nat → Prop) [DecidablePred P] : ∀ f j, (fsI P f j = -1 ∧ ∀ k, j ≤ k → k < j + f → ¬ P k) ∨ ∃ k, j ≤ k ∧ k < j + f ∧ fsI P f j = nI k ∧ P k ∧ ∀ i, j ≤ i → i < k → ¬ P i
  | 0, j => Or.inl ⟨rfl, fun k h1 h2 => by omega⟩
  | f + 1, j => by
    by_cases h : P j
    · exact Or.inr ⟨j, Nat.le_refl _, by omega, fsI_y h, h, fun i h1 h2 => by omega⟩
    · rw [fsI_n h]
      rcases fsI_in P f (j + 1) with ⟨e, hn⟩ | ⟨k, h1, h2, e, hp, hn⟩
      · refine Or.inl ⟨e, fun k h1 h2 => ?_⟩
        rcases Nat.eq_or_lt_of_le h1 with q | q
        · rw [← q]; exact h
        · exact hn k q (by omega)
      · refine Or.inr ⟨k, by omega, by omega, e, hp, fun i h3 h4 => ?_⟩
        rcases Nat.eq_or_lt_of_le h3 with q | q
        · rw [← q]; exact h
        · exact hn i q h4
theorem fsI_cg {P Q : Nat → Prop} [DecidablePred P] [DecidablePred Q] : ∀ f j, (∀ k, j ≤ k → k < j + f → (P k ↔ Q k)) → fsI P f j = fsI Q f j
  | 0, _, _ => rfl
  | f + 1, j, h => by
    by_cases hp : P j
    · rw [fsI_y hp, fsI_y ((h j (Nat.le_refl _) (by omega)).mp hp)]
    · rw [fsI_n hp, fsI_n (fun z => hp ((h j (Nat.le_refl _) (by omega)).mpr z))]
      exact fsI_cg f (j + 1) (fun k h1 h2 => h k (by omega) (by omega))
/-- the own words of the model, as letters -/
def KW : List (List Nat) := [[115, 117, 105, 116, 111, 114], [109, 97, 105, 100], [116, 104, 105, 110, 103], [115, 97, 121, 115], [97, 102, 116, 101, 114], [108, 105, 107, 101, 115], [119, 101, 101, 107, 108, 121], [102, 97, 105, 114], [97, 103, 101], [99, 111, 119, 115], [98, 97, 114], [114, 105, 115, 101, 115], [109, 111, 116, 104, 101, 114], [111, 102], [119, 111, 114, 116, 104], [116, 111], [103, 105, 118, 101], [102, 101, 105, 103, 110], [97, 110, 121], [98, 97, 99, 107], [119, 101, 101, 107], [119, 101, 100], [119, 105, 116, 104], [119, 104, 101, 110], [108, 111, 111, 112], [101, 110, 100], [115, 116, 111, 112], [104, 101, 97, 114, 100], [121, 101, 115], [98, 97, 114, 101]]
def kwL (j : Nat) : Nat := (KW.getD j []).length
def kwC (j i : Nat) : Nat := (KW.getD j []).getD i 0
def kwO : Nat → Nat
  | 0 => 1
  | j + 1 => kwO j + kwL j + 1
theorem kw_ok : ∀ j, j < 30 → kwO j + kwL j < 154 ∧ kwL j ≤ 8 ∧ 1 ≤ kwL j ∧ sbyt 1 (kwO j + kwL j) = 32 ∧ ∀ i, i < kwL j → sbyt 1 (kwO j + i) = nI (kwC j i) ∧ 97 ≤ kwC j i ∧ kwC j i ≤ 122 := by decide +kernel
theorem kwO_30 : kwO 30 = 154 := by decide +kernel
/-- the word j stands from s to e -/
def kwP (T : Nat → Int32) (S s e j : Nat) : Prop := kwL j = e - s ∧ ∀ i, i < kwL j → nI (kwC j i) = btF T S (s + i)
def kwD (T : Nat → Int32) (S s e j : Nat) : Decidable (kwP T S s e j) := by unfold kwP; infer_instance
def kwI (T : Nat → Int32) (S s e : Nat) : Int32 := @fsI (kwP T S s e) (fun j => kwD T S s e j) 30 0
abbrev txS (m : MM) : Nat := (m.1 12 0 11).toNatClampNeg
abbrev txs (m : MM) : Nat := (m.1 12 0 13).toNatClampNeg
abbrev txe (m : MM) : Nat := (m.1 12 0 14).toNatClampNeg
/-- which own word stands here; -1: none -/
def kyA (m : MM) : Int32 := if m.1 12 0 12 = 2 then kwI (m.1 60 0) (txS m) (txs m) (txe m) else -1
/-- the TOKEN lies within the text -/
def TXo (m : MM) : Prop := ∃ S s e : Nat, m.1 12 0 11 = nI S ∧ S ≤ 900 ∧ m.1 12 0 13 = nI s ∧ m.1 12 0 14 = nI e ∧ s ≤ e ∧ e ≤ S

--tpl ⟨(by repeat' (first | assumption | refine TXo_ah ?_ | refine TXo_fa ?_ | refine TXo_54 ?_ | refine TXo_55 ?_ | refine TXo_pr ?_)), rfl⟩ || kyA {m}
def Pre_X12_inWords : PreT := fun m as => TXo m ∧ as = [vR 12 0, vR 72 1]
def Fn_X12_inWords : FnT := fun m _ => (some (vI (kyA m)), m)
abbrev y_X12_inWords : MethodName := ⟨"GivenUpModel", "inWords", "(Ljava/lang/String;)I"⟩
def P_X12_inWords : List StpT := [s_aload 0, s_getI 12 12, s_ic (2), s_iceq 6, s_ic (-1), s_iret, s_ic (0), s_istore 2, s_ic (1), s_istore 3, s_iload 3, s_aload 1, s_callT 0 Pre_J0_length_8abf5 Fn_J0_length_8abf5, s_icge 71, s_iload 3, s_istore 4, s_aload 1, s_iload 4, s_callT 1 Pre_J0_charAt_5068e Fn_J0_charAt_5068e, s_ic (32), s_iceq 23, s_iinc 4 (1), s_goto 16, s_iload 4, s_iload 3, s_isub, s_aload 0, s_getI 12 14, s_aload 0, s_getI 12 13, s_isub, s_icne 34, s_ic (1), s_goto 35, s_ic (0), s_istore 5, s_iload 3, s_istore 6, s_iload 6, s_iload 4, s_icge 61, s_iload 5, s_ifeq 61, s_aload 1, s_iload 6, s_callT 1 Pre_J0_charAt_5068e Fn_J0_charAt_5068e, s_aload 0, s_aload 0, s_getI 12 13, s_iload 6, s_iadd, s_iload 3, s_isub, s_callV 12 1 Pre_X12_byteAt Fn_X12_byteAt, s_icne 57, s_ic (1), s_goto 58, s_ic (0), s_istore 5, s_iinc 6 (1), s_goto 38, s_iload 5, s_ifeq 65, s_iload 2, s_iret, s_iinc 2 (1), s_iload 4, s_ic (1), s_iadd, s_istore 3, s_goto 10, s_ic (-1), s_iret]
def pc_X12_inWords : Nat → Nat := fun i => [0, 1, 4, 5, 8, 9, 10, 11, 12, 13, 14, 15, 16, 19, 22, 23, 25, 26, 28, 31, 33, 36, 39, 42, 44, 45, 46, 47, 50, 51, 54, 55, 58, 59, 62, 63, 65, 66, 68, 70, 72, 75, 77, 80, 81, 83, 86, 87, 88, 91, 93, 94, 95, 96, 99, 102, 103, 106, 107, 109, 112, 115, 117, 120, 121, 122, 125, 127, 128, 129, 130, 133, 134].getD i 0
def dl_X12_inWords : List (Nat × Instr × Nat) := [(0, .aload_n 0, 1), (1, .getfield 132, 3), (4, .iconst 2, 1), (5, .if_icmp .eq 5, 3), (8, .iconst (-1), 1), (9, .ireturn, 1), (10, .iconst 0, 1), (11, .istore_n 2, 1), (12, .iconst 1, 1), (13, .istore_n 3, 1), (14, .iload_n 3, 1), (15, .aload_n 1, 1), (16, .invokevirtual 147, 3), (19, .if_icmp .ge 114, 3), (22, .iload_n 3, 1), (23, .istore 4, 2), (25, .aload_n 1, 1), (26, .iload 4, 2), (28, .invokevirtual 153, 3), (31, .bipush 32, 2), (33, .if_icmp .eq 9, 3), (36, .iinc 4 1, 3), (39, .goto (-14), 3), (42, .iload 4, 2), (44, .iload_n 3, 1), (45, .isub, 1), (46, .aload_n 0, 1), (47, .getfield 120, 3), (50, .aload_n 0, 1), (51, .getfield 126, 3), (54, .isub, 1), (55, .if_icmp .ne 7, 3), (58, .iconst 1, 1), (59, .goto 4, 3), (62, .iconst 0, 1), (63, .istore 5, 2), (65, .iload_n 3, 1), (66, .istore 6, 2), (68, .iload 6, 2), (70, .iload 4, 2), (72, .if_icmp .ge 43, 3), (75, .iload 5, 2), (77, .ifCond .eq 38, 3), (80, .aload_n 1, 1), (81, .iload 6, 2), (83, .invokevirtual 153, 3), (86, .aload_n 0, 1), (87, .aload_n 0, 1), (88, .getfield 126, 3), (91, .iload 6, 2), (93, .iadd, 1), (94, .iload_n 3, 1), (95, .isub, 1), (96, .invokevirtual 123, 3), (99, .if_icmp .ne 7, 3), (102, .iconst 1, 1), (103, .goto 4, 3), (106, .iconst 0, 1), (107, .istore 5, 2), (109, .iinc 6 1, 3), (112, .goto (-44), 3), (115, .iload 5, 2), (117, .ifCond .eq 5, 3), (120, .iload_n 2, 1), (121, .ireturn, 1), (122, .iinc 2 1, 3), (125, .iload 4, 2), (127, .iconst 1, 1), (128, .iadd, 1), (129, .istore_n 3, 1), (130, .goto (-116), 3), (133, .iconst (-1), 1), (134, .ireturn, 1)]
theorem dc_X12_inWords : DEC prog_14_method_27_code pc_X12_inWords dl_X12_inWords := DEC_of (by decide +kernel)
abbrev rm_X12_inWords : Room := { frames := 5, cells := 0, slots := 0, locals := 106 }
set_option maxRecDepth 20000 in
theorem sa_X12_inWords (l : Launch) : SNDALL l prog_14_method_27_code "GivenUpModel" 7 (some .int) rm_X12_inWords P_X12_inWords pc_X12_inWords := fun p e s m args below meth c cells slots Q D dA ad A RR hC hR => by
  have hM := RTX_room (R := rm_X12_inWords) hR
  exact ⟨st_aload_n hC (n := 0) (k := 0) (dc_X12_inWords 0 (0, .aload_n 0, 1) rfl rfl) rfl rfl,
    st_getI hC (n := 1) (k := 12) (j := 12) (dc_X12_inWords 1 (1, .getfield 132, 3) rfl rfl) rfl clf_12 (by decide) rfl wd_1564,
    st_iconst hC (n := 2) (x := 2) (dc_X12_inWords 2 (4, .iconst 2, 1) rfl rfl) rfl (by decide),
    st_iceq hC (n := 3) (dc_X12_inWords 3 (5, .if_icmp .eq 5, 3) rfl rfl) rfl (by decide),
    st_iconst hC (n := 4) (x := (-1)) (dc_X12_inWords 4 (8, .iconst (-1), 1) rfl rfl) rfl (by decide),
    st_iret hC (n := 5) hR (dc_X12_inWords 5 (9, .ireturn, 1) rfl rfl),
    st_iconst hC (n := 6) (x := 0) (dc_X12_inWords 6 (10, .iconst 0, 1) rfl rfl) rfl (by decide),
    st_istore_n hC (n := 7) (k := 2) (dc_X12_inWords 7 (11, .istore_n 2, 1) rfl rfl) rfl rfl (by decide),
    st_iconst hC (n := 8) (x := 1) (dc_X12_inWords 8 (12, .iconst 1, 1) rfl rfl) rfl (by decide),
    st_istore_n hC (n := 9) (k := 3) (dc_X12_inWords 9 (13, .istore_n 3, 1) rfl rfl) rfl rfl (by decide),
    st_iload_n hC (n := 10) (k := 3) (dc_X12_inWords 10 (14, .iload_n 3, 1) rfl rfl) rfl rfl,
    st_aload_n hC (n := 11) (k := 1) (dc_X12_inWords 11 (15, .aload_n 1, 1) rfl rfl) rfl rfl,
    st_callT hC (n := 12) (na := 0) (con_J0_length_8abf5 l) (dc_X12_inWords 12 (16, .invokevirtual 147, 3) rfl rfl) rfl wd_184 wd_145 (by decide) ⟨rfl, rfl, by decide, by decide⟩ hM wd_1768 wd_182 wd_183 rfl,
    st_icge hC (n := 13) (dc_X12_inWords 13 (19, .if_icmp .ge 114, 3) rfl rfl) rfl (by decide),
    st_iload_n hC (n := 14) (k := 3) (dc_X12_inWords 14 (22, .iload_n 3, 1) rfl rfl) rfl rfl,
    st_istore hC (n := 15) (dc_X12_inWords 15 (23, .istore 4, 2) rfl rfl) rfl (by decide),
    st_aload_n hC (n := 16) (k := 1) (dc_X12_inWords 16 (25, .aload_n 1, 1) rfl rfl) rfl rfl,
    st_iload hC (n := 17) (dc_X12_inWords 17 (26, .iload 4, 2) rfl rfl) rfl,
    st_callT hC (n := 18) (na := 1) (con_J0_charAt_5068e l) (dc_X12_inWords 18 (28, .invokevirtual 153, 3) rfl rfl) rfl wd_194 wd_145 (by decide) ⟨rfl, rfl, by decide, by decide⟩ hM wd_1769 wd_192 wd_193 rfl,
    st_bipush hC (n := 19) (x := 32) (dc_X12_inWords 19 (31, .bipush 32, 2) rfl rfl) rfl (by decide),
    st_iceq hC (n := 20) (dc_X12_inWords 20 (33, .if_icmp .eq 9, 3) rfl rfl) rfl (by decide),
    st_iinc hC (n := 21) (x := 1) (dc_X12_inWords 21 (36, .iinc 4 1, 3) rfl rfl) rfl (by decide) (by decide),
    st_goto hC (n := 22) (dc_X12_inWords 22 (39, .goto (-14), 3) rfl rfl) (by decide),
    st_iload hC (n := 23) (dc_X12_inWords 23 (42, .iload 4, 2) rfl rfl) rfl,
    st_iload_n hC (n := 24) (k := 3) (dc_X12_inWords 24 (44, .iload_n 3, 1) rfl rfl) rfl rfl,
    st_isub hC (n := 25) (dc_X12_inWords 25 (45, .isub, 1) rfl rfl) rfl,
    st_aload_n hC (n := 26) (k := 0) (dc_X12_inWords 26 (46, .aload_n 0, 1) rfl rfl) rfl rfl,
    st_getI hC (n := 27) (k := 12) (j := 14) (dc_X12_inWords 27 (47, .getfield 120, 3) rfl rfl) rfl clf_12 (by decide) rfl wd_1566,
    st_aload_n hC (n := 28) (k := 0) (dc_X12_inWords 28 (50, .aload_n 0, 1) rfl rfl) rfl rfl,
    st_getI hC (n := 29) (k := 12) (j := 13) (dc_X12_inWords 29 (51, .getfield 126, 3) rfl rfl) rfl clf_12 (by decide) rfl wd_1565,
    st_isub hC (n := 30) (dc_X12_inWords 30 (54, .isub, 1) rfl rfl) rfl,
    st_icne hC (n := 31) (dc_X12_inWords 31 (55, .if_icmp .ne 7, 3) rfl rfl) rfl (by decide),
    st_iconst hC (n := 32) (x := 1) (dc_X12_inWords 32 (58, .iconst 1, 1) rfl rfl) rfl (by decide),
    st_goto hC (n := 33) (dc_X12_inWords 33 (59, .goto 4, 3) rfl rfl) (by decide),
    st_iconst hC (n := 34) (x := 0) (dc_X12_inWords 34 (62, .iconst 0, 1) rfl rfl) rfl (by decide),
    st_istore hC (n := 35) (dc_X12_inWords 35 (63, .istore 5, 2) rfl rfl) rfl (by decide),
    st_iload_n hC (n := 36) (k := 3) (dc_X12_inWords 36 (65, .iload_n 3, 1) rfl rfl) rfl rfl,
    st_istore hC (n := 37) (dc_X12_inWords 37 (66, .istore 6, 2) rfl rfl) rfl (by decide),
    st_iload hC (n := 38) (dc_X12_inWords 38 (68, .iload 6, 2) rfl rfl) rfl,
    st_iload hC (n := 39) (dc_X12_inWords 39 (70, .iload 4, 2) rfl rfl) rfl,
    st_icge hC (n := 40) (dc_X12_inWords 40 (72, .if_icmp .ge 43, 3) rfl rfl) rfl (by decide),
    st_iload hC (n := 41) (dc_X12_inWords 41 (75, .iload 5, 2) rfl rfl) rfl,
    st_ifeq hC (n := 42) (dc_X12_inWords 42 (77, .ifCond .eq 38, 3) rfl rfl) rfl (by decide),
    st_aload_n hC (n := 43) (k := 1) (dc_X12_inWords 43 (80, .aload_n 1, 1) rfl rfl) rfl rfl,
    st_iload hC (n := 44) (dc_X12_inWords 44 (81, .iload 6, 2) rfl rfl) rfl,
    st_callT hC (n := 45) (na := 1) (con_J0_charAt_5068e l) (dc_X12_inWords 45 (83, .invokevirtual 153, 3) rfl rfl) rfl wd_194 wd_145 (by decide) ⟨rfl, rfl, by decide, by decide⟩ hM wd_1769 wd_192 wd_193 rfl,
    st_aload_n hC (n := 46) (k := 0) (dc_X12_inWords 46 (86, .aload_n 0, 1) rfl rfl) rfl rfl,
    st_aload_n hC (n := 47) (k := 0) (dc_X12_inWords 47 (87, .aload_n 0, 1) rfl rfl) rfl rfl,
    st_getI hC (n := 48) (k := 12) (j := 13) (dc_X12_inWords 48 (88, .getfield 126, 3) rfl rfl) rfl clf_12 (by decide) rfl wd_1565,
    st_iload hC (n := 49) (dc_X12_inWords 49 (91, .iload 6, 2) rfl rfl) rfl,
    st_iadd hC (n := 50) (dc_X12_inWords 50 (93, .iadd, 1) rfl rfl) rfl,
    st_iload_n hC (n := 51) (k := 3) (dc_X12_inWords 51 (94, .iload_n 3, 1) rfl rfl) rfl rfl,
    st_isub hC (n := 52) (dc_X12_inWords 52 (95, .isub, 1) rfl rfl) rfl,
    st_callV hC (n := 53) (k := 12) (na := 1) (con_X12_byteAt l) (dc_X12_inWords 53 (96, .invokevirtual 123, 3) rfl rfl) rfl wd_1746 wd_160 (by decide) ⟨rfl, rfl, by decide, by decide⟩ hM wd_1743 wd_1745 wd_56 clf_12,
    st_icne hC (n := 54) (dc_X12_inWords 54 (99, .if_icmp .ne 7, 3) rfl rfl) rfl (by decide),
    st_iconst hC (n := 55) (x := 1) (dc_X12_inWords 55 (102, .iconst 1, 1) rfl rfl) rfl (by decide),
    st_goto hC (n := 56) (dc_X12_inWords 56 (103, .goto 4, 3) rfl rfl) (by decide),
    st_iconst hC (n := 57) (x := 0) (dc_X12_inWords 57 (106, .iconst 0, 1) rfl rfl) rfl (by decide),
    st_istore hC (n := 58) (dc_X12_inWords 58 (107, .istore 5, 2) rfl rfl) rfl (by decide),
    st_iinc hC (n := 59) (x := 1) (dc_X12_inWords 59 (109, .iinc 6 1, 3) rfl rfl) rfl (by decide) (by decide),
    st_goto hC (n := 60) (dc_X12_inWords 60 (112, .goto (-44), 3) rfl rfl) (by decide),
    st_iload hC (n := 61) (dc_X12_inWords 61 (115, .iload 5, 2) rfl rfl) rfl,
    st_ifeq hC (n := 62) (dc_X12_inWords 62 (117, .ifCond .eq 5, 3) rfl rfl) rfl (by decide),
    st_iload_n hC (n := 63) (k := 2) (dc_X12_inWords 63 (120, .iload_n 2, 1) rfl rfl) rfl rfl,
    st_iret hC (n := 64) hR (dc_X12_inWords 64 (121, .ireturn, 1) rfl rfl),
    st_iinc hC (n := 65) (x := 1) (dc_X12_inWords 65 (122, .iinc 2 1, 3) rfl rfl) rfl (by decide) (by decide),
    st_iload hC (n := 66) (dc_X12_inWords 66 (125, .iload 4, 2) rfl rfl) rfl,
    st_iconst hC (n := 67) (x := 1) (dc_X12_inWords 67 (127, .iconst 1, 1) rfl rfl) rfl (by decide),
    st_iadd hC (n := 68) (dc_X12_inWords 68 (128, .iadd, 1) rfl rfl) rfl,
    st_istore_n hC (n := 69) (k := 3) (dc_X12_inWords 69 (129, .istore_n 3, 1) rfl rfl) rfl rfl (by decide),
    st_goto hC (n := 70) (dc_X12_inWords 70 (130, .goto (-116), 3) rfl rfl) (by decide),
    st_iconst hC (n := 71) (x := (-1)) (dc_X12_inWords 71 (133, .iconst (-1), 1) rfl rfl) rfl (by decide),
    st_iret hC (n := 72) hR (dc_X12_inWords 72 (134, .ireturn, 1) rfl rfl), trivial⟩
set_option maxRecDepth 8000 in
theorem vc_X12_inWords : VC P_X12_inWords 7 Pre_X12_inWords Fn_X12_inWords := by
  rintro mm as hom hoa ⟨⟨S, s, e, hS, hS9, hs, he, hse, heS⟩, rfl⟩
  refine ⟨Nat.le_of_ble_eq_true rfl, fun X h => ?_⟩
  have hSn : (mm.1 12 0 11).toNatClampNeg = S := by rw [hS]; exact nI_clamp (by omega)
  obtain ⟨T, hT⟩ : ∃ T, mm.1 60 0 = T := ⟨_, rfl⟩
  obtain ⟨RES, hR⟩ : ∃ RES, RES = kwI T S s e := ⟨_, rfl⟩
  have hF : Fn_X12_inWords mm [vR 12 0, vR 72 1] = (some (vI (if mm.1 12 0 12 = 2 then RES else -1)), mm) := by
    show (some (vI (kyA mm)), mm) = _
    unfold kyA txS txs txe
    rw [hT, hSn, hs, he, nI_clamp (by omega), nI_clamp (by omega), hR]
  rw [hF] at h
  have loop : mm.1 12 0 12 = 2 → ∀ j, j ≤ 30 → @fsI (kwP T S s e) (fun j => kwD T S s e j) (30 - j) j = RES → ∀ L4 L5 L6, X 10 [some (vR 12 0), some (vR 72 1), some (vI (nI j)), some (vI (nI (kwO j))), L4, L5, L6] [] mm := by
    intro h2
    rw [if_pos h2] at h
    refine up_ind 30 ?_ (fun j hj ih => ?_)
    · intro hr L4 L5 L6
      have hr2 : RES = -1 := hr.symm
      show X 10 [some (vR 12 0), some (vR 72 1), some (vI (nI 30)), some (vI (nI (kwO 30))), L4, L5, L6] [] mm
      refine h (fun _ => false) 3000 10 _ _ _ ?_
      refine And.intro (show Pre_J0_length_8abf5 mm [vR 72 1] from ⟨1, by decide, rfl⟩) ?_
      refine br_t (by rw [kwO_30]; exact Int32.le_refl _) ?_
      show ((some (vI (-1)) : Option MV), mm) = _
      rw [hr2]
    · intro hr L4 L5 L6
      obtain ⟨k1, k2, k3, k4, k5⟩ := kw_ok j hj
      obtain ⟨O, hO⟩ : ∃ O, O = kwO j := ⟨_, rfl⟩
      obtain ⟨n, hn⟩ : ∃ n, n = kwL j := ⟨_, rfl⟩
      rw [show kwO (j + 1) = O + n + 1 by rw [hO, hn]; rfl] at ih
      rw [← hO, ← hn] at k1 k4 k5
      rw [← hn] at k2 k3
      rw [← hO]
      rw [show 30 - j = (30 - (j + 1)) + 1 by omega] at hr
      have eO : (nI O).toNatClampNeg = O := nI_clamp (by omega)
      -- the next word
      have next : ¬ kwP T S s e j → ∀ L6, X 65 [some (vR 12 0), some (vR 72 1), some (vI (nI j)), some (vI (nI O)), some (vI (nI (O + n))), some (vI (0)), L6] [] mm := by
        intro hc L6
        rw [@fsI_n (kwP T S s e) (fun j => kwD T S s e j) _ _ hc] at hr
        show X 65 [some (vR 12 0), some (vR 72 1), some (vI (nI j)), some (vI (nI O)), some (vI (nI (O + n))), some (vI 0), L6] [] mm
        refine h (fun i => Nat.beq i 10) 3000 65 _ _ _ ?_
        show X 10 [some (vR 12 0), some (vR 72 1), some (vI ((nI j) + 1)), some (vI ((nI (O + n)) + 1)), some (vI (nI (O + n))), some (vI 0), L6] [] mm
        rw [nI_1, nI_1]
        exact ih hr _ _ _
      have fail : ¬ kwP T S s e j → ∀ L6, X 61 [some (vR 12 0), some (vR 72 1), some (vI (nI j)), some (vI (nI O)), some (vI (nI (O + n))), some (vI (0)), L6] [] mm := by
        intro hc L6
        show X 61 [some (vR 12 0), some (vR 72 1), some (vI (nI j)), some (vI (nI O)), some (vI (nI (O + n))), some (vI 0), L6] [] mm
        refine h (fun i => Nat.beq i 65) 3000 61 _ _ _ ?_
        refine br_t (rfl) ?_
        show X 65 [some (vR 12 0), some (vR 72 1), some (vI (nI j)), some (vI (nI O)), some (vI (nI (O + n))), some (vI 0), L6] [] mm
        exact next hc _
      have good : kwP T S s e j → ∀ L6, X 61 [some (vR 12 0), some (vR 72 1), some (vI (nI j)), some (vI (nI O)), some (vI (nI (O + n))), some (vI (1)), L6] [] mm := by
        intro hc L6
        rw [@fsI_y (kwP T S s e) (fun j => kwD T S s e j) _ _ hc] at hr
        show X 61 [some (vR 12 0), some (vR 72 1), some (vI (nI j)), some (vI (nI O)), some (vI (nI (O + n))), some (vI 1), L6] [] mm
        refine h (fun _ => false) 3000 61 _ _ _ ?_
        refine br_f (by decide) ?_
        show ((some (vI (nI j)) : Option MV), mm) = _
        rw [hr]
      have cmp : n = e - s → ∀ i, i ≤ n → (∀ t, t < i → nI (kwC j t) = btF T S (s + t)) → X 38 [some (vR 12 0), some (vR 72 1), some (vI (nI j)), some (vI (nI O)), some (vI (nI (O + n))), some (vI (1)), some (vI (nI (O + i)))] [] mm := by
        intro hne
        refine up_ind n ?_ (fun i hi ihi => ?_)
        · intro hall
          show X 38 [some (vR 12 0), some (vR 72 1), some (vI (nI j)), some (vI (nI O)), some (vI (nI (O + n))), some (vI 1), some (vI (nI (O + n)))] [] mm
          refine h (fun i => Nat.beq i 61) 3000 38 _ _ _ ?_
          refine br_t (Int32.le_refl _) ?_
          show X 61 [some (vR 12 0), some (vR 72 1), some (vI (nI j)), some (vI (nI O)), some (vI (nI (O + n))), some (vI 1), some (vI (nI (O + n)))] [] mm
          exact good ⟨by rw [← hn]; exact hne, by rw [← hn]; exact hall⟩ _
        · intro hall
          have ei : (nI (O + i)).toNatClampNeg = O + i := nI_clamp (by omega)
          have ex : nI s + nI (O + i) - nI O = nI (s + i) := by rw [nI_add, nI_sb (by omega)]; congr 1; omega
          have eb : (nI (s + i)).toNatClampNeg = s + i := nI_clamp (by omega)
          have bad : ¬ nI (kwC j i) = btF T S (s + i) → X 38 [some (vR 12 0), some (vR 72 1), some (vI (nI j)), some (vI (nI O)), some (vI (nI (O + n))), some (vI (0)), some (vI (nI (O + (i + 1))))] [] mm := by
            intro hb
            have hc : ¬ kwP T S s e j := fun z => hb (z.2 i (by rw [← hn]; exact hi))
            show X 38 [some (vR 12 0), some (vR 72 1), some (vI (nI j)), some (vI (nI O)), some (vI (nI (O + n))), some (vI 0), some (vI (nI (O + (i + 1))))] [] mm
            refine h (fun i => Nat.beq i 61) 3000 38 _ _ _ ?_
            refine br_c (fun b40 => ?_) (fun b40 => ?_)
            · -- 40: nI (O + n) ≤ nI (O + (i + 1)) taken
              replace b40 : nI (O + n) ≤ nI (O + (i + 1)) := b40
              show X 61 [some (vR 12 0), some (vR 72 1), some (vI (nI j)), some (vI (nI O)), some (vI (nI (O + n))), some (vI 0), some (vI (nI (O + (i + 1))))] [] mm
              exact fail hc _
            · -- 40: nI (O + n) ≤ nI (O + (i + 1)) on
              replace b40 : ¬ (nI (O + n) ≤ nI (O + (i + 1))) := b40
              refine br_t (rfl) ?_
              show X 61 [some (vR 12 0), some (vR 72 1), some (vI (nI j)), some (vI (nI O)), some (vI (nI (O + n))), some (vI 0), some (vI (nI (O + (i + 1))))] [] mm
              exact fail hc _
          show X 38 [some (vR 12 0), some (vR 72 1), some (vI (nI j)), some (vI (nI O)), some (vI (nI (O + n))), some (vI 1), some (vI (nI (O + i)))] [] mm
          refine h (fun i => Nat.beq i 38) 3000 38 _ _ _ ?_
          refine br_f (nI_ge (by omega) (by omega)) ?_
          refine br_f (by decide) ?_
          refine And.intro (show Pre_J0_charAt_5068e mm [vR 72 1, vI (nI (O + i))] from ⟨1, O + i, by decide, show O + i < 154 by omega, rfl⟩) ?_
          refine And.intro (show Pre_X12_byteAt mm [vR 12 0, vI (((mm.1 12 0 13) + (nI (O + i))) - (nI O))] from ⟨S, s + i, hS, hS9, by omega, by rw [hs, ex]⟩) ?_
          refine brn_c (fun b54 => ?_) (fun b54 => ?_)
          · -- 54: sbyt 1 (nI (O + i)).toNatClampNeg = btF (mm.1 60 0) (mm.1 12 0 11).toNatClampNeg (((mm.1 12 0 13) + (nI (O + i))) - (nI O)).toNatClampNeg taken
            replace b54 : ¬ (sbyt 1 (nI (O + i)).toNatClampNeg = btF (mm.1 60 0) (mm.1 12 0 11).toNatClampNeg (((mm.1 12 0 13) + (nI (O + i))) - (nI O)).toNatClampNeg) := b54
            (try simp only [hT, hSn, ei, hs, ex, eb, (k5 i hi).1] at b54)
            show X 38 [some (vR 12 0), some (vR 72 1), some (vI (nI j)), some (vI (nI O)), some (vI (nI (O + n))), some (vI 0), some (vI ((nI (O + i)) + 1))] [] mm
            (try simp only [hT, hSn, ei, hs, ex, eb, (k5 i hi).1])
            rw [nI_1]
            exact bad b54
          · -- 54: sbyt 1 (nI (O + i)).toNatClampNeg = btF (mm.1 60 0) (mm.1 12 0 11).toNatClampNeg (((mm.1 12 0 13) + (nI (O + i))) - (nI O)).toNatClampNeg on
            replace b54 : sbyt 1 (nI (O + i)).toNatClampNeg = btF (mm.1 60 0) (mm.1 12 0 11).toNatClampNeg (((mm.1 12 0 13) + (nI (O + i))) - (nI O)).toNatClampNeg := b54
            (try simp only [hT, hSn, ei, hs, ex, eb, (k5 i hi).1] at b54)
            show X 38 [some (vR 12 0), some (vR 72 1), some (vI (nI j)), some (vI (nI O)), some (vI (nI (O + n))), some (vI 1), some (vI ((nI (O + i)) + 1))] [] mm
            (try simp only [hT, hSn, ei, hs, ex, eb, (k5 i hi).1])
            rw [nI_1]
            refine ihi (fun t ht => ?_) 
            rcases Nat.eq_or_lt_of_le (Nat.le_of_lt_succ ht) with q | q 
            · rw [q]; exact b54 
            · exact hall t q
      have bad0 : ¬ n = e - s → X 38 [some (vR 12 0), some (vR 72 1), some (vI (nI j)), some (vI (nI O)), some (vI (nI (O + n))), some (vI (0)), some (vI (nI O))] [] mm := by
        intro hb
        have hc : ¬ kwP T S s e j := fun z => hb (by rw [hn]; exact z.1)
        show X 38 [some (vR 12 0), some (vR 72 1), some (vI (nI j)), some (vI (nI O)), some (vI (nI (O + n))), some (vI 0), some (vI (nI O))] [] mm
        refine h (fun i => Nat.beq i 61) 3000 38 _ _ _ ?_
        refine br_f (nI_ge (by omega) (by omega)) ?_
        refine br_t (rfl) ?_
        show X 61 [some (vR 12 0), some (vR 72 1), some (vI (nI j)), some (vI (nI O)), some (vI (nI (O + n))), some (vI 0), some (vI (nI O))] [] mm
        exact fail hc _
      have test : ∀ L5 L6, X 23 [some (vR 12 0), some (vR 72 1), some (vI (nI j)), some (vI (nI O)), some (vI (nI (O + n))), L5, L6] [] mm := by
        intro L5 L6
        have ed : nI (O + n) - nI O = nI n := by rw [nI_sb (by omega)]; congr 1; omega
        have es : nI e - nI s = nI (e - s) := nI_sb hse
        have eq : nI n = nI (e - s) ↔ n = e - s := nI_eq (by omega) (by omega)
        show X 23 [some (vR 12 0), some (vR 72 1), some (vI (nI j)), some (vI (nI O)), some (vI (nI (O + n))), L5, L6] [] mm
        refine h (fun i => Nat.beq i 38) 3000 23 _ _ _ ?_
        refine brn_c (fun b31 => ?_) (fun b31 => ?_)
        · -- 31: (nI (O + n)) - (nI O) = (mm.1 12 0 14) - (mm.1 12 0 13) taken
          replace b31 : ¬ ((nI (O + n)) - (nI O) = (mm.1 12 0 14) - (mm.1 12 0 13)) := b31
          (try simp only [hs, he, ed, es, eq] at b31)
          show X 38 [some (vR 12 0), some (vR 72 1), some (vI (nI j)), some (vI (nI O)), some (vI (nI (O + n))), some (vI 0), some (vI (nI O))] [] mm
          (try simp only [hs, he, ed, es, eq])
          exact bad0 b31
        · -- 31: (nI (O + n)) - (nI O) = (mm.1 12 0 14) - (mm.1 12 0 13) on
          replace b31 : (nI (O + n)) - (nI O) = (mm.1 12 0 14) - (mm.1 12 0 13) := b31
          (try simp only [hs, he, ed, es, eq] at b31)
          show X 38 [some (vR 12 0), some (vR 72 1), some (vI (nI j)), some (vI (nI O)), some (vI (nI (O + n))), some (vI 1), some (vI (nI O))] [] mm
          (try simp only [hs, he, ed, es, eq])
          exact cmp b31 0 (by omega) (fun t ht => by omega)
      have scan : ∀ i, i ≤ n → ∀ L5 L6, X 16 [some (vR 12 0), some (vR 72 1), some (vI (nI j)), some (vI (nI O)), some (vI (nI (O + i))), L5, L6] [] mm := by
        refine up_ind n ?_ (fun i hi ihi => ?_)
        · intro L5 L6
          have ei : (nI (O + n)).toNatClampNeg = O + n := nI_clamp (by omega)
          show X 16 [some (vR 12 0), some (vR 72 1), some (vI (nI j)), some (vI (nI O)), some (vI (nI (O + n))), L5, L6] [] mm
          refine h (fun i => Nat.beq i 23) 3000 16 _ _ _ ?_
          refine And.intro (show Pre_J0_charAt_5068e mm [vR 72 1, vI (nI (O + n))] from ⟨1, O + n, by decide, show O + n < 154 by omega, rfl⟩) ?_
          refine br_t (by rw [ei]; exact k4) ?_
          show X 23 [some (vR 12 0), some (vR 72 1), some (vI (nI j)), some (vI (nI O)), some (vI (nI (O + n))), L5, L6] [] mm
          exact test _ _
        · intro L5 L6
          have ei : (nI (O + i)).toNatClampNeg = O + i := nI_clamp (by omega)
          show X 16 [some (vR 12 0), some (vR 72 1), some (vI (nI j)), some (vI (nI O)), some (vI (nI (O + i))), L5, L6] [] mm
          refine h (fun i => Nat.beq i 16) 3000 16 _ _ _ ?_
          refine And.intro (show Pre_J0_charAt_5068e mm [vR 72 1, vI (nI (O + i))] from ⟨1, O + i, by decide, show O + i < 154 by omega, rfl⟩) ?_
          refine br_f (by rw [ei, (k5 i hi).1, show (32 : Int32) = nI 32 from rfl, nI_eq (by have := (k5 i hi).2.2; omega) (by omega)]; have := (k5 i hi).2.1; omega) ?_
          show X 16 [some (vR 12 0), some (vR 72 1), some (vI (nI j)), some (vI (nI O)), some (vI ((nI (O + i)) + 1)), L5, L6] [] mm
          rw [nI_1]
          exact ihi _ _
      show X 10 [some (vR 12 0), some (vR 72 1), some (vI (nI j)), some (vI (nI O)), L4, L5, L6] [] mm
      refine h (fun i => Nat.beq i 16) 3000 10 _ _ _ ?_
      refine And.intro (show Pre_J0_length_8abf5 mm [vR 72 1] from ⟨1, by decide, rfl⟩) ?_
      refine br_f (by show ¬ nI (slen 1) ≤ nI O; rw [show slen 1 = 154 from rfl, nI_leI (by omega) (by omega)]; omega) ?_
      show X 16 [some (vR 12 0), some (vR 72 1), some (vI (nI j)), some (vI (nI O)), some (vI (nI O)), L5, L6] [] mm
      exact scan 0 (by omega) _ _
  show X 0 [some (vR 12 0), some (vR 72 1), none, none, none, none, none] [] mm
  refine h (fun i => Nat.beq i 10) 3000 0 _ _ _ ?_
  refine br_c (fun b3 => ?_) (fun b3 => ?_)
  · -- 3: mm.1 12 0 12 = 2 taken
    replace b3 : mm.1 12 0 12 = 2 := b3
    show X 10 [some (vR 12 0), some (vR 72 1), some (vI 0), some (vI 1), none, none, none] [] mm
    exact loop b3 0 (by omega) hR.symm _ _ _
  · -- 3: mm.1 12 0 12 = 2 on
    replace b3 : ¬ (mm.1 12 0 12 = 2) := b3
    show ((some (vI (-1)) : Option MV), mm) = _
    rw [if_neg b3]
theorem con_X12_inWords (l : Launch) : CON l y_X12_inWords prog_14_method_27_code 7 (some .int) rm_X12_inWords Pre_X12_inWords Fn_X12_inWords := CON_of (by decide) rfl rfl (sa_X12_inWords l) vc_X12_inWords
