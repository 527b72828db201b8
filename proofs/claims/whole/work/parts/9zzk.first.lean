/-! PART 9ZZK: the first memory; the rest of three constructors -/

noncomputable section
/-- the own words of a text, out of the signs of a String: word after word, a blank ends each -/
def owR : List Int32 → Nat → (Nat → Int64) → (Nat → Int64)
  | [], _, O => O
  | x :: r, w, O => if w < 30 then (if x = 32 then owR r (w + 1) O else owR r w (vp_updL O w (O w * 27 + (x - 97 + 1).toInt64))) else O
theorem owR_n (O : Nat → Int64) (w : Nat) : owR [] w O = O := rfl
theorem owR_e (x : Int32) (r : List Int32) (O : Nat → Int64) (w : Nat) (h : ¬ w < 30) : owR (x :: r) w O = O := if_neg h
theorem owR_b (x : Int32) (r : List Int32) (O : Nat → Int64) (w : Nat) (h : w < 30) (hx : x = 32) : owR (x :: r) w O = owR r (w + 1) O := (if_pos h).trans (if_pos hx)
theorem owR_l (x : Int32) (r : List Int32) (O : Nat → Int64) (w : Nat) (h : w < 30) (hx : ¬ x = 32) : owR (x :: r) w O = owR r w (vp_updL O w (O w * 27 + (x - 97 + 1).toInt64)) := (if_pos h).trans (if_neg hx)
theorem KB0_len : (KB KT0).length = 153 := by decide +kernel
theorem KB0_drop {i : Nat} (h : i < 153) : (KB KT0).drop i = sbyt 0 i :: (KB KT0).drop (i + 1) := by
  have hl : i < (KB KT0).length := by rw [KB0_len]; exact h
  rw [List.drop_eq_getElem_cons hl]
  have e : (KB KT0)[i] = sbyt 0 i := by
    unfold sbyt
    rw [List.getD_cons_zero, List.getD_eq_getElem?_getD, List.getElem?_eq_getElem hl]
    exact rfl
  rw [e]

def Pre_X4_own : PreT := fun _ as => as = [vR 4 0]
def Fn_X4_own : FnT := fun m _ => (none, mRowL m 27 0 (owR (KB KT0) 0 (m.2.1 27 0)))
abbrev y_X4_own : MethodName := ⟨"GivenUp$Text", "<own>", "()V"⟩
def P_X4_own : List StpT := [s_ic (0), s_istore 1, s_ic (0), s_istore 2, s_iload 2, s_ldS 0, s_callT 0 Pre_J0_length_8abf5 Fn_J0_length_8abf5, s_icge 39, s_iload 1, s_ic (30), s_icge 39, s_ldS 0, s_iload 2, s_callT 1 Pre_J0_charAt_5068e Fn_J0_charAt_5068e, s_istore 3, s_iload 3, s_ic (32), s_icne 20, s_iinc 1 (1), s_goto 37, s_aload 0, s_getR 4 1 27, s_iload 1, s_aload 0, s_getR 4 1 27, s_iload 1, s_lald, s_lc (27), s_lmul, s_iload 3, s_ic (97), s_isub, s_ic (1), s_iadd, s_i2l, s_ladd, s_last, s_iinc 2 (1), s_goto 4, s_vret]
def pc_X4_own : Nat → Nat := fun i => [67, 68, 69, 70, 71, 72, 74, 77, 80, 81, 83, 86, 88, 89, 92, 93, 94, 96, 99, 102, 105, 106, 109, 110, 111, 114, 115, 116, 119, 120, 121, 123, 124, 125, 126, 127, 128, 129, 132, 135].getD i 0
def dl_X4_own : List (Nat × Instr × Nat) := [(67, .iconst 0, 1), (68, .istore_n 1, 1), (69, .iconst 0, 1), (70, .istore_n 2, 1), (71, .iload_n 2, 1), (72, .ldc 48, 2), (74, .invokevirtual 50, 3), (77, .if_icmp .ge 58, 3), (80, .iload_n 1, 1), (81, .bipush 30, 2), (83, .if_icmp .ge 52, 3), (86, .ldc 48, 2), (88, .iload_n 2, 1), (89, .invokevirtual 56, 3), (92, .istore_n 3, 1), (93, .iload_n 3, 1), (94, .bipush 32, 2), (96, .if_icmp .ne 9, 3), (99, .iinc 1 1, 3), (102, .goto 27, 3), (105, .aload_n 0, 1), (106, .getfield 15, 3), (109, .iload_n 1, 1), (110, .aload_n 0, 1), (111, .getfield 15, 3), (114, .iload_n 1, 1), (115, .laload, 1), (116, .ldc2_w 60, 3), (119, .lmul, 1), (120, .iload_n 3, 1), (121, .bipush 97, 2), (123, .isub, 1), (124, .iconst 1, 1), (125, .iadd, 1), (126, .i2l, 1), (127, .ladd, 1), (128, .lastore, 1), (129, .iinc 2 1, 3), (132, .goto (-61), 3), (135, .return_, 1)]
theorem dc_X4_own : DEC prog_6_method_1_code pc_X4_own dl_X4_own := DEC_of (by decide +kernel)
set_option maxRecDepth 8000 in
theorem vc_X4_own : VC P_X4_own 4 Pre_X4_own Fn_X4_own := by
  rintro mm as hom hoa rfl
  refine ⟨Nat.le_of_ble_eq_true rfl, fun X h => ?_⟩
  replace h : RUN P_X4_own (fun r m' => (r, m') = (none, mRowL mm 27 0 (owR (KB KT0) 0 (mm.2.1 27 0)))) X := h
  generalize hF : owR (KB KT0) 0 (mm.2.1 27 0) = F at h
  have loop : ∀ (n i w : Nat) (O : Nat → Int64) (u : Option MV), i + n = 153 → w ≤ 30 → owR ((KB KT0).drop i) w O = F → (∀ z, u = some z → cat z = 1) → X 4 [some (vR 4 0), some (vI (nI w)), some (vI (nI i)), u] [] (mRowL mm 27 0 O) := by
    intro n
    induction n with
    | zero =>
      intro i w O u hi hw hO hu
      have ei : i = 153 := by omega
      subst ei
      rw [List.drop_eq_nil_of_le (by rw [KB0_len]; exact Nat.le_refl _), owR_n] at hO
      subst hO
      show X 4 [some (vR 4 0), some (vI (nI w)), some (vI (nI 153)), u] [] (mRowL mm 27 0 O)
      refine h (fun _ => false) 3000 4 _ _ _ ?_
      refine And.intro (show Pre_J0_length_8abf5 (mRowL mm 27 0 O) [vR 72 0] from ⟨0, by decide, rfl⟩) ?_
      refine br_t (show nI (slen 0) ≤ nI 153 from show nI (slen 0) ≤ nI 153 from Int32.le_refl _) ?_
      show ((none : Option MV), mRowL mm 27 0 O) = _
      exact rfl
    | succ n ih =>
      intro i w O u hi hw hO hu
      have hi2 : i < 153 := by omega
      have ei : (nI i).toNatClampNeg = i := nI_clamp (by omega)
      have ew : (nI w).toNatClampNeg = w := nI_clamp (by omega)
      rw [KB0_drop hi2] at hO
      have f7 : ¬ nI (slen 0) ≤ nI i := show ¬ nI 153 ≤ nI i from nI_ge hi2 (by omega)
      have p13 : Pre_J0_charAt_5068e (mRowL mm 27 0 O) [vR 72 0, vI (nI i)] := ⟨0, i, by decide, hi2, rfl⟩
      by_cases hw2 : w < 30
      · by_cases hx : sbyt 0 i = 32
        · rw [owR_b _ _ _ _ hw2 hx] at hO
          have l1 := ih (i + 1) (w + 1) O (some (vI (sbyt 0 i))) (by omega) (by omega) hO (fun z hz => by cases hz; rfl)
          show X 4 [some (vR 4 0), some (vI (nI w)), some (vI (nI i)), u] [] (mRowL mm 27 0 O)
          refine h (fun i => Nat.beq i 4) 3000 4 _ _ _ ?_
          refine And.intro (show Pre_J0_length_8abf5 (mRowL mm 27 0 O) [vR 72 0] from ⟨0, by decide, rfl⟩) ?_
          refine br_f (show ¬ (nI (slen 0) ≤ nI i) from f7) ?_
          refine br_f (show ¬ (30 ≤ nI w) from show ¬ nI 30 ≤ nI w from nI_ge hw2 (by omega)) ?_
          refine And.intro (show Pre_J0_charAt_5068e (mRowL mm 27 0 O) [vR 72 0, vI (nI i)] from p13) ?_
          refine brn_f (show sbyt 0 (nI i).toNatClampNeg = 32 from by rw [ei]; exact hx) ?_
          show X 4 [some (vR 4 0), some (vI ((nI w) + 1)), some (vI ((nI i) + 1)), some (vI (sbyt 0 (nI i).toNatClampNeg))] [] (mRowL mm 27 0 O)
          rw [ei, nI_1, nI_1]
          exact l1
        · rw [owR_l _ _ _ _ hw2 hx] at hO
          have l1 := ih (i + 1) w (vp_updL O w (O w * 27 + (sbyt 0 i - 97 + 1).toInt64)) (some (vI (sbyt 0 i))) (by omega) hw hO (fun z hz => by cases hz; rfl)
          show X 4 [some (vR 4 0), some (vI (nI w)), some (vI (nI i)), u] [] (mRowL mm 27 0 O)
          refine h (fun i => Nat.beq i 4) 3000 4 _ _ _ ?_
          refine And.intro (show Pre_J0_length_8abf5 (mRowL mm 27 0 O) [vR 72 0] from ⟨0, by decide, rfl⟩) ?_
          refine br_f (show ¬ (nI (slen 0) ≤ nI i) from f7) ?_
          refine br_f (show ¬ (30 ≤ nI w) from show ¬ nI 30 ≤ nI w from nI_ge hw2 (by omega)) ?_
          refine And.intro (show Pre_J0_charAt_5068e (mRowL mm 27 0 O) [vR 72 0, vI (nI i)] from p13) ?_
          refine brn_t (show ¬ (sbyt 0 (nI i).toNatClampNeg = 32) from by rw [ei]; exact hx) ?_
          refine And.intro (show inb (nI w) (alen 27) = true from (inb_o 30 rfl rfl rfl (by omega))) ?_
          refine And.intro (show inb (nI w) (alen 27) = true from (inb_o 30 rfl rfl rfl (by omega))) ?_
          show X 4 [some (vR 4 0), some (vI (nI w)), some (vI ((nI i) + 1)), some (vI (sbyt 0 (nI i).toNatClampNeg))] [] (mRowL (mRowL mm 27 0 O) 27 0 (vp_updL (O) (nI w).toNatClampNeg (((O ((nI w).toNatClampNeg)) * 27) + ((((sbyt 0 (nI i).toNatClampNeg) - 97) + 1).toInt64))))
          rw [ei, ew, mRowL2, nI_1]
          exact l1
      · have e30 : w = 30 := by omega
        subst e30
        rw [owR_e _ _ _ _ hw2] at hO
        subst hO
        show X 4 [some (vR 4 0), some (vI (nI 30)), some (vI (nI i)), u] [] (mRowL mm 27 0 O)
        refine h (fun _ => false) 3000 4 _ _ _ ?_
        refine And.intro (show Pre_J0_length_8abf5 (mRowL mm 27 0 O) [vR 72 0] from ⟨0, by decide, rfl⟩) ?_
        refine br_f (show ¬ (nI (slen 0) ≤ nI i) from f7) ?_
        refine br_t (show 30 ≤ nI 30 from Int32.le_refl _) ?_
        show ((none : Option MV), mRowL mm 27 0 O) = _
        exact rfl
  have l0 := loop 153 0 0 (mm.2.1 27 0) none (by omega) (by omega) hF (fun z hz => by cases hz)
  have e0 : mRowL mm 27 0 (mm.2.1 27 0) = mm := mRowL_self _ _ _
  rw [e0] at l0
  show X 0 [some (vR 4 0), none, none, none] [] mm
  refine h (fun i => Nat.beq i 4) 3000 0 _ _ _ ?_
  show X 4 [some (vR 4 0), some (vI 0), some (vI 0), none] [] mm
  exact l0
def Pre_X6_end : PreT := fun _ as => as = [vR 6 0]
def Fn_X6_end : FnT := fun m _ => (none, vlM3 m 0)
abbrev y_X6_end : MethodName := ⟨"GivenUp$Valley", "<end>", "()V"⟩
def P_X6_end : List StpT := [s_aload 0, s_callV 6 0 Pre_X6_clear Fn_X6_clear, s_vret]
def pc_X6_end : Nat → Nat := fun i => [145, 146, 149].getD i 0
def dl_X6_end : List (Nat × Instr × Nat) := [(145, .aload_n 0, 1), (146, .invokevirtual 82, 3), (149, .return_, 1)]
theorem dc_X6_end : DEC prog_8_method_1_code pc_X6_end dl_X6_end := DEC_of (by decide +kernel)
set_option maxRecDepth 8000 in
theorem vc_X6_end : VC P_X6_end 1 Pre_X6_end Fn_X6_end := by
  rintro mm as hom hoa rfl
  refine ⟨Nat.le_of_ble_eq_true rfl, fun X h => ?_⟩
  replace h : RUN P_X6_end (fun r m' => (r, m') = (none, vlM3 mm 0)) X := h
  show X 0 [some (vR 6 0)] [] mm
  refine h (fun _ => false) 3000 0 _ _ _ ?_
  refine And.intro (show Pre_X6_clear mm [vR 6 0] from ⟨_, rfl⟩) ?_
  show ((none : Option MV), vlM3 mm 0) = _
  exact rfl
def Pre_X12_end : PreT := fun _ as => as = [vR 12 0]
def Fn_X12_end : FnT := fun m _ => (none, mRow m 54 0 (plR (m.1 54 0) 0))
abbrev y_X12_end : MethodName := ⟨"GivenUpModel", "<end>", "()V"⟩
def P_X12_end : List StpT := [s_aload 0, s_ic (0), s_callV 12 1 Pre_X12_plain Fn_X12_plain, s_vret]
def pc_X12_end : Nat → Nat := fun i => [176, 177, 178, 181].getD i 0
def dl_X12_end : List (Nat × Instr × Nat) := [(176, .aload_n 0, 1), (177, .iconst 0, 1), (178, .invokevirtual 77, 3), (181, .return_, 1)]
theorem dc_X12_end : DEC prog_14_method_1_code pc_X12_end dl_X12_end := DEC_of (by decide +kernel)
set_option maxRecDepth 8000 in
theorem vc_X12_end : VC P_X12_end 1 Pre_X12_end Fn_X12_end := by
  rintro mm as hom hoa rfl
  refine ⟨Nat.le_of_ble_eq_true rfl, fun X h => ?_⟩
  replace h : RUN P_X12_end (fun r m' => (r, m') = (none, mRow mm 54 0 (plR (mm.1 54 0) 0))) X := h
  show X 0 [some (vR 12 0)] [] mm
  refine h (fun _ => false) 3000 0 _ _ _ ?_
  refine And.intro (show Pre_X12_plain mm [vR 12 0, vI 0] from ⟨0, by decide, rfl⟩) ?_
  show ((none : Option MV), mRow mm 54 0 (plR (mm.1 54 0) 0)) = _
  exact rfl
/-- the fields as constructors leave them, all arrays at 0 -/
def m0 : MM := (fun k _ j => bif Nat.beq k 0 then (bif Nat.beq j 4 then -1 else bif Nat.beq j 5 then -1 else 0) else bif Nat.beq k 3 then (bif Nat.beq j 13 then -1 else 0) else bif Nat.beq k 4 then (bif Nat.beq j 6 then 37 else 0) else bif Nat.beq k 11 then (bif Nat.beq j 18 then -1 else bif Nat.beq j 19 then -1 else 0) else bif Nat.beq k 12 then (bif Nat.beq j 16 then -1 else bif Nat.beq j 17 then -1 else 0) else bif Nat.beq k 57 then upd (upd (upd (upd (fun _ => 0) (0 : Int32).toNatClampNeg (-1)) (1 : Int32).toNatClampNeg (-1)) (2 : Int32).toNatClampNeg (-1)) (3 : Int32).toNatClampNeg (-1) j else 0, (fun k _ j => bif Nat.beq k 11 then (bif Nat.beq j 17 then 1 else 0) else bif Nat.beq k 12 then (bif Nat.beq j 4 then 1 else 0) else 0, fun d => d))
theorem m0_ok : okm m0 := ⟨by decide, by decide⟩
def mV : MM := vlM3 m0 0
def mT : MM := mRowL m0 27 0 (owR (KB KT0) 0 (m0.2.1 27 0))
def mM : MM := mRow m0 54 0 (plR (m0.1 54 0) 0)
def kVx (k : Nat) : Bool := Nat.beq k 1 || Nat.beq k 6 || Nat.beq k 9 || (Nat.ble 16 k && Nat.ble k 19) || (Nat.ble 29 k && Nat.ble k 39) || (Nat.ble 43 k && Nat.ble k 48)
def kTx (k : Nat) : Bool := Nat.beq k 4 || Nat.beq k 26 || Nat.beq k 27
def kMx (k : Nat) : Bool := Nat.beq k 12 || (Nat.ble 54 k && Nat.ble k 71)
/-- the first memory of all -/
def mF : MM := (fun k g => bif kVx k then mV.1 k 0 else bif kTx k then mT.1 k 0 else bif kMx k then mM.1 k 0 else m0.1 k g, (fun k g => bif kVx k then mV.2.1 k 0 else bif kTx k then mT.2.1 k 0 else m0.2.1 k g, m0.2.2))
def CX0 : List (Nat × Nat) := [(0, 0), (13, 0), (14, 0), (15, 0)]
def CX1 : List (Nat × Nat) := [(1, 0), (16, 0), (17, 0), (18, 0), (19, 0)]
def CX2 : List (Nat × Nat) := [(2, 0), (20, 0), (21, 0)]
def CX3 : List (Nat × Nat) := [(3, 0), (22, 0), (23, 0), (24, 0), (25, 0)]
def CX4 : List (Nat × Nat) := [(4, 0), (26, 0), (27, 0)]
def CX5 : List (Nat × Nat) := [(5, 0), (28, 0)]
def CX6 : List (Nat × Nat) := [(6, 0), (29, 0), (30, 0), (31, 0), (32, 0), (33, 0), (34, 0), (35, 0), (36, 0), (37, 0), (38, 0), (39, 0), (1, 0), (16, 0), (17, 0), (18, 0), (19, 0), (9, 0), (43, 0), (44, 0), (45, 0), (46, 0), (47, 0), (48, 0)]
def CX7 : List (Nat × Nat) := [(7, 0)]
def CX8 : List (Nat × Nat) := [(8, 0), (40, 0), (41, 0), (42, 0)]
def CX9 : List (Nat × Nat) := [(9, 0), (43, 0), (44, 0), (45, 0), (46, 0), (47, 0), (48, 0)]
def CX10 : List (Nat × Nat) := [(10, 0), (49, 0)]
def CX12 : List (Nat × Nat) := [(12, 0), (54, 0), (55, 0), (56, 0), (57, 0), (58, 0), (59, 0), (60, 0), (61, 0), (62, 0), (63, 0), (64, 0), (65, 0), (66, 0), (67, 0), (68, 0), (69, 0), (70, 0), (71, 0)]
theorem CHY_X4 : CHY CX4 := ⟨by decide +kernel, by decide +kernel, by decide +kernel⟩
theorem CHY_X6 : CHY CX6 := ⟨by decide +kernel, by decide +kernel, by decide +kernel⟩
theorem CHY_X12 : CHY CX12 := ⟨by decide +kernel, by decide +kernel, by decide +kernel⟩
/-- a part of the world, under other addresses, numbers and memories -/
def chkC (C K3 : List (Nat × Nat)) : Bool := C.all fun q => Nat.beq q.2 0 && (Nat.ble (sh q.1).1 3 && (!(Nat.beq (sh q.1).1 0) || (List.range (nf q.1)).all fun j => Nat.ble (ft q.1 j).1 1 || ((Nat.beq (ft q.1 j).1 2 && C.contains ((ft q.1 j).2.1, 0)) || (Nat.beq (ft q.1 j).1 3 && K3.contains (ft q.1 j).2))))
def gC (C : List (Nat × Nat)) (g : Nat) : List (Nat × Nat) := C.map fun q => (q.1, g)
theorem WSC_re {C : List (Nat × Nat)} {dA : Nat → ClassId} {ad ad' : Nat → Nat → Nat} {mm mm' : MM} (g : Nat) (K3 : List (Nat × Nat)) (hc : chkC C K3 = true) (hA : ∀ q ∈ C, ad' q.1 g = ad q.1 0) (h3 : ∀ q ∈ K3, ad' q.1 q.2 = ad q.1 q.2) (h1 : ∀ q ∈ C, mm'.1 q.1 g = mm.1 q.1 0) (h2 : ∀ q ∈ C, mm'.2.1 q.1 g = mm.2.1 q.1 0) : WSC (gC C g) dA ad' mm' = WSC C dA ad mm := by
  unfold WSC gC
  rw [List.map_map]
  refine List.map_congr_left (fun q hq => ?_)
  have hall := List.all_eq_true.mp hc q hq
  have a1 := hA q hq
  have a2 := h1 q hq
  have a3 := h2 q hq
  obtain ⟨k, z⟩ := q
  obtain ⟨e0, hall⟩ := Bool.and_eq_true_iff.mp hall
  obtain ⟨hs, hf⟩ := Bool.and_eq_true_iff.mp hall
  have e0 : z = 0 := Nat.eq_of_beq_eq_true e0
  have hs : (sh k).1 ≤ 3 := Nat.le_of_ble_eq_true hs
  subst e0
  have a1 : ad' k g = ad k 0 := a1
  have a2 : mm'.1 k g = mm.1 k 0 := a2
  have a3 : mm'.2.1 k g = mm.2.1 k 0 := a3
  show (ad' k g, cE dA ad' mm' (k, g)) = (ad k 0, cE dA ad mm (k, 0))
  rw [a1]
  refine congrArg (fun x => (ad k 0, x)) ?_
  rcases (show (sh k).1 = 0 ∨ (sh k).1 = 1 ∨ (sh k).1 = 2 ∨ (sh k).1 = 3 by omega) with hso | hso | hso | hso
  · rw [cE_obj hso, cE_obj hso]
    refine congrArg (fun x => (Sum.inr (alen k, x) : va_E)) (List.map_congr_left (fun j hj => ?_))
    have hb : Nat.beq (sh k).1 0 = true := by rw [hso]; rfl
    have hf : (!(Nat.beq (sh k).1 0) || (List.range (nf k)).all fun j => Nat.ble (ft k j).1 1 || ((Nat.beq (ft k j).1 2 && C.contains ((ft k j).2.1, 0)) || (Nat.beq (ft k j).1 3 && K3.contains (ft k j).2))) = true := hf
    rw [hb] at hf
    simp only [Bool.not_true, Bool.false_or] at hf
    have hf := List.all_eq_true.mp hf j hj
    obtain ⟨x, t, b, hx⟩ : ∃ x t b, ft k j = (x, t, b) := ⟨_, _, _, rfl⟩
    rw [hx] at hf
    rcases Bool.or_eq_true_iff.mp hf with y | y
    · have y : x ≤ 1 := Nat.le_of_ble_eq_true y
      rcases (show x = 0 ∨ x = 1 by omega) with rfl | rfl
      · rw [fv_int hx, fv_int hx, a2]
      · rw [fv_long hx, fv_long hx, a3]
    · rcases Bool.or_eq_true_iff.mp y with y | y
      · obtain ⟨y1, y2⟩ := Bool.and_eq_true_iff.mp y
        have y1 : x = 2 := Nat.eq_of_beq_eq_true y1
        subst y1
        rw [fv_same hx, fv_same hx]
        have y2 : (t, 0) ∈ C := by simpa using y2
        have := hA _ y2
        have this : ad' t g = ad t 0 := this
        rw [this]
      · obtain ⟨y1, y2⟩ := Bool.and_eq_true_iff.mp y
        have y1 : x = 3 := Nat.eq_of_beq_eq_true y1
        subst y1
        rw [fv_const hx, fv_const hx]
        have y2 : (t, b) ∈ K3 := by simpa using y2
        have := h3 _ y2
        have this : ad' t b = ad t b := this
        rw [this]
  · rw [cE_int hso, cE_int hso, a2]
  · rw [cE_long hso, cE_long hso, a3]
  · rw [cE_byte hso, cE_byte hso, a2]
theorem WSC_hd {C C' : List (Nat × Nat)} {dA : Nat → ClassId} {ad : Nat → Nat → Nat} {mm : MM} {k g : Nat} (h : C = (k, g) :: C') (hs : (sh k).1 = 0) : (ad k g, (.inr (alen k, (List.range (nf k)).map (fv ad mm k g)) : va_E)) ∈ WSC C dA ad mm := by
  subst h
  rw [← cE_obj (dA := dA) hs]
  exact List.mem_cons_self
theorem WSC_0 {dA : Nat → ClassId} {ad : Nat → Nat → Nat} {mm : MM} : WSC [] dA ad mm = [] := rfl
theorem WSC_1 {dA : Nat → ClassId} {ad : Nat → Nat → Nat} {mm : MM} (q : Nat × Nat) : WSC [q] dA ad mm = [(ad q.1 q.2, cE dA ad mm q)] := rfl
theorem WSC_c {dA : Nat → ClassId} {ad : Nat → Nat → Nat} {mm : MM} (q : Nat × Nat) (C : List (Nat × Nat)) : WSC (q :: C) dA ad mm = (ad q.1 q.2, cE dA ad mm q) :: WSC C dA ad mm := rfl
theorem WSC_a {dA : Nat → ClassId} {ad : Nat → Nat → Nat} {mm : MM} (C C' : List (Nat × Nat)) : WSC (C ++ C') dA ad mm = WSC C dA ad mm ++ WSC C' dA ad mm := List.map_append
theorem arrV_cg {cI : ClassId} {N : Nat} {f f' : Nat → Value} (h : ∀ j, j < N → f j = f' j) : arrV cI N f = arrV cI N f' := by
  have e : (Array.ofFn (n := N) fun j => f j.val) = Array.ofFn (n := N) fun j => f' j.val := congrArg _ (funext fun j => h j.val j.isLt)
  unfold arrV
  rw [e]
theorem va_P_row {D : va_G} {cl : List vw_C} {w : va_W} {i a : Nat} {cA : ClassId} {x x' : vp_A} {H : Heap} (hP : va_P D cl w H) (hi : w[i]? = some (a, .inl (cA, x))) (hx : vp_cell cA x = vp_cell cA x') : va_P D cl (w.set i (a, .inl (cA, x'))) H := by
  have hl := (List.getElem?_eq_some_iff.mp hi).1
  intro k q hk
  by_cases h : k = i
  · subst h
    rw [List.getElem?_set_self hl] at hk
    cases hk
    show H[a]? = some (vp_cell cA x')
    rw [← hx]
    exact hP k _ hi
  · rw [List.getElem?_set_ne (Ne.symm h)] at hk
    exact hP k q hk
section GX2
variable {p : Program} {l : Launch} {e : Env} {R : Room} {s : State} {m : MethodId} {args : Array Value} {below : List Frame} {meth : Method} {c : Code} {Q : State → Prop} {nL : Nat} {D : va_G} {A : Nat → Prop}
theorem g_eqw {cells slots : Nat} {w w' : va_W} {lv : List (Nat × Value)} {pc : Nat} {st : List Value} (h : w = w') (kk : GW p l e R s m args below meth c Q nL D A cells slots w' lv pc st) : GW p l e R s m args below meth c Q nL D A cells slots w lv pc st := by
  rw [h]
  exact kk
theorem g_row {cells slots : Nat} {w : va_W} (w' : va_W) {lv : List (Nat × Value)} {pc i a : Nat} {st : List Value} {cA : ClassId} {x x' : vp_A} (hi : w[i]? = some (a, .inl (cA, x))) (hx : vp_cell cA x = vp_cell cA x') (hw' : w.set i (a, .inl (cA, x')) = w') (kk : GW p l e R s m args below meth c Q nL D A cells slots w' lv pc st) : GW p l e R s m args below meth c Q nL D A cells slots w lv pc st := by
  intro H locs ls hP hD hS hl
  have h1 := va_P_row hP hi hx
  have h2 := hD.set (e := .inl (cA, x')) hi
  rw [hw'] at h1 h2
  exact kk H locs ls h1 h2 hS hl
end GX2

end
