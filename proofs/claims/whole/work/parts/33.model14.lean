/-! PART 33: the model: the village -/

theorem mRow_comm {m : MM} {k g k' g' : Nat} {f f' : Nat → Int32} (h : k ≠ k') : mRow (mRow m k g f) k' g' f' = mRow (mRow m k' g' f') k g f := by
  refine Prod.ext ?_ rfl
  funext q r
  show (if q = k' ∧ r = g' then f' else if q = k ∧ r = g then f else m.1 q r) = (if q = k ∧ r = g then f else if q = k' ∧ r = g' then f' else m.1 q r)
  by_cases h1 : q = k' ∧ r = g'
  · rw [if_pos h1, if_pos h1, if_neg (fun z => h (z.1.symm.trans h1.1))]
  · rw [if_neg h1, if_neg h1]
theorem nIdv {a d : Nat} (ha : a < 2 ^ 31) (h0 : 0 < d) (hd : d < 2 ^ 31) : nI a / nI d = nI (a / d) := pk_div ha h0 hd
theorem nIrm {a d : Nat} (ha : a < 2 ^ 31) (h0 : 0 < d) (hd : d < 2 ^ 31) : nI a - nI a / nI d * nI d = nI (a % d) := by
  have h1 := Nat.div_add_mod a d
  have h2 : d * (a / d) = a / d * d := Nat.mul_comm _ _
  rw [nIdv ha h0 hd, pk_mul]
  have e : nI a = nI (a % d) + nI (a / d * d) := by rw [nI_add]; congr 1; omega
  rw [e]
  exact Int32.add_sub_cancel _ _
/-- the loss of a couple -/
noncomputable def lsV (a : Nat → Int32) (w : Int32) (s k : Nat) : Int32 := if a (15 + 4 * s) = -1 then lyA a s k w else 1000000
noncomputable def lvI (m : MM) (w : Int32) (s : Nat) : Nat → MM
  | 0 => m
  | k + 1 => mRow (mite ((lvI m w s k).1 54 0 (15 + 4 * s) = -1) (lyM (lvI m w s k) s k) (lvI m w s k)) 63 0 (upd ((mite ((lvI m w s k).1 54 0 (15 + 4 * s) = -1) (lyM (lvI m w s k) s k) (lvI m w s k)).1 63 0) (4 * s + k) (lsV (m.1 54 0) w s k))
noncomputable def lvO (m : MM) (w : Int32) (nm : Nat) : Nat → MM
  | 0 => m
  | s + 1 => lvI (lvO m w nm s) w s nm
theorem lyM_ne (m : MM) (i d : Nat) : (lyM m i d).2 = m.2 ∧ ∀ k g, k ≠ 62 → (lyM m i d).1 k g = m.1 k g := by
  unfold lyM mite
  split
  · refine ⟨rfl, fun k g hk => ?_⟩
    show (if k = 62 ∧ g = 0 then _ else m.1 k g) = _
    rw [if_neg (fun z => hk z.1)]
  · exact ⟨rfl, fun _ _ _ => rfl⟩
theorem mite_ly (p : Prop) [Decidable p] (m : MM) (i d : Nat) : (mite p (lyM m i d) m).2 = m.2 ∧ ∀ k g, k ≠ 62 → (mite p (lyM m i d) m).1 k g = m.1 k g := by
  unfold mite
  split
  · exact lyM_ne m i d
  · exact ⟨rfl, fun _ _ _ => rfl⟩
theorem lvI_ne (m : MM) (w : Int32) (s : Nat) : ∀ n, (lvI m w s n).2 = m.2 ∧ (∀ k g, k ≠ 62 → k ≠ 63 → (lvI m w s n).1 k g = m.1 k g) ∧ (∀ j, (∀ k, k < n → j ≠ 4 * s + k) → (lvI m w s n).1 63 0 j = m.1 63 0 j) ∧ (∀ k, k < n → (lvI m w s n).1 63 0 (4 * s + k) = lsV (m.1 54 0) w s k)
  | 0 => ⟨rfl, fun _ _ _ _ => rfl, fun _ _ => rfl, fun _ h => absurd h (by omega)⟩
  | n + 1 => by
    obtain ⟨h1, h2, h3, h4⟩ := lvI_ne m w s n
    obtain ⟨g1, g2⟩ := mite_ly ((lvI m w s n).1 54 0 (15 + 4 * s) = -1) (lvI m w s n) s n
    rw [lvI]
    refine ⟨g1.trans h1, fun k g hk hk' => ?_, fun j hj => ?_, fun k hk => ?_⟩
    · refine Eq.trans (if_neg (fun z => hk' z.1)) ((g2 k g hk).trans (h2 k g hk hk'))
    · refine Eq.trans (upd_ne (hj n (by omega))) ?_
      rw [g2 63 0 (by decide)]
      exact h3 j (fun k hk => hj k (by omega))
    · by_cases hkn : k = n
      · rw [hkn]; exact upd_eq
      · refine Eq.trans (upd_ne (by omega)) ?_
        rw [g2 63 0 (by decide)]
        exact h4 k (by omega)
theorem lvO_ne (m : MM) (w : Int32) (nm : Nat) (hm : nm ≤ 4) : ∀ n, (lvO m w nm n).2 = m.2 ∧ (∀ k g, k ≠ 62 → k ≠ 63 → (lvO m w nm n).1 k g = m.1 k g) ∧ (∀ s k, s < n → k < nm → (lvO m w nm n).1 63 0 (4 * s + k) = lsV (m.1 54 0) w s k)
  | 0 => ⟨rfl, fun _ _ _ _ => rfl, fun _ _ h => absurd h (by omega)⟩
  | n + 1 => by
    obtain ⟨h1, h2, h3⟩ := lvO_ne m w nm hm n
    obtain ⟨g1, g2, g3, g4⟩ := lvI_ne (lvO m w nm n) w n nm
    rw [lvO]
    refine ⟨g1.trans h1, fun k g a b => (g2 k g a b).trans (h2 k g a b), fun s k hs hk => ?_⟩
    by_cases hsn : s = n
    · rw [hsn, g4 k hk, h2 54 0 (by decide) (by decide)]
    · rw [g3 _ (fun k' hk' => by omega)]
      exact h3 s k (by omega) hk
/-- a way: the digit of the j-th from the last -/
abbrev dgt (nm c j : Nat) : Nat := c / (nm + 1) ^ j % (nm + 1)
noncomputable def vwy (L : Nat → Nat → Int32) (ns nm c : Nat) : Nat → Int32 × Int32 × Int32
  | 0 => (0, 0, 0)
  | j + 1 => if dgt nm c j = nm then vwy L ns nm c j else
    ((vwy L ns nm c j).1 ||| 1 <<< (nI (dgt nm c j) &&& 31), (if inS (vwy L ns nm c j).1 (nI (dgt nm c j)) ∨ L (ns - 1 - j) (dgt nm c j) = 1000000 then -9 else (vwy L ns nm c j).2.1) + 1, (vwy L ns nm c j).2.2 + L (ns - 1 - j) (dgt nm c j))
def trR (t0 : Nat → Int32) (ns nm c : Nat) : Nat → (Nat → Int32)
  | 0 => t0
  | j + 1 => upd (trR t0 ns nm c j) (ns - 1 - j) (nI (dgt nm c j))
def cpR (e t : Nat → Int32) : Nat → (Nat → Int32)
  | 0 => e
  | j + 1 => upd (cpR e t j) j (t j)
/-- the best of the first ways: its fields, the rows -/
noncomputable def bsV (L : Nat → Nat → Int32) (ns nm : Nat) (o t e : Nat → Int32) : Nat → (Nat → Int32) × (Nat → Int32) × (Nat → Int32)
  | 0 => (o, t, e)
  | c + 1 => if (vwy L ns nm c ns).2.1 < 0 ∨ (vwy L ns nm c ns).2.1 < (bsV L ns nm o t e c).1 28 ∨ ((vwy L ns nm c ns).2.1 = (bsV L ns nm o t e c).1 28 ∧ ¬ (vwy L ns nm c ns).2.2 < (bsV L ns nm o t e c).1 29) then ((bsV L ns nm o t e c).1, trR (bsV L ns nm o t e c).2.1 ns nm c ns, (bsV L ns nm o t e c).2.2) else
    (upd (upd (bsV L ns nm o t e c).1 28 (vwy L ns nm c ns).2.1) 29 (vwy L ns nm c ns).2.2, trR (bsV L ns nm o t e c).2.1 ns nm c ns, cpR (bsV L ns nm o t e c).2.2 (trR (bsV L ns nm o t e c).2.1 ns nm c ns) ns)
def vlM (N : MM) (q : (Nat → Int32) × (Nat → Int32) × (Nat → Int32)) : MM := mRow (mRow (mRow N 12 0 q.1) 64 0 q.2.1) 65 0 q.2.2
theorem vl_o (N : MM) (o t e f : Nat → Int32) : mRow (vlM N (o, t, e)) 12 0 f = vlM N (f, t, e) := by
  show mRow (mRow (mRow (mRow N 12 0 o) 64 0 t) 65 0 e) 12 0 f = mRow (mRow (mRow N 12 0 f) 64 0 t) 65 0 e
  rw [mRow_comm (by decide), mRow_comm (m := mRow N 12 0 o) (by decide), mRow2]
theorem vl_t (N : MM) (o t e f : Nat → Int32) : mRow (vlM N (o, t, e)) 64 0 f = vlM N (o, f, e) := by
  show mRow (mRow (mRow (mRow N 12 0 o) 64 0 t) 65 0 e) 64 0 f = mRow (mRow (mRow N 12 0 o) 64 0 f) 65 0 e
  rw [mRow_comm (by decide), mRow2]
theorem vl_e (N : MM) (o t e f : Nat → Int32) : mRow (vlM N (o, t, e)) 65 0 f = vlM N (o, t, f) := by
  show mRow (mRow (mRow (mRow N 12 0 o) 64 0 t) 65 0 e) 65 0 f = mRow (mRow (mRow N 12 0 o) 64 0 t) 65 0 f
  rw [mRow2]
theorem vl_self (N : MM) : vlM N (N.1 12 0, N.1 64 0, N.1 65 0) = N := by
  show mRow (mRow (mRow N 12 0 (N.1 12 0)) 64 0 (N.1 64 0)) 65 0 (N.1 65 0) = N
  rw [mRow_self, mRow_self, mRow_self]
/-- the memory once the village is laid -/
noncomputable def lyV (m : MM) (w : Int32) : MM := vlM (lvO m w (m.1 54 0 1).toNatClampNeg (m.1 54 0 0).toNatClampNeg) (bsV (lsV (m.1 54 0) w) (m.1 54 0 0).toNatClampNeg (m.1 54 0 1).toNatClampNeg (upd (m.1 12 0) 28 (-1)) (m.1 64 0) (m.1 65 0) (((m.1 54 0 1).toNatClampNeg + 1) ^ (m.1 54 0 0).toNatClampNeg))
/-- going down from the last -/
def dnI (ns j : Nat) : Int32 := if j < ns then nI (ns - 1 - j) else -1
theorem dnI_0 (ns : Nat) : nI ns - 1 = dnI ns 0 := by
  unfold dnI
  split
  · have : nI ns = nI (ns - 1) + 1 := by rw [nI_1]; congr 1; omega
    rw [this, Int32.add_sub_cancel]; rfl
  · have : ns = 0 := by omega
    subst this; decide
theorem dnI_s {ns j : Nat} (h : j < ns) : dnI ns j + (-1) = dnI ns (j + 1) := by
  unfold dnI
  rw [if_pos h]
  split
  · have : nI (ns - 1 - j) = nI (ns - 1 - (j + 1)) + 1 := by rw [nI_1]; congr 1; omega
    rw [this, Int32.add_assoc]
    exact Int32.add_zero _
  · have : ns - 1 - j = 0 := by omega
    rw [this]; decide
theorem dnI_in {ns j : Nat} (h : j < ns) : dnI ns j = nI (ns - 1 - j) := if_pos h
theorem dnI_n (ns : Nat) : dnI ns ns < 0 := by
  unfold dnI
  rw [if_neg (by omega)]; decide
theorem pw_le {nm : Nat} (h : nm ≤ 4) : ∀ {j : Nat}, j ≤ 4 → (nm + 1) ^ j ≤ 625 := by
  intro j hj
  calc (nm + 1) ^ j ≤ 5 ^ j := Nat.pow_le_pow_left (by omega) j
    _ ≤ 5 ^ 4 := Nat.pow_le_pow_right (by omega) hj
    _ = 625 := by decide

--tpl ⟨hM, hH, _, rfl⟩ ||  || lyV {m} {1}
def Pre_X12_laysVillage : PreT := fun m as => VM m ∧ HSo (m.1 54 0) ∧ ∃ w : Int32, as = [vR 12 0, vI w]
noncomputable def Fn_X12_laysVillage : FnT := fun m as => match as with
  | [_, Sum.inl w] => (none, lyV m w)
  | _ => (none, m)
abbrev y_X12_laysVillage : MethodName := ⟨"GivenUpModel", "laysVillage", "(I)V"⟩
def P_X12_laysVillage : List StpT := [s_aload 0, s_getR 12 0 54, s_ic (0), s_iald, s_istore 2, s_aload 0, s_getR 12 0 54, s_ic (1), s_iald, s_istore 3, s_ic (0), s_istore 4, s_iload 4, s_iload 2, s_icge 43, s_ic (0), s_istore 5, s_iload 5, s_iload 3, s_icge 41, s_aload 0, s_getR 12 25 63, s_ic (4), s_iload 4, s_imul, s_iload 5, s_iadd, s_aload 0, s_iload 4, s_callV 12 1 Pre_X12_hasWed Fn_X12_hasWed, s_ifeq 33, s_ic (1000000), s_goto 38, s_aload 0, s_iload 4, s_iload 5, s_iload 1, s_callV 12 3 Pre_X12_lossBy Fn_X12_lossBy, s_iast, s_iinc 5 (1), s_goto 17, s_iinc 4 (1), s_goto 12, s_aload 0, s_ic (-1), s_putI 12 28, s_ic (1), s_istore 4, s_ic (0), s_istore 5, s_iload 5, s_iload 2, s_icge 61, s_iload 4, s_iload 3, s_ic (1), s_iadd, s_imul, s_istore 4, s_iinc 5 (1), s_goto 50, s_ic (0), s_istore 5, s_iload 5, s_iload 4, s_icge 189, s_iload 5, s_istore 6, s_ic (0), s_istore 7, s_ic (0), s_istore 8, s_ic (0), s_istore 9, s_iload 2, s_ic (1), s_isub, s_istore 10, s_iload 10, s_iflt 151, s_aload 0, s_getR 12 26 64, s_iload 10, s_iload 6, s_iload 3, s_ic (1), s_iadd, s_irem, s_iast, s_iload 6, s_iload 3, s_ic (1), s_iadd, s_idiv, s_istore 6, s_aload 0, s_getR 12 26 64, s_iload 10, s_iald, s_iload 3, s_icne 102, s_goto 149, s_aload 0, s_iload 7, s_aload 0, s_getR 12 26 64, s_iload 10, s_iald, s_callV 12 2 Pre_X12_isIn Fn_X12_isIn, s_ifne 123, s_aload 0, s_getR 12 25 63, s_ic (4), s_iload 10, s_imul, s_aload 0, s_getR 12 26 64, s_iload 10, s_iald, s_iadd, s_iald, s_ic (1000000), s_icne 125, s_ic (-9), s_istore 8, s_iload 7, s_ic (1), s_aload 0, s_getR 12 26 64, s_iload 10, s_iald, s_ishl, s_ior, s_istore 7, s_iload 9, s_aload 0, s_getR 12 25 63, s_ic (4), s_iload 10, s_imul, s_aload 0, s_getR 12 26 64, s_iload 10, s_iald, s_iadd, s_iald, s_iadd, s_istore 9, s_iinc 8 (1), s_iinc 10 (-1), s_goto 78, s_iload 8, s_iflt 187, s_iload 8, s_aload 0, s_getI 12 28, s_iclt 187, s_iload 8, s_aload 0, s_getI 12 28, s_icne 166, s_iload 9, s_aload 0, s_getI 12 29, s_iclt 166, s_goto 187, s_aload 0, s_iload 8, s_putI 12 28, s_aload 0, s_iload 9, s_putI 12 29, s_ic (0), s_istore 10, s_iload 10, s_iload 2, s_icge 187, s_aload 0, s_getR 12 27 65, s_iload 10, s_aload 0, s_getR 12 26 64, s_iload 10, s_iald, s_iast, s_iinc 10 (1), s_goto 174, s_iinc 5 (1), s_goto 63, s_vret]
def pc_X12_laysVillage : Nat → Nat := fun i => [0, 1, 4, 5, 6, 7, 8, 11, 12, 13, 14, 15, 17, 19, 20, 23, 24, 26, 28, 29, 32, 33, 36, 37, 39, 40, 42, 43, 44, 46, 49, 52, 55, 58, 59, 61, 63, 64, 67, 68, 71, 74, 77, 80, 81, 82, 85, 86, 88, 89, 91, 93, 94, 97, 99, 100, 101, 102, 103, 105, 108, 111, 112, 114, 116, 118, 121, 123, 125, 126, 128, 129, 131, 132, 134, 135, 136, 137, 139, 141, 144, 145, 148, 150, 152, 153, 154, 155, 156, 157, 159, 160, 161, 162, 163, 165, 166, 169, 171, 172, 173, 176, 179, 180, 182, 183, 186, 188, 189, 192, 195, 196, 199, 200, 202, 203, 204, 207, 209, 210, 211, 212, 215, 218, 220, 222, 224, 225, 226, 229, 231, 232, 233, 234, 236, 238, 239, 242, 243, 245, 246, 247, 250, 252, 253, 254, 255, 256, 258, 261, 264, 267, 269, 272, 274, 275, 278, 281, 283, 284, 287, 290, 292, 293, 296, 299, 302, 303, 305, 308, 309, 311, 314, 315, 317, 319, 320, 323, 324, 327, 329, 330, 333, 335, 336, 337, 340, 343, 346, 349].getD i 0
def dl_X12_laysVillage : List (Nat × Instr × Nat) := [(0, .aload_n 0, 1), (1, .getfield 7, 3), (4, .iconst 0, 1), (5, .iaload, 1), (6, .istore_n 2, 1), (7, .aload_n 0, 1), (8, .getfield 7, 3), (11, .iconst 1, 1), (12, .iaload, 1), (13, .istore_n 3, 1), (14, .iconst 0, 1), (15, .istore 4, 2), (17, .iload 4, 2), (19, .iload_n 2, 1), (20, .if_icmp .ge 60, 3), (23, .iconst 0, 1), (24, .istore 5, 2), (26, .iload 5, 2), (28, .iload_n 3, 1), (29, .if_icmp .ge 45, 3), (32, .aload_n 0, 1), (33, .getfield 50, 3), (36, .iconst 4, 1), (37, .iload 4, 2), (39, .imul, 1), (40, .iload 5, 2), (42, .iadd, 1), (43, .aload_n 0, 1), (44, .iload 4, 2), (46, .invokevirtual 292, 3), (49, .ifCond .eq 9, 3), (52, .ldc_w 400, 3), (55, .goto 12, 3), (58, .aload_n 0, 1), (59, .iload 4, 2), (61, .iload 5, 2), (63, .iload_n 1, 1), (64, .invokevirtual 404, 3), (67, .iastore, 1), (68, .iinc 5 1, 3), (71, .goto (-45), 3), (74, .iinc 4 1, 3), (77, .goto (-60), 3), (80, .aload_n 0, 1), (81, .iconst (-1), 1), (82, .putfield 407, 3), (85, .iconst 1, 1), (86, .istore 4, 2), (88, .iconst 0, 1), (89, .istore 5, 2), (91, .iload 5, 2), (93, .iload_n 2, 1), (94, .if_icmp .ge 17, 3), (97, .iload 4, 2), (99, .iload_n 3, 1), (100, .iconst 1, 1), (101, .iadd, 1), (102, .imul, 1), (103, .istore 4, 2), (105, .iinc 5 1, 3), (108, .goto (-17), 3), (111, .iconst 0, 1), (112, .istore 5, 2), (114, .iload 5, 2), (116, .iload 4, 2), (118, .if_icmp .ge 231, 3), (121, .iload 5, 2), (123, .istore 6, 2), (125, .iconst 0, 1), (126, .istore 7, 2), (128, .iconst 0, 1), (129, .istore 8, 2), (131, .iconst 0, 1), (132, .istore 9, 2), (134, .iload_n 2, 1), (135, .iconst 1, 1), (136, .isub, 1), (137, .istore 10, 2), (139, .iload 10, 2), (141, .ifCond .lt 126, 3), (144, .aload_n 0, 1), (145, .getfield 53, 3), (148, .iload 10, 2), (150, .iload 6, 2), (152, .iload_n 3, 1), (153, .iconst 1, 1), (154, .iadd, 1), (155, .irem, 1), (156, .iastore, 1), (157, .iload 6, 2), (159, .iload_n 3, 1), (160, .iconst 1, 1), (161, .iadd, 1), (162, .idiv, 1), (163, .istore 6, 2), (165, .aload_n 0, 1), (166, .getfield 53, 3), (169, .iload 10, 2), (171, .iaload, 1), (172, .iload_n 3, 1), (173, .if_icmp .ne 6, 3), (176, .goto 85, 3), (179, .aload_n 0, 1), (180, .iload 7, 2), (182, .aload_n 0, 1), (183, .getfield 53, 3), (186, .iload 10, 2), (188, .iaload, 1), (189, .invokevirtual 277, 3), (192, .ifCond .ne 26, 3), (195, .aload_n 0, 1), (196, .getfield 50, 3), (199, .iconst 4, 1), (200, .iload 10, 2), (202, .imul, 1), (203, .aload_n 0, 1), (204, .getfield 53, 3), (207, .iload 10, 2), (209, .iaload, 1), (210, .iadd, 1), (211, .iaload, 1), (212, .ldc_w 400, 3), (215, .if_icmp .ne 7, 3), (218, .bipush (-9), 2), (220, .istore 8, 2), (222, .iload 7, 2), (224, .iconst 1, 1), (225, .aload_n 0, 1), (226, .getfield 53, 3), (229, .iload 10, 2), (231, .iaload, 1), (232, .ishl, 1), (233, .ior, 1), (234, .istore 7, 2), (236, .iload 9, 2), (238, .aload_n 0, 1), (239, .getfield 50, 3), (242, .iconst 4, 1), (243, .iload 10, 2), (245, .imul, 1), (246, .aload_n 0, 1), (247, .getfield 53, 3), (250, .iload 10, 2), (252, .iaload, 1), (253, .iadd, 1), (254, .iaload, 1), (255, .iadd, 1), (256, .istore 9, 2), (258, .iinc 8 1, 3), (261, .iinc 10 (-1), 3), (264, .goto (-125), 3), (267, .iload 8, 2), (269, .ifCond .lt 74, 3), (272, .iload 8, 2), (274, .aload_n 0, 1), (275, .getfield 407, 3), (278, .if_icmp .lt 65, 3), (281, .iload 8, 2), (283, .aload_n 0, 1), (284, .getfield 407, 3), (287, .if_icmp .ne 15, 3), (290, .iload 9, 2), (292, .aload_n 0, 1), (293, .getfield 410, 3), (296, .if_icmp .lt 6, 3), (299, .goto 44, 3), (302, .aload_n 0, 1), (303, .iload 8, 2), (305, .putfield 407, 3), (308, .aload_n 0, 1), (309, .iload 9, 2), (311, .putfield 410, 3), (314, .iconst 0, 1), (315, .istore 10, 2), (317, .iload 10, 2), (319, .iload_n 2, 1), (320, .if_icmp .ge 23, 3), (323, .aload_n 0, 1), (324, .getfield 56, 3), (327, .iload 10, 2), (329, .aload_n 0, 1), (330, .getfield 53, 3), (333, .iload 10, 2), (335, .iaload, 1), (336, .iastore, 1), (337, .iinc 10 1, 3), (340, .goto (-23), 3), (343, .iinc 5 1, 3), (346, .goto (-232), 3), (349, .return_, 1)]
theorem dc_X12_laysVillage : DEC prog_14_method_127_code pc_X12_laysVillage dl_X12_laysVillage := DEC_of (by decide +kernel)
abbrev rm_X12_laysVillage : Room := { frames := 6, cells := 0, slots := 0, locals := 140 }
set_option maxRecDepth 20000 in
theorem sa_X12_laysVillage (l : Launch) : SNDALL l prog_14_method_127_code "GivenUpModel" 11 none rm_X12_laysVillage P_X12_laysVillage pc_X12_laysVillage := fun p e s m args below meth c cells slots Q D dA ad A RR hC hR => by
  have hM := RTX_room (R := rm_X12_laysVillage) hR
  exact ⟨st_aload_n hC (n := 0) (k := 0) (dc_X12_laysVillage 0 (0, .aload_n 0, 1) rfl rfl) rfl rfl,
    st_getR hC (n := 1) (k := 12) (j := 0) (dc_X12_laysVillage 1 (1, .getfield 7, 3) rfl rfl) rfl clf_12 (by decide) rfl (by decide) wd_1552,
    st_iconst hC (n := 2) (x := 0) (dc_X12_laysVillage 2 (4, .iconst 0, 1) rfl rfl) rfl (by decide),
    st_iald hC (n := 3) (dc_X12_laysVillage 3 (5, .iaload, 1) rfl rfl) rfl,
    st_istore_n hC (n := 4) (k := 2) (dc_X12_laysVillage 4 (6, .istore_n 2, 1) rfl rfl) rfl rfl (by decide),
    st_aload_n hC (n := 5) (k := 0) (dc_X12_laysVillage 5 (7, .aload_n 0, 1) rfl rfl) rfl rfl,
    st_getR hC (n := 6) (k := 12) (j := 0) (dc_X12_laysVillage 6 (8, .getfield 7, 3) rfl rfl) rfl clf_12 (by decide) rfl (by decide) wd_1552,
    st_iconst hC (n := 7) (x := 1) (dc_X12_laysVillage 7 (11, .iconst 1, 1) rfl rfl) rfl (by decide),
    st_iald hC (n := 8) (dc_X12_laysVillage 8 (12, .iaload, 1) rfl rfl) rfl,
    st_istore_n hC (n := 9) (k := 3) (dc_X12_laysVillage 9 (13, .istore_n 3, 1) rfl rfl) rfl rfl (by decide),
    st_iconst hC (n := 10) (x := 0) (dc_X12_laysVillage 10 (14, .iconst 0, 1) rfl rfl) rfl (by decide),
    st_istore hC (n := 11) (dc_X12_laysVillage 11 (15, .istore 4, 2) rfl rfl) rfl (by decide),
    st_iload hC (n := 12) (dc_X12_laysVillage 12 (17, .iload 4, 2) rfl rfl) rfl,
    st_iload_n hC (n := 13) (k := 2) (dc_X12_laysVillage 13 (19, .iload_n 2, 1) rfl rfl) rfl rfl,
    st_icge hC (n := 14) (dc_X12_laysVillage 14 (20, .if_icmp .ge 60, 3) rfl rfl) rfl (by decide),
    st_iconst hC (n := 15) (x := 0) (dc_X12_laysVillage 15 (23, .iconst 0, 1) rfl rfl) rfl (by decide),
    st_istore hC (n := 16) (dc_X12_laysVillage 16 (24, .istore 5, 2) rfl rfl) rfl (by decide),
    st_iload hC (n := 17) (dc_X12_laysVillage 17 (26, .iload 5, 2) rfl rfl) rfl,
    st_iload_n hC (n := 18) (k := 3) (dc_X12_laysVillage 18 (28, .iload_n 3, 1) rfl rfl) rfl rfl,
    st_icge hC (n := 19) (dc_X12_laysVillage 19 (29, .if_icmp .ge 45, 3) rfl rfl) rfl (by decide),
    st_aload_n hC (n := 20) (k := 0) (dc_X12_laysVillage 20 (32, .aload_n 0, 1) rfl rfl) rfl rfl,
    st_getR hC (n := 21) (k := 12) (j := 25) (dc_X12_laysVillage 21 (33, .getfield 50, 3) rfl rfl) rfl clf_12 (by decide) rfl (by decide) wd_1577,
    st_iconst hC (n := 22) (x := 4) (dc_X12_laysVillage 22 (36, .iconst 4, 1) rfl rfl) rfl (by decide),
    st_iload hC (n := 23) (dc_X12_laysVillage 23 (37, .iload 4, 2) rfl rfl) rfl,
    st_imul hC (n := 24) (dc_X12_laysVillage 24 (39, .imul, 1) rfl rfl) rfl,
    st_iload hC (n := 25) (dc_X12_laysVillage 25 (40, .iload 5, 2) rfl rfl) rfl,
    st_iadd hC (n := 26) (dc_X12_laysVillage 26 (42, .iadd, 1) rfl rfl) rfl,
    st_aload_n hC (n := 27) (k := 0) (dc_X12_laysVillage 27 (43, .aload_n 0, 1) rfl rfl) rfl rfl,
    st_iload hC (n := 28) (dc_X12_laysVillage 28 (44, .iload 4, 2) rfl rfl) rfl,
    st_callV hC (n := 29) (k := 12) (na := 1) (con_X12_hasWed l) (dc_X12_laysVillage 29 (46, .invokevirtual 292, 3) rfl rfl) rfl wd_1985 wd_160 (by decide) ⟨rfl, rfl, by decide, by decide⟩ hM wd_1982 wd_1984 wd_102 clf_12,
    st_ifeq hC (n := 30) (dc_X12_laysVillage 30 (49, .ifCond .eq 9, 3) rfl rfl) rfl (by decide),
    st_ldcw hC (n := 31) (x := 1000000) (dc_X12_laysVillage 31 (52, .ldc_w 400, 3) rfl rfl) rfl wd_2159,
    st_goto hC (n := 32) (dc_X12_laysVillage 32 (55, .goto 12, 3) rfl rfl) (by decide),
    st_aload_n hC (n := 33) (k := 0) (dc_X12_laysVillage 33 (58, .aload_n 0, 1) rfl rfl) rfl rfl,
    st_iload hC (n := 34) (dc_X12_laysVillage 34 (59, .iload 4, 2) rfl rfl) rfl,
    st_iload hC (n := 35) (dc_X12_laysVillage 35 (61, .iload 5, 2) rfl rfl) rfl,
    st_iload_n hC (n := 36) (k := 1) (dc_X12_laysVillage 36 (63, .iload_n 1, 1) rfl rfl) rfl rfl,
    st_callV hC (n := 37) (k := 12) (na := 3) (con_X12_lossBy l) (dc_X12_laysVillage 37 (64, .invokevirtual 404, 3) rfl rfl) rfl wd_2175 wd_160 (by decide) ⟨rfl, rfl, by decide, by decide⟩ hM wd_2172 wd_2174 wd_123 clf_12,
    st_iast hC (n := 38) (dc_X12_laysVillage 38 (67, .iastore, 1) rfl rfl) rfl,
    st_iinc hC (n := 39) (x := 1) (dc_X12_laysVillage 39 (68, .iinc 5 1, 3) rfl rfl) rfl (by decide) (by decide),
    st_goto hC (n := 40) (dc_X12_laysVillage 40 (71, .goto (-45), 3) rfl rfl) (by decide),
    st_iinc hC (n := 41) (x := 1) (dc_X12_laysVillage 41 (74, .iinc 4 1, 3) rfl rfl) rfl (by decide) (by decide),
    st_goto hC (n := 42) (dc_X12_laysVillage 42 (77, .goto (-60), 3) rfl rfl) (by decide),
    st_aload_n hC (n := 43) (k := 0) (dc_X12_laysVillage 43 (80, .aload_n 0, 1) rfl rfl) rfl rfl,
    st_iconst hC (n := 44) (x := (-1)) (dc_X12_laysVillage 44 (81, .iconst (-1), 1) rfl rfl) rfl (by decide),
    st_putI hC (n := 45) (k := 12) (j := 28) (dc_X12_laysVillage 45 (82, .putfield 407, 3) rfl rfl) rfl clf_12 (by decide) rfl rfl rfl wd_1580,
    st_iconst hC (n := 46) (x := 1) (dc_X12_laysVillage 46 (85, .iconst 1, 1) rfl rfl) rfl (by decide),
    st_istore hC (n := 47) (dc_X12_laysVillage 47 (86, .istore 4, 2) rfl rfl) rfl (by decide),
    st_iconst hC (n := 48) (x := 0) (dc_X12_laysVillage 48 (88, .iconst 0, 1) rfl rfl) rfl (by decide),
    st_istore hC (n := 49) (dc_X12_laysVillage 49 (89, .istore 5, 2) rfl rfl) rfl (by decide),
    st_iload hC (n := 50) (dc_X12_laysVillage 50 (91, .iload 5, 2) rfl rfl) rfl,
    st_iload_n hC (n := 51) (k := 2) (dc_X12_laysVillage 51 (93, .iload_n 2, 1) rfl rfl) rfl rfl,
    st_icge hC (n := 52) (dc_X12_laysVillage 52 (94, .if_icmp .ge 17, 3) rfl rfl) rfl (by decide),
    st_iload hC (n := 53) (dc_X12_laysVillage 53 (97, .iload 4, 2) rfl rfl) rfl,
    st_iload_n hC (n := 54) (k := 3) (dc_X12_laysVillage 54 (99, .iload_n 3, 1) rfl rfl) rfl rfl,
    st_iconst hC (n := 55) (x := 1) (dc_X12_laysVillage 55 (100, .iconst 1, 1) rfl rfl) rfl (by decide),
    st_iadd hC (n := 56) (dc_X12_laysVillage 56 (101, .iadd, 1) rfl rfl) rfl,
    st_imul hC (n := 57) (dc_X12_laysVillage 57 (102, .imul, 1) rfl rfl) rfl,
    st_istore hC (n := 58) (dc_X12_laysVillage 58 (103, .istore 4, 2) rfl rfl) rfl (by decide),
    st_iinc hC (n := 59) (x := 1) (dc_X12_laysVillage 59 (105, .iinc 5 1, 3) rfl rfl) rfl (by decide) (by decide),
    st_goto hC (n := 60) (dc_X12_laysVillage 60 (108, .goto (-17), 3) rfl rfl) (by decide),
    st_iconst hC (n := 61) (x := 0) (dc_X12_laysVillage 61 (111, .iconst 0, 1) rfl rfl) rfl (by decide),
    st_istore hC (n := 62) (dc_X12_laysVillage 62 (112, .istore 5, 2) rfl rfl) rfl (by decide),
    st_iload hC (n := 63) (dc_X12_laysVillage 63 (114, .iload 5, 2) rfl rfl) rfl,
    st_iload hC (n := 64) (dc_X12_laysVillage 64 (116, .iload 4, 2) rfl rfl) rfl,
    st_icge hC (n := 65) (dc_X12_laysVillage 65 (118, .if_icmp .ge 231, 3) rfl rfl) rfl (by decide),
    st_iload hC (n := 66) (dc_X12_laysVillage 66 (121, .iload 5, 2) rfl rfl) rfl,
    st_istore hC (n := 67) (dc_X12_laysVillage 67 (123, .istore 6, 2) rfl rfl) rfl (by decide),
    st_iconst hC (n := 68) (x := 0) (dc_X12_laysVillage 68 (125, .iconst 0, 1) rfl rfl) rfl (by decide),
    st_istore hC (n := 69) (dc_X12_laysVillage 69 (126, .istore 7, 2) rfl rfl) rfl (by decide),
    st_iconst hC (n := 70) (x := 0) (dc_X12_laysVillage 70 (128, .iconst 0, 1) rfl rfl) rfl (by decide),
    st_istore hC (n := 71) (dc_X12_laysVillage 71 (129, .istore 8, 2) rfl rfl) rfl (by decide),
    st_iconst hC (n := 72) (x := 0) (dc_X12_laysVillage 72 (131, .iconst 0, 1) rfl rfl) rfl (by decide),
    st_istore hC (n := 73) (dc_X12_laysVillage 73 (132, .istore 9, 2) rfl rfl) rfl (by decide),
    st_iload_n hC (n := 74) (k := 2) (dc_X12_laysVillage 74 (134, .iload_n 2, 1) rfl rfl) rfl rfl,
    st_iconst hC (n := 75) (x := 1) (dc_X12_laysVillage 75 (135, .iconst 1, 1) rfl rfl) rfl (by decide),
    st_isub hC (n := 76) (dc_X12_laysVillage 76 (136, .isub, 1) rfl rfl) rfl,
    st_istore hC (n := 77) (dc_X12_laysVillage 77 (137, .istore 10, 2) rfl rfl) rfl (by decide),
    st_iload hC (n := 78) (dc_X12_laysVillage 78 (139, .iload 10, 2) rfl rfl) rfl,
    st_iflt hC (n := 79) (dc_X12_laysVillage 79 (141, .ifCond .lt 126, 3) rfl rfl) rfl (by decide),
    st_aload_n hC (n := 80) (k := 0) (dc_X12_laysVillage 80 (144, .aload_n 0, 1) rfl rfl) rfl rfl,
    st_getR hC (n := 81) (k := 12) (j := 26) (dc_X12_laysVillage 81 (145, .getfield 53, 3) rfl rfl) rfl clf_12 (by decide) rfl (by decide) wd_1578,
    st_iload hC (n := 82) (dc_X12_laysVillage 82 (148, .iload 10, 2) rfl rfl) rfl,
    st_iload hC (n := 83) (dc_X12_laysVillage 83 (150, .iload 6, 2) rfl rfl) rfl,
    st_iload_n hC (n := 84) (k := 3) (dc_X12_laysVillage 84 (152, .iload_n 3, 1) rfl rfl) rfl rfl,
    st_iconst hC (n := 85) (x := 1) (dc_X12_laysVillage 85 (153, .iconst 1, 1) rfl rfl) rfl (by decide),
    st_iadd hC (n := 86) (dc_X12_laysVillage 86 (154, .iadd, 1) rfl rfl) rfl,
    st_irem hC (n := 87) (dc_X12_laysVillage 87 (155, .irem, 1) rfl rfl) rfl,
    st_iast hC (n := 88) (dc_X12_laysVillage 88 (156, .iastore, 1) rfl rfl) rfl,
    st_iload hC (n := 89) (dc_X12_laysVillage 89 (157, .iload 6, 2) rfl rfl) rfl,
    st_iload_n hC (n := 90) (k := 3) (dc_X12_laysVillage 90 (159, .iload_n 3, 1) rfl rfl) rfl rfl,
    st_iconst hC (n := 91) (x := 1) (dc_X12_laysVillage 91 (160, .iconst 1, 1) rfl rfl) rfl (by decide),
    st_iadd hC (n := 92) (dc_X12_laysVillage 92 (161, .iadd, 1) rfl rfl) rfl,
    st_idiv hC (n := 93) (dc_X12_laysVillage 93 (162, .idiv, 1) rfl rfl) rfl,
    st_istore hC (n := 94) (dc_X12_laysVillage 94 (163, .istore 6, 2) rfl rfl) rfl (by decide),
    st_aload_n hC (n := 95) (k := 0) (dc_X12_laysVillage 95 (165, .aload_n 0, 1) rfl rfl) rfl rfl,
    st_getR hC (n := 96) (k := 12) (j := 26) (dc_X12_laysVillage 96 (166, .getfield 53, 3) rfl rfl) rfl clf_12 (by decide) rfl (by decide) wd_1578,
    st_iload hC (n := 97) (dc_X12_laysVillage 97 (169, .iload 10, 2) rfl rfl) rfl,
    st_iald hC (n := 98) (dc_X12_laysVillage 98 (171, .iaload, 1) rfl rfl) rfl,
    st_iload_n hC (n := 99) (k := 3) (dc_X12_laysVillage 99 (172, .iload_n 3, 1) rfl rfl) rfl rfl,
    st_icne hC (n := 100) (dc_X12_laysVillage 100 (173, .if_icmp .ne 6, 3) rfl rfl) rfl (by decide),
    st_goto hC (n := 101) (dc_X12_laysVillage 101 (176, .goto 85, 3) rfl rfl) (by decide),
    st_aload_n hC (n := 102) (k := 0) (dc_X12_laysVillage 102 (179, .aload_n 0, 1) rfl rfl) rfl rfl,
    st_iload hC (n := 103) (dc_X12_laysVillage 103 (180, .iload 7, 2) rfl rfl) rfl,
    st_aload_n hC (n := 104) (k := 0) (dc_X12_laysVillage 104 (182, .aload_n 0, 1) rfl rfl) rfl rfl,
    st_getR hC (n := 105) (k := 12) (j := 26) (dc_X12_laysVillage 105 (183, .getfield 53, 3) rfl rfl) rfl clf_12 (by decide) rfl (by decide) wd_1578,
    st_iload hC (n := 106) (dc_X12_laysVillage 106 (186, .iload 10, 2) rfl rfl) rfl,
    st_iald hC (n := 107) (dc_X12_laysVillage 107 (188, .iaload, 1) rfl rfl) rfl,
    st_callV hC (n := 108) (k := 12) (na := 2) (con_X12_isIn l) (dc_X12_laysVillage 108 (189, .invokevirtual 277, 3) rfl rfl) rfl wd_1907 wd_160 (by decide) ⟨rfl, rfl, by decide, by decide⟩ hM wd_1904 wd_1906 wd_89 clf_12,
    st_ifne hC (n := 109) (dc_X12_laysVillage 109 (192, .ifCond .ne 26, 3) rfl rfl) rfl (by decide),
    st_aload_n hC (n := 110) (k := 0) (dc_X12_laysVillage 110 (195, .aload_n 0, 1) rfl rfl) rfl rfl,
    st_getR hC (n := 111) (k := 12) (j := 25) (dc_X12_laysVillage 111 (196, .getfield 50, 3) rfl rfl) rfl clf_12 (by decide) rfl (by decide) wd_1577,
    st_iconst hC (n := 112) (x := 4) (dc_X12_laysVillage 112 (199, .iconst 4, 1) rfl rfl) rfl (by decide),
    st_iload hC (n := 113) (dc_X12_laysVillage 113 (200, .iload 10, 2) rfl rfl) rfl,
    st_imul hC (n := 114) (dc_X12_laysVillage 114 (202, .imul, 1) rfl rfl) rfl,
    st_aload_n hC (n := 115) (k := 0) (dc_X12_laysVillage 115 (203, .aload_n 0, 1) rfl rfl) rfl rfl,
    st_getR hC (n := 116) (k := 12) (j := 26) (dc_X12_laysVillage 116 (204, .getfield 53, 3) rfl rfl) rfl clf_12 (by decide) rfl (by decide) wd_1578,
    st_iload hC (n := 117) (dc_X12_laysVillage 117 (207, .iload 10, 2) rfl rfl) rfl,
    st_iald hC (n := 118) (dc_X12_laysVillage 118 (209, .iaload, 1) rfl rfl) rfl,
    st_iadd hC (n := 119) (dc_X12_laysVillage 119 (210, .iadd, 1) rfl rfl) rfl,
    st_iald hC (n := 120) (dc_X12_laysVillage 120 (211, .iaload, 1) rfl rfl) rfl,
    st_ldcw hC (n := 121) (x := 1000000) (dc_X12_laysVillage 121 (212, .ldc_w 400, 3) rfl rfl) rfl wd_2159,
    st_icne hC (n := 122) (dc_X12_laysVillage 122 (215, .if_icmp .ne 7, 3) rfl rfl) rfl (by decide),
    st_bipush hC (n := 123) (x := (-9)) (dc_X12_laysVillage 123 (218, .bipush (-9), 2) rfl rfl) rfl (by decide),
    st_istore hC (n := 124) (dc_X12_laysVillage 124 (220, .istore 8, 2) rfl rfl) rfl (by decide),
    st_iload hC (n := 125) (dc_X12_laysVillage 125 (222, .iload 7, 2) rfl rfl) rfl,
    st_iconst hC (n := 126) (x := 1) (dc_X12_laysVillage 126 (224, .iconst 1, 1) rfl rfl) rfl (by decide),
    st_aload_n hC (n := 127) (k := 0) (dc_X12_laysVillage 127 (225, .aload_n 0, 1) rfl rfl) rfl rfl,
    st_getR hC (n := 128) (k := 12) (j := 26) (dc_X12_laysVillage 128 (226, .getfield 53, 3) rfl rfl) rfl clf_12 (by decide) rfl (by decide) wd_1578,
    st_iload hC (n := 129) (dc_X12_laysVillage 129 (229, .iload 10, 2) rfl rfl) rfl,
    st_iald hC (n := 130) (dc_X12_laysVillage 130 (231, .iaload, 1) rfl rfl) rfl,
    st_ishl hC (n := 131) (dc_X12_laysVillage 131 (232, .ishl, 1) rfl rfl) rfl,
    st_ior hC (n := 132) (dc_X12_laysVillage 132 (233, .ior, 1) rfl rfl) rfl,
    st_istore hC (n := 133) (dc_X12_laysVillage 133 (234, .istore 7, 2) rfl rfl) rfl (by decide),
    st_iload hC (n := 134) (dc_X12_laysVillage 134 (236, .iload 9, 2) rfl rfl) rfl,
    st_aload_n hC (n := 135) (k := 0) (dc_X12_laysVillage 135 (238, .aload_n 0, 1) rfl rfl) rfl rfl,
    st_getR hC (n := 136) (k := 12) (j := 25) (dc_X12_laysVillage 136 (239, .getfield 50, 3) rfl rfl) rfl clf_12 (by decide) rfl (by decide) wd_1577,
    st_iconst hC (n := 137) (x := 4) (dc_X12_laysVillage 137 (242, .iconst 4, 1) rfl rfl) rfl (by decide),
    st_iload hC (n := 138) (dc_X12_laysVillage 138 (243, .iload 10, 2) rfl rfl) rfl,
    st_imul hC (n := 139) (dc_X12_laysVillage 139 (245, .imul, 1) rfl rfl) rfl,
    st_aload_n hC (n := 140) (k := 0) (dc_X12_laysVillage 140 (246, .aload_n 0, 1) rfl rfl) rfl rfl,
    st_getR hC (n := 141) (k := 12) (j := 26) (dc_X12_laysVillage 141 (247, .getfield 53, 3) rfl rfl) rfl clf_12 (by decide) rfl (by decide) wd_1578,
    st_iload hC (n := 142) (dc_X12_laysVillage 142 (250, .iload 10, 2) rfl rfl) rfl,
    st_iald hC (n := 143) (dc_X12_laysVillage 143 (252, .iaload, 1) rfl rfl) rfl,
    st_iadd hC (n := 144) (dc_X12_laysVillage 144 (253, .iadd, 1) rfl rfl) rfl,
    st_iald hC (n := 145) (dc_X12_laysVillage 145 (254, .iaload, 1) rfl rfl) rfl,
    st_iadd hC (n := 146) (dc_X12_laysVillage 146 (255, .iadd, 1) rfl rfl) rfl,
    st_istore hC (n := 147) (dc_X12_laysVillage 147 (256, .istore 9, 2) rfl rfl) rfl (by decide),
    st_iinc hC (n := 148) (x := 1) (dc_X12_laysVillage 148 (258, .iinc 8 1, 3) rfl rfl) rfl (by decide) (by decide),
    st_iinc hC (n := 149) (x := (-1)) (dc_X12_laysVillage 149 (261, .iinc 10 (-1), 3) rfl rfl) rfl (by decide) (by decide),
    st_goto hC (n := 150) (dc_X12_laysVillage 150 (264, .goto (-125), 3) rfl rfl) (by decide),
    st_iload hC (n := 151) (dc_X12_laysVillage 151 (267, .iload 8, 2) rfl rfl) rfl,
    st_iflt hC (n := 152) (dc_X12_laysVillage 152 (269, .ifCond .lt 74, 3) rfl rfl) rfl (by decide),
    st_iload hC (n := 153) (dc_X12_laysVillage 153 (272, .iload 8, 2) rfl rfl) rfl,
    st_aload_n hC (n := 154) (k := 0) (dc_X12_laysVillage 154 (274, .aload_n 0, 1) rfl rfl) rfl rfl,
    st_getI hC (n := 155) (k := 12) (j := 28) (dc_X12_laysVillage 155 (275, .getfield 407, 3) rfl rfl) rfl clf_12 (by decide) rfl wd_1580,
    st_iclt hC (n := 156) (dc_X12_laysVillage 156 (278, .if_icmp .lt 65, 3) rfl rfl) rfl (by decide),
    st_iload hC (n := 157) (dc_X12_laysVillage 157 (281, .iload 8, 2) rfl rfl) rfl,
    st_aload_n hC (n := 158) (k := 0) (dc_X12_laysVillage 158 (283, .aload_n 0, 1) rfl rfl) rfl rfl,
    st_getI hC (n := 159) (k := 12) (j := 28) (dc_X12_laysVillage 159 (284, .getfield 407, 3) rfl rfl) rfl clf_12 (by decide) rfl wd_1580,
    st_icne hC (n := 160) (dc_X12_laysVillage 160 (287, .if_icmp .ne 15, 3) rfl rfl) rfl (by decide),
    st_iload hC (n := 161) (dc_X12_laysVillage 161 (290, .iload 9, 2) rfl rfl) rfl,
    st_aload_n hC (n := 162) (k := 0) (dc_X12_laysVillage 162 (292, .aload_n 0, 1) rfl rfl) rfl rfl,
    st_getI hC (n := 163) (k := 12) (j := 29) (dc_X12_laysVillage 163 (293, .getfield 410, 3) rfl rfl) rfl clf_12 (by decide) rfl wd_1581,
    st_iclt hC (n := 164) (dc_X12_laysVillage 164 (296, .if_icmp .lt 6, 3) rfl rfl) rfl (by decide),
    st_goto hC (n := 165) (dc_X12_laysVillage 165 (299, .goto 44, 3) rfl rfl) (by decide),
    st_aload_n hC (n := 166) (k := 0) (dc_X12_laysVillage 166 (302, .aload_n 0, 1) rfl rfl) rfl rfl,
    st_iload hC (n := 167) (dc_X12_laysVillage 167 (303, .iload 8, 2) rfl rfl) rfl,
    st_putI hC (n := 168) (k := 12) (j := 28) (dc_X12_laysVillage 168 (305, .putfield 407, 3) rfl rfl) rfl clf_12 (by decide) rfl rfl rfl wd_1580,
    st_aload_n hC (n := 169) (k := 0) (dc_X12_laysVillage 169 (308, .aload_n 0, 1) rfl rfl) rfl rfl,
    st_iload hC (n := 170) (dc_X12_laysVillage 170 (309, .iload 9, 2) rfl rfl) rfl,
    st_putI hC (n := 171) (k := 12) (j := 29) (dc_X12_laysVillage 171 (311, .putfield 410, 3) rfl rfl) rfl clf_12 (by decide) rfl rfl rfl wd_1581,
    st_iconst hC (n := 172) (x := 0) (dc_X12_laysVillage 172 (314, .iconst 0, 1) rfl rfl) rfl (by decide),
    st_istore hC (n := 173) (dc_X12_laysVillage 173 (315, .istore 10, 2) rfl rfl) rfl (by decide),
    st_iload hC (n := 174) (dc_X12_laysVillage 174 (317, .iload 10, 2) rfl rfl) rfl,
    st_iload_n hC (n := 175) (k := 2) (dc_X12_laysVillage 175 (319, .iload_n 2, 1) rfl rfl) rfl rfl,
    st_icge hC (n := 176) (dc_X12_laysVillage 176 (320, .if_icmp .ge 23, 3) rfl rfl) rfl (by decide),
    st_aload_n hC (n := 177) (k := 0) (dc_X12_laysVillage 177 (323, .aload_n 0, 1) rfl rfl) rfl rfl,
    st_getR hC (n := 178) (k := 12) (j := 27) (dc_X12_laysVillage 178 (324, .getfield 56, 3) rfl rfl) rfl clf_12 (by decide) rfl (by decide) wd_1579,
    st_iload hC (n := 179) (dc_X12_laysVillage 179 (327, .iload 10, 2) rfl rfl) rfl,
    st_aload_n hC (n := 180) (k := 0) (dc_X12_laysVillage 180 (329, .aload_n 0, 1) rfl rfl) rfl rfl,
    st_getR hC (n := 181) (k := 12) (j := 26) (dc_X12_laysVillage 181 (330, .getfield 53, 3) rfl rfl) rfl clf_12 (by decide) rfl (by decide) wd_1578,
    st_iload hC (n := 182) (dc_X12_laysVillage 182 (333, .iload 10, 2) rfl rfl) rfl,
    st_iald hC (n := 183) (dc_X12_laysVillage 183 (335, .iaload, 1) rfl rfl) rfl,
    st_iast hC (n := 184) (dc_X12_laysVillage 184 (336, .iastore, 1) rfl rfl) rfl,
    st_iinc hC (n := 185) (x := 1) (dc_X12_laysVillage 185 (337, .iinc 10 1, 3) rfl rfl) rfl (by decide) (by decide),
    st_goto hC (n := 186) (dc_X12_laysVillage 186 (340, .goto (-23), 3) rfl rfl) (by decide),
    st_iinc hC (n := 187) (x := 1) (dc_X12_laysVillage 187 (343, .iinc 5 1, 3) rfl rfl) rfl (by decide) (by decide),
    st_goto hC (n := 188) (dc_X12_laysVillage 188 (346, .goto (-232), 3) rfl rfl) (by decide),
    st_vret hC (n := 189) hR (dc_X12_laysVillage 189 (349, .return_, 1) rfl rfl), trivial⟩
set_option maxRecDepth 8000 in
theorem vc_X12_laysVillage : VC P_X12_laysVillage 11 Pre_X12_laysVillage Fn_X12_laysVillage := by
  rintro mm as hom hoa ⟨⟨ns, nm, n, hV⟩, hH, w, rfl⟩
  refine ⟨Nat.le_of_ble_eq_true rfl, fun X h => ?_⟩
  have hns : mm.1 54 0 0 = nI ns := hV.1.1
  have hns4 : ns ≤ 4 := hV.1.2
  have hnm : mm.1 54 0 1 = nI nm := hV.2.1.1
  have hnm4 : nm ≤ 4 := hV.2.1.2
  have eF : Fn_X12_laysVillage mm [vR 12 0, vI w] = (none, vlM (lvO mm w nm ns) (bsV (lsV (mm.1 54 0) w) ns nm (upd (mm.1 12 0) 28 (-1)) (mm.1 64 0) (mm.1 65 0) ((nm + 1) ^ ns))) := by
    show (none, lyV mm w) = _
    unfold lyV
    rw [hns, hnm, nI_clamp (by omega), nI_clamp (by omega)]
  rw [eF] at h
  clear eF hoa
  -- the ways, one after the other
  have part2 : ∀ N : MM, (∀ s k, s < ns → k < nm → N.1 63 0 (4 * s + k) = lsV (mm.1 54 0) w s k) → N = lvO mm w nm ns → ∀ q, X 61 [some (vR 12 0), some (vI (w)), some (vI (nI ns)), some (vI (nI nm)), some (vI (nI ((nm + 1) ^ ns))), some (vI (q)), none, none, none, none, none] [] (vlM N (upd (mm.1 12 0) 28 (-1), mm.1 64 0, mm.1 65 0)) := by
    intro N hL eN q
    rw [← eN] at h
    have hpw := pw_le hnm4 hns4
    have loop : ∀ c, c ≤ (nm + 1) ^ ns → ∀ L6 L7 L8 L9 L10, X 63 [some (vR 12 0), some (vI (w)), some (vI (nI ns)), some (vI (nI nm)), some (vI (nI ((nm + 1) ^ ns))), some (vI (nI c)), L6, L7, L8, L9, L10] [] (vlM N (bsV (lsV (mm.1 54 0) w) ns nm (upd (mm.1 12 0) 28 (-1)) (mm.1 64 0) (mm.1 65 0) c)) := by
      refine up_ind _ ?_ (fun c hc ih => ?_)
      · intro L6 L7 L8 L9 L10
        show X 63 [some (vR 12 0), some (vI w), some (vI (nI ns)), some (vI (nI nm)), some (vI (nI ((nm + 1) ^ ns))), some (vI (nI ((nm + 1) ^ ns))), L6, L7, L8, L9, L10] [] (vlM N (bsV (lsV (mm.1 54 0) w) ns nm (upd (mm.1 12 0) 28 (-1)) (mm.1 64 0) (mm.1 65 0) ((nm + 1) ^ ns)))
        refine h (fun _ => false) 3000 63 _ _ _ ?_
        refine br_t (nI_le (by omega) (by omega)) ?_
        show ((none : Option MV), vlM N (bsV (lsV (mm.1 54 0) w) ns nm (upd (mm.1 12 0) 28 (-1)) (mm.1 64 0) (mm.1 65 0) ((nm + 1) ^ ns))) = _
        exact rfl
      · intro L6 L7 L8 L9 L10
        have hw := ih
        rw [bsV] at hw
        generalize bsV (lsV (mm.1 54 0) w) ns nm (upd (mm.1 12 0) 28 (-1)) (mm.1 64 0) (mm.1 65 0) c = z at *
        obtain ⟨o, t, e⟩ := z
        dsimp only at hw
        -- the digits are read: what then
        have done : ∀ L6 L10, X 151 [some (vR 12 0), some (vI (w)), some (vI (nI ns)), some (vI (nI nm)), some (vI (nI ((nm + 1) ^ ns))), some (vI (nI c)), L6, some (vI ((vwy (lsV (mm.1 54 0) w) ns nm c ns).1)), some (vI ((vwy (lsV (mm.1 54 0) w) ns nm c ns).2.1)), some (vI ((vwy (lsV (mm.1 54 0) w) ns nm c ns).2.2)), L10] [] (vlM N (o, trR t ns nm c ns, e)) := by
          intro L6 L10
          have skip : ((vwy (lsV (mm.1 54 0) w) ns nm c ns).2.1 < 0 ∨ (vwy (lsV (mm.1 54 0) w) ns nm c ns).2.1 < o 28 ∨ ((vwy (lsV (mm.1 54 0) w) ns nm c ns).2.1 = o 28 ∧ ¬ (vwy (lsV (mm.1 54 0) w) ns nm c ns).2.2 < o 29)) → ∀ L6 L7 L8 L9 L10, X 187 [some (vR 12 0), some (vI (w)), some (vI (nI ns)), some (vI (nI nm)), some (vI (nI ((nm + 1) ^ ns))), some (vI (nI c)), L6, L7, L8, L9, L10] [] (vlM N (o, trR t ns nm c ns, e)) := by
            intro hc L6 L7 L8 L9 L10
            rw [if_pos hc] at hw
            show X 187 [some (vR 12 0), some (vI w), some (vI (nI ns)), some (vI (nI nm)), some (vI (nI ((nm + 1) ^ ns))), some (vI (nI c)), L6, L7, L8, L9, L10] [] (vlM N (o, trR t ns nm c ns, e))
            refine h (fun i => Nat.beq i 63) 3000 187 _ _ _ ?_
            show X 63 [some (vR 12 0), some (vI w), some (vI (nI ns)), some (vI (nI nm)), some (vI (nI ((nm + 1) ^ ns))), some (vI ((nI c) + 1)), L6, L7, L8, L9, L10] [] (vlM N (o, trR t ns nm c ns, e))
            rw [nI_1]
            exact hw _ _ _ _ _
          have take : ¬ ((vwy (lsV (mm.1 54 0) w) ns nm c ns).2.1 < 0 ∨ (vwy (lsV (mm.1 54 0) w) ns nm c ns).2.1 < o 28 ∨ ((vwy (lsV (mm.1 54 0) w) ns nm c ns).2.1 = o 28 ∧ ¬ (vwy (lsV (mm.1 54 0) w) ns nm c ns).2.2 < o 29)) → X 166 [some (vR 12 0), some (vI (w)), some (vI (nI ns)), some (vI (nI nm)), some (vI (nI ((nm + 1) ^ ns))), some (vI (nI c)), L6, some (vI ((vwy (lsV (mm.1 54 0) w) ns nm c ns).1)), some (vI ((vwy (lsV (mm.1 54 0) w) ns nm c ns).2.1)), some (vI ((vwy (lsV (mm.1 54 0) w) ns nm c ns).2.2)), L10] [] (vlM N (o, trR t ns nm c ns, e)) := by
            intro hc
            rw [if_neg hc] at hw
            have cp : ∀ j, j ≤ ns → X 174 [some (vR 12 0), some (vI (w)), some (vI (nI ns)), some (vI (nI nm)), some (vI (nI ((nm + 1) ^ ns))), some (vI (nI c)), L6, some (vI ((vwy (lsV (mm.1 54 0) w) ns nm c ns).1)), some (vI ((vwy (lsV (mm.1 54 0) w) ns nm c ns).2.1)), some (vI ((vwy (lsV (mm.1 54 0) w) ns nm c ns).2.2)), some (vI (nI j))] [] (vlM N (upd (upd o 28 (vwy (lsV (mm.1 54 0) w) ns nm c ns).2.1) 29 (vwy (lsV (mm.1 54 0) w) ns nm c ns).2.2, trR t ns nm c ns, cpR e (trR t ns nm c ns) j)) := by
              refine up_ind ns ?_ (fun j hj ihj => ?_)
              ·
                show X 174 [some (vR 12 0), some (vI w), some (vI (nI ns)), some (vI (nI nm)), some (vI (nI ((nm + 1) ^ ns))), some (vI (nI c)), L6, some (vI ((vwy (lsV (mm.1 54 0) w) ns nm c ns).1)), some (vI ((vwy (lsV (mm.1 54 0) w) ns nm c ns).2.1)), some (vI ((vwy (lsV (mm.1 54 0) w) ns nm c ns).2.2)), some (vI (nI ns))] [] (vlM N (upd (upd o 28 (vwy (lsV (mm.1 54 0) w) ns nm c ns).2.1) 29 (vwy (lsV (mm.1 54 0) w) ns nm c ns).2.2, trR t ns nm c ns, cpR e (trR t ns nm c ns) ns))
                refine h (fun i => Nat.beq i 63) 3000 174 _ _ _ ?_
                refine br_t (nI_le (by omega) (by omega)) ?_
                show X 63 [some (vR 12 0), some (vI w), some (vI (nI ns)), some (vI (nI nm)), some (vI (nI ((nm + 1) ^ ns))), some (vI ((nI c) + 1)), L6, some (vI ((vwy (lsV (mm.1 54 0) w) ns nm c ns).1)), some (vI ((vwy (lsV (mm.1 54 0) w) ns nm c ns).2.1)), some (vI ((vwy (lsV (mm.1 54 0) w) ns nm c ns).2.2)), some (vI (nI ns))] [] (vlM N (upd (upd o 28 (vwy (lsV (mm.1 54 0) w) ns nm c ns).2.1) 29 (vwy (lsV (mm.1 54 0) w) ns nm c ns).2.2, trR t ns nm c ns, cpR e (trR t ns nm c ns) ns))
                rw [nI_1]
                exact hw _ _ _ _ _
              · have ej : (nI j).toNatClampNeg = j := nI_clamp (by omega)
                show X 174 [some (vR 12 0), some (vI w), some (vI (nI ns)), some (vI (nI nm)), some (vI (nI ((nm + 1) ^ ns))), some (vI (nI c)), L6, some (vI ((vwy (lsV (mm.1 54 0) w) ns nm c ns).1)), some (vI ((vwy (lsV (mm.1 54 0) w) ns nm c ns).2.1)), some (vI ((vwy (lsV (mm.1 54 0) w) ns nm c ns).2.2)), some (vI (nI j))] [] (vlM N (upd (upd o 28 (vwy (lsV (mm.1 54 0) w) ns nm c ns).2.1) 29 (vwy (lsV (mm.1 54 0) w) ns nm c ns).2.2, trR t ns nm c ns, cpR e (trR t ns nm c ns) j))
                refine h (fun i => Nat.beq i 174) 3000 174 _ _ _ ?_
                refine br_f (nI_ge hj (by omega)) ?_
                refine And.intro (inb_o 4 rfl rfl rfl (by omega)) ?_
                refine And.intro (inb_o 4 rfl rfl rfl (by omega)) ?_
                show X 174 [some (vR 12 0), some (vI w), some (vI (nI ns)), some (vI (nI nm)), some (vI (nI ((nm + 1) ^ ns))), some (vI (nI c)), L6, some (vI ((vwy (lsV (mm.1 54 0) w) ns nm c ns).1)), some (vI ((vwy (lsV (mm.1 54 0) w) ns nm c ns).2.1)), some (vI ((vwy (lsV (mm.1 54 0) w) ns nm c ns).2.2)), some (vI ((nI j) + 1))] [] (mRow (vlM N (upd (upd o 28 (vwy (lsV (mm.1 54 0) w) ns nm c ns).2.1) 29 (vwy (lsV (mm.1 54 0) w) ns nm c ns).2.2, trR t ns nm c ns, cpR e (trR t ns nm c ns) j)) 65 0 (upd ((vlM N (upd (upd o 28 (vwy (lsV (mm.1 54 0) w) ns nm c ns).2.1) 29 (vwy (lsV (mm.1 54 0) w) ns nm c ns).2.2, trR t ns nm c ns, cpR e (trR t ns nm c ns) j)).1 65 0) (nI j).toNatClampNeg ((vlM N (upd (upd o 28 (vwy (lsV (mm.1 54 0) w) ns nm c ns).2.1) 29 (vwy (lsV (mm.1 54 0) w) ns nm c ns).2.2, trR t ns nm c ns, cpR e (trR t ns nm c ns) j)).1 64 0 (nI j).toNatClampNeg)))
                rw [nI_1, ej]
                show X 174 _ _ (mRow (vlM N (upd (upd o 28 (vwy (lsV (mm.1 54 0) w) ns nm c ns).2.1) 29 (vwy (lsV (mm.1 54 0) w) ns nm c ns).2.2, trR t ns nm c ns, cpR e (trR t ns nm c ns) j)) 65 0 (upd (cpR e (trR t ns nm c ns) j) j (trR t ns nm c ns j))) 
                rw [vl_e] 
                exact ihj
            show X 166 [some (vR 12 0), some (vI w), some (vI (nI ns)), some (vI (nI nm)), some (vI (nI ((nm + 1) ^ ns))), some (vI (nI c)), L6, some (vI ((vwy (lsV (mm.1 54 0) w) ns nm c ns).1)), some (vI ((vwy (lsV (mm.1 54 0) w) ns nm c ns).2.1)), some (vI ((vwy (lsV (mm.1 54 0) w) ns nm c ns).2.2)), L10] [] (vlM N (o, trR t ns nm c ns, e))
            refine h (fun i => Nat.beq i 174) 3000 166 _ _ _ ?_
            show X 174 [some (vR 12 0), some (vI w), some (vI (nI ns)), some (vI (nI nm)), some (vI (nI ((nm + 1) ^ ns))), some (vI (nI c)), L6, some (vI ((vwy (lsV (mm.1 54 0) w) ns nm c ns).1)), some (vI ((vwy (lsV (mm.1 54 0) w) ns nm c ns).2.1)), some (vI ((vwy (lsV (mm.1 54 0) w) ns nm c ns).2.2)), some (vI 0)] [] (mI (mI (vlM N (o, trR t ns nm c ns, e)) 12 0 28 ((vwy (lsV (mm.1 54 0) w) ns nm c ns).2.1)) 12 0 29 ((vwy (lsV (mm.1 54 0) w) ns nm c ns).2.2))
            show X 174 _ _ (mRow (mRow (vlM N (o, trR t ns nm c ns, e)) 12 0 (upd o 28 (vwy (lsV (mm.1 54 0) w) ns nm c ns).2.1)) 12 0 (upd (upd o 28 (vwy (lsV (mm.1 54 0) w) ns nm c ns).2.1) 29 (vwy (lsV (mm.1 54 0) w) ns nm c ns).2.2))
            rw [mRow2, vl_o] 
            exact cp 0 (by omega)
          show X 151 [some (vR 12 0), some (vI w), some (vI (nI ns)), some (vI (nI nm)), some (vI (nI ((nm + 1) ^ ns))), some (vI (nI c)), L6, some (vI ((vwy (lsV (mm.1 54 0) w) ns nm c ns).1)), some (vI ((vwy (lsV (mm.1 54 0) w) ns nm c ns).2.1)), some (vI ((vwy (lsV (mm.1 54 0) w) ns nm c ns).2.2)), L10] [] (vlM N (o, trR t ns nm c ns, e))
          refine h (fun i => Nat.beq i 166 || Nat.beq i 187) 3000 151 _ _ _ ?_
          refine br_c (fun b152 => ?_) (fun b152 => ?_)
          · -- 152: (vwy (lsV (mm.1 54 0) w) ns nm c ns).2.1 < 0 taken
            replace b152 : (vwy (lsV (mm.1 54 0) w) ns nm c ns).2.1 < 0 := b152
            show X 187 [some (vR 12 0), some (vI w), some (vI (nI ns)), some (vI (nI nm)), some (vI (nI ((nm + 1) ^ ns))), some (vI (nI c)), L6, some (vI ((vwy (lsV (mm.1 54 0) w) ns nm c ns).1)), some (vI ((vwy (lsV (mm.1 54 0) w) ns nm c ns).2.1)), some (vI ((vwy (lsV (mm.1 54 0) w) ns nm c ns).2.2)), L10] [] (vlM N (o, trR t ns nm c ns, e))
            exact skip (Or.inl b152) _ _ _ _ _
          · -- 152: (vwy (lsV (mm.1 54 0) w) ns nm c ns).2.1 < 0 on
            replace b152 : ¬ ((vwy (lsV (mm.1 54 0) w) ns nm c ns).2.1 < 0) := b152
            refine br_c (fun b156 => ?_) (fun b156 => ?_)
            · -- 156: (vwy (lsV (mm.1 54 0) w) ns nm c ns).2.1 < (vlM N (o, trR t ns nm c ns, e)).1 12 0 28 taken
              replace b156 : (vwy (lsV (mm.1 54 0) w) ns nm c ns).2.1 < (vlM N (o, trR t ns nm c ns, e)).1 12 0 28 := b156
              show X 187 [some (vR 12 0), some (vI w), some (vI (nI ns)), some (vI (nI nm)), some (vI (nI ((nm + 1) ^ ns))), some (vI (nI c)), L6, some (vI ((vwy (lsV (mm.1 54 0) w) ns nm c ns).1)), some (vI ((vwy (lsV (mm.1 54 0) w) ns nm c ns).2.1)), some (vI ((vwy (lsV (mm.1 54 0) w) ns nm c ns).2.2)), L10] [] (vlM N (o, trR t ns nm c ns, e))
              exact skip (Or.inr (Or.inl b156)) _ _ _ _ _
            · -- 156: (vwy (lsV (mm.1 54 0) w) ns nm c ns).2.1 < (vlM N (o, trR t ns nm c ns, e)).1 12 0 28 on
              replace b156 : ¬ ((vwy (lsV (mm.1 54 0) w) ns nm c ns).2.1 < (vlM N (o, trR t ns nm c ns, e)).1 12 0 28) := b156
              refine brn_c (fun b160 => ?_) (fun b160 => ?_)
              · -- 160: (vwy (lsV (mm.1 54 0) w) ns nm c ns).2.1 = (vlM N (o, trR t ns nm c ns, e)).1 12 0 28 taken
                replace b160 : ¬ ((vwy (lsV (mm.1 54 0) w) ns nm c ns).2.1 = (vlM N (o, trR t ns nm c ns, e)).1 12 0 28) := b160
                show X 166 [some (vR 12 0), some (vI w), some (vI (nI ns)), some (vI (nI nm)), some (vI (nI ((nm + 1) ^ ns))), some (vI (nI c)), L6, some (vI ((vwy (lsV (mm.1 54 0) w) ns nm c ns).1)), some (vI ((vwy (lsV (mm.1 54 0) w) ns nm c ns).2.1)), some (vI ((vwy (lsV (mm.1 54 0) w) ns nm c ns).2.2)), L10] [] (vlM N (o, trR t ns nm c ns, e))
                exact take (fun z => z.elim b152 (fun z => z.elim b156 (fun z => b160 z.1)))
              · -- 160: (vwy (lsV (mm.1 54 0) w) ns nm c ns).2.1 = (vlM N (o, trR t ns nm c ns, e)).1 12 0 28 on
                replace b160 : (vwy (lsV (mm.1 54 0) w) ns nm c ns).2.1 = (vlM N (o, trR t ns nm c ns, e)).1 12 0 28 := b160
                refine br_c (fun b164 => ?_) (fun b164 => ?_)
                · -- 164: (vwy (lsV (mm.1 54 0) w) ns nm c ns).2.2 < (vlM N (o, trR t ns nm c ns, e)).1 12 0 29 taken
                  replace b164 : (vwy (lsV (mm.1 54 0) w) ns nm c ns).2.2 < (vlM N (o, trR t ns nm c ns, e)).1 12 0 29 := b164
                  show X 166 [some (vR 12 0), some (vI w), some (vI (nI ns)), some (vI (nI nm)), some (vI (nI ((nm + 1) ^ ns))), some (vI (nI c)), L6, some (vI ((vwy (lsV (mm.1 54 0) w) ns nm c ns).1)), some (vI ((vwy (lsV (mm.1 54 0) w) ns nm c ns).2.1)), some (vI ((vwy (lsV (mm.1 54 0) w) ns nm c ns).2.2)), L10] [] (vlM N (o, trR t ns nm c ns, e))
                  exact take (fun z => z.elim b152 (fun z => z.elim b156 (fun z => z.2 b164)))
                · -- 164: (vwy (lsV (mm.1 54 0) w) ns nm c ns).2.2 < (vlM N (o, trR t ns nm c ns, e)).1 12 0 29 on
                  replace b164 : ¬ ((vwy (lsV (mm.1 54 0) w) ns nm c ns).2.2 < (vlM N (o, trR t ns nm c ns, e)).1 12 0 29) := b164
                  show X 187 [some (vR 12 0), some (vI w), some (vI (nI ns)), some (vI (nI nm)), some (vI (nI ((nm + 1) ^ ns))), some (vI (nI c)), L6, some (vI ((vwy (lsV (mm.1 54 0) w) ns nm c ns).1)), some (vI ((vwy (lsV (mm.1 54 0) w) ns nm c ns).2.1)), some (vI ((vwy (lsV (mm.1 54 0) w) ns nm c ns).2.2)), L10] [] (vlM N (o, trR t ns nm c ns, e))
                  exact skip (Or.inr (Or.inr ⟨b160, b164⟩)) _ _ _ _ _
        have dig : ∀ j, j ≤ ns → X 78 [some (vR 12 0), some (vI (w)), some (vI (nI ns)), some (vI (nI nm)), some (vI (nI ((nm + 1) ^ ns))), some (vI (nI c)), some (vI (nI (c / (nm + 1) ^ j))), some (vI ((vwy (lsV (mm.1 54 0) w) ns nm c j).1)), some (vI ((vwy (lsV (mm.1 54 0) w) ns nm c j).2.1)), some (vI ((vwy (lsV (mm.1 54 0) w) ns nm c j).2.2)), some (vI (dnI ns j))] [] (vlM N (o, trR t ns nm c j, e)) := by
          refine up_ind ns ?_ (fun j hj ihj => ?_)
          ·
            show X 78 [some (vR 12 0), some (vI w), some (vI (nI ns)), some (vI (nI nm)), some (vI (nI ((nm + 1) ^ ns))), some (vI (nI c)), some (vI (nI (c / (nm + 1) ^ ns))), some (vI ((vwy (lsV (mm.1 54 0) w) ns nm c ns).1)), some (vI ((vwy (lsV (mm.1 54 0) w) ns nm c ns).2.1)), some (vI ((vwy (lsV (mm.1 54 0) w) ns nm c ns).2.2)), some (vI (dnI ns ns))] [] (vlM N (o, trR t ns nm c ns, e))
            refine h (fun i => Nat.beq i 151) 3000 78 _ _ _ ?_
            refine br_t (dnI_n ns) ?_
            show X 151 [some (vR 12 0), some (vI w), some (vI (nI ns)), some (vI (nI nm)), some (vI (nI ((nm + 1) ^ ns))), some (vI (nI c)), some (vI (nI (c / (nm + 1) ^ ns))), some (vI ((vwy (lsV (mm.1 54 0) w) ns nm c ns).1)), some (vI ((vwy (lsV (mm.1 54 0) w) ns nm c ns).2.1)), some (vI ((vwy (lsV (mm.1 54 0) w) ns nm c ns).2.2)), some (vI (dnI ns ns))] [] (vlM N (o, trR t ns nm c ns, e))
            exact done _ _
          · rw [← dnI_s hj, dnI_in hj] at ihj
            rw [dnI_in hj]
            have hcj : c / (nm + 1) ^ j ≤ c := Nat.div_le_self _ _
            have er : nI (c / (nm + 1) ^ j) - nI (c / (nm + 1) ^ j) / (nI nm + 1) * (nI nm + 1) = nI (dgt nm c j) := by
              rw [nI_1]; exact nIrm (by omega) (by omega) (by omega)
            have eq : nI (c / (nm + 1) ^ j) / (nI nm + 1) = nI (c / (nm + 1) ^ (j + 1)) := by
              rw [nI_1, nIdv (by omega) (by omega) (by omega), Nat.div_div_eq_div_mul, Nat.pow_succ]
            have hd : dgt nm c j < nm + 1 := Nat.mod_lt _ (by omega)
            have eT : trR t ns nm c (j + 1) (nI (ns - 1 - j)).toNatClampNeg = nI (dgt nm c j) := by rw [nI_clamp (by omega)]; exact upd_eq
            have eT2 : upd (trR t ns nm c j) (ns - 1 - j) (nI (dgt nm c j)) = trR t ns nm c (j + 1) := rfl
            have hv : vwy (lsV (mm.1 54 0) w) ns nm c (j + 1) = if dgt nm c j = nm then vwy (lsV (mm.1 54 0) w) ns nm c j else ((vwy (lsV (mm.1 54 0) w) ns nm c j).1 ||| 1 <<< (nI (dgt nm c j) &&& 31), (if inS (vwy (lsV (mm.1 54 0) w) ns nm c j).1 (nI (dgt nm c j)) ∨ lsV (mm.1 54 0) w (ns - 1 - j) (dgt nm c j) = 1000000 then -9 else (vwy (lsV (mm.1 54 0) w) ns nm c j).2.1) + 1, (vwy (lsV (mm.1 54 0) w) ns nm c j).2.2 + lsV (mm.1 54 0) w (ns - 1 - j) (dgt nm c j)) := rfl
            generalize trR t ns nm c (j + 1) = U at *
            generalize dgt nm c j = d at *
            generalize vwy (lsV (mm.1 54 0) w) ns nm c j = v at *
            generalize vwy (lsV (mm.1 54 0) w) ns nm c (j + 1) = v' at *
            generalize c / (nm + 1) ^ (j + 1) = c' at *
            obtain ⟨s, hs⟩ : ∃ s, s = ns - 1 - j := ⟨_, rfl⟩
            rw [← hs] at eT eT2 hv ihj ⊢
            have es : (nI s).toNatClampNeg = s := nI_clamp (by omega)
            have next : v' = v' → ∀ p, p = v' → X 149 [some (vR 12 0), some (vI (w)), some (vI (nI ns)), some (vI (nI nm)), some (vI (nI ((nm + 1) ^ ns))), some (vI (nI c)), some (vI (nI c')), some (vI (p.1)), some (vI (p.2.1)), some (vI (p.2.2)), some (vI (nI s))] [] (vlM N (o, U, e)) := by
              intro _ p hp
              subst hp
              show X 149 [some (vR 12 0), some (vI w), some (vI (nI ns)), some (vI (nI nm)), some (vI (nI ((nm + 1) ^ ns))), some (vI (nI c)), some (vI (nI c')), some (vI p.1), some (vI p.2.1), some (vI p.2.2), some (vI (nI s))] [] (vlM N (o, U, e))
              refine h (fun i => Nat.beq i 78) 3000 149 _ _ _ ?_
              show X 78 [some (vR 12 0), some (vI w), some (vI (nI ns)), some (vI (nI nm)), some (vI (nI ((nm + 1) ^ ns))), some (vI (nI c)), some (vI (nI c')), some (vI p.1), some (vI p.2.1), some (vI p.2.2), some (vI ((nI s) + (-1)))] [] (vlM N (o, U, e))
              exact ihj
            have mid : X 89 [some (vR 12 0), some (vI (w)), some (vI (nI ns)), some (vI (nI nm)), some (vI (nI ((nm + 1) ^ ns))), some (vI (nI c)), some (vI (nI (c / (nm + 1) ^ j))), some (vI (v.1)), some (vI (v.2.1)), some (vI (v.2.2)), some (vI (nI s))] [] (vlM N (o, U, e)) := by
              by_cases hdn : d = nm
              · rw [if_pos hdn] at hv
                show X 89 [some (vR 12 0), some (vI w), some (vI (nI ns)), some (vI (nI nm)), some (vI (nI ((nm + 1) ^ ns))), some (vI (nI c)), some (vI (nI (c / (nm + 1) ^ j))), some (vI v.1), some (vI v.2.1), some (vI v.2.2), some (vI (nI s))] [] (vlM N (o, U, e))
                refine h (fun i => Nat.beq i 149) 3000 89 _ _ _ ?_
                refine And.intro (by rw [nI_1]; exact nI_ne0 (by omega) (by omega)) ?_
                refine And.intro (inb_o 4 rfl rfl rfl (by omega)) ?_
                refine brn_f (eT.trans (congrArg nI hdn)) ?_
                show X 149 [some (vR 12 0), some (vI w), some (vI (nI ns)), some (vI (nI nm)), some (vI (nI ((nm + 1) ^ ns))), some (vI (nI c)), some (vI ((nI (c / (nm + 1) ^ j)) / ((nI nm) + 1))), some (vI v.1), some (vI v.2.1), some (vI v.2.2), some (vI (nI s))] [] (vlM N (o, U, e))
                rw [eq]
                exact next rfl v hv.symm
              · rw [if_neg hdn] at hv
                have hdm : d < nm := by omega
                have hl : N.1 63 0 (4 * s + d) = lsV (mm.1 54 0) w s d := hL s d (by omega) hdm
                have x1 : 4 * nI s + U (nI s).toNatClampNeg = nI (4 * s + d) := by rw [eT]; simp (disch := omega) only [li, pk_mul, nI_add, nI_clamp]
                have x2 : (4 * nI s + U (nI s).toNatClampNeg).toNatClampNeg = 4 * s + d := by rw [x1, nI_clamp (by omega)]
                have n1 : ¬ U (nI s).toNatClampNeg = nI nm := fun z => hdn ((nI_eq (by omega) (by omega)).mp (eT.symm.trans z))
                have fin : ∀ g, g = (if inS v.1 (nI d) ∨ lsV (mm.1 54 0) w s d = 1000000 then -9 else v.2.1) → X 125 [some (vR 12 0), some (vI (w)), some (vI (nI ns)), some (vI (nI nm)), some (vI (nI ((nm + 1) ^ ns))), some (vI (nI c)), some (vI (nI c')), some (vI (v.1)), some (vI (g)), some (vI (v.2.2)), some (vI (nI s))] [] (vlM N (o, U, e)) := by
                  intro g hg
                  show X 125 [some (vR 12 0), some (vI w), some (vI (nI ns)), some (vI (nI nm)), some (vI (nI ((nm + 1) ^ ns))), some (vI (nI c)), some (vI (nI c')), some (vI v.1), some (vI g), some (vI v.2.2), some (vI (nI s))] [] (vlM N (o, U, e))
                  refine h (fun i => Nat.beq i 149) 3000 125 _ _ _ ?_
                  refine And.intro (inb_o 4 rfl rfl rfl (by omega)) ?_
                  refine And.intro (inb_o 4 rfl rfl rfl (by omega)) ?_
                  refine And.intro (inb_o 16 rfl rfl x1 (by omega)) ?_
                  show X 149 [some (vR 12 0), some (vI w), some (vI (nI ns)), some (vI (nI nm)), some (vI (nI ((nm + 1) ^ ns))), some (vI (nI c)), some (vI (nI c')), some (vI (v.1 ||| (1 <<< (((vlM N (o, U, e)).1 64 0 (nI s).toNatClampNeg) &&& 31)))), some (vI (g + 1)), some (vI (v.2.2 + ((vlM N (o, U, e)).1 63 0 ((4 * (nI s)) + ((vlM N (o, U, e)).1 64 0 (nI s).toNatClampNeg)).toNatClampNeg))), some (vI (nI s))] [] (vlM N (o, U, e))
                  show X 149 [some (vR 12 0), some (vI w), some (vI (nI ns)), some (vI (nI nm)), some (vI (nI ((nm + 1) ^ ns))), some (vI (nI c)), some (vI (nI c')), some (vI (v.1 ||| 1 <<< (U (nI s).toNatClampNeg &&& 31))), some (vI (g + 1)), some (vI (v.2.2 + N.1 63 0 (4 * nI s + U (nI s).toNatClampNeg).toNatClampNeg)), some (vI (nI s))] [] (vlM N (o, U, e))
                  rw [x2, hl, eT] 
                  exact next rfl (_, _, _) (by rw [hv, hg])
                show X 89 [some (vR 12 0), some (vI w), some (vI (nI ns)), some (vI (nI nm)), some (vI (nI ((nm + 1) ^ ns))), some (vI (nI c)), some (vI (nI (c / (nm + 1) ^ j))), some (vI v.1), some (vI v.2.1), some (vI v.2.2), some (vI (nI s))] [] (vlM N (o, U, e))
                refine h (fun i => Nat.beq i 125) 3000 89 _ _ _ ?_
                refine And.intro (by rw [nI_1]; exact nI_ne0 (by omega) (by omega)) ?_
                refine And.intro (inb_o 4 rfl rfl rfl (by omega)) ?_
                refine brn_t (n1) ?_
                refine And.intro (inb_o 4 rfl rfl rfl (by omega)) ?_
                refine And.intro ⟨_, _, rfl⟩ ?_
                refine brn_c (fun b109 => ?_) (fun b109 => ?_)
                · -- 109: bI (inS v.1 ((vlM N (o, U, e)).1 64 0 (nI s).toNatClampNeg)) = 0 taken
                  replace b109 : inS v.1 ((vlM N (o, U, e)).1 64 0 (nI s).toNatClampNeg) := bI_n0.mp b109
                  replace b109 : inS v.1 (U (nI s).toNatClampNeg) := b109
                  rw [eT] at b109
                  show X 125 [some (vR 12 0), some (vI w), some (vI (nI ns)), some (vI (nI nm)), some (vI (nI ((nm + 1) ^ ns))), some (vI (nI c)), some (vI ((nI (c / (nm + 1) ^ j)) / ((nI nm) + 1))), some (vI v.1), some (vI (-9)), some (vI v.2.2), some (vI (nI s))] [] (vlM N (o, U, e))
                  rw [eq]
                  exact fin _ (if_pos (Or.inl b109)).symm
                · -- 109: bI (inS v.1 ((vlM N (o, U, e)).1 64 0 (nI s).toNatClampNeg)) = 0 on
                  replace b109 : ¬ (inS v.1 ((vlM N (o, U, e)).1 64 0 (nI s).toNatClampNeg)) := bI_0.mp b109
                  replace b109 : ¬ inS v.1 (U (nI s).toNatClampNeg) := b109
                  rw [eT] at b109
                  refine And.intro (inb_o 4 rfl rfl rfl (by omega)) ?_
                  refine And.intro (inb_o 16 rfl rfl x1 (by omega)) ?_
                  refine brn_c (fun b122 => ?_) (fun b122 => ?_)
                  · -- 122: (vlM N (o, U, e)).1 63 0 ((4 * (nI s)) + ((vlM N (o, U, e)).1 64 0 (nI s).toNatClampNeg)).toNatClampNeg = 1000000 taken
                    replace b122 : ¬ ((vlM N (o, U, e)).1 63 0 ((4 * (nI s)) + ((vlM N (o, U, e)).1 64 0 (nI s).toNatClampNeg)).toNatClampNeg = 1000000) := b122
                    replace b122 : ¬ N.1 63 0 (4 * nI s + U (nI s).toNatClampNeg).toNatClampNeg = 1000000 := b122
                    rw [x2, hl] at b122
                    show X 125 [some (vR 12 0), some (vI w), some (vI (nI ns)), some (vI (nI nm)), some (vI (nI ((nm + 1) ^ ns))), some (vI (nI c)), some (vI ((nI (c / (nm + 1) ^ j)) / ((nI nm) + 1))), some (vI v.1), some (vI v.2.1), some (vI v.2.2), some (vI (nI s))] [] (vlM N (o, U, e))
                    rw [eq]
                    first | exact fin _ (if_pos (Or.inr b122)).symm | exact fin _ (if_neg (fun z => z.elim b109 b122)).symm
                  · -- 122: (vlM N (o, U, e)).1 63 0 ((4 * (nI s)) + ((vlM N (o, U, e)).1 64 0 (nI s).toNatClampNeg)).toNatClampNeg = 1000000 on
                    replace b122 : (vlM N (o, U, e)).1 63 0 ((4 * (nI s)) + ((vlM N (o, U, e)).1 64 0 (nI s).toNatClampNeg)).toNatClampNeg = 1000000 := b122
                    replace b122 : N.1 63 0 (4 * nI s + U (nI s).toNatClampNeg).toNatClampNeg = 1000000 := b122
                    rw [x2, hl] at b122
                    show X 125 [some (vR 12 0), some (vI w), some (vI (nI ns)), some (vI (nI nm)), some (vI (nI ((nm + 1) ^ ns))), some (vI (nI c)), some (vI ((nI (c / (nm + 1) ^ j)) / ((nI nm) + 1))), some (vI v.1), some (vI (-9)), some (vI v.2.2), some (vI (nI s))] [] (vlM N (o, U, e))
                    rw [eq]
                    first | exact fin _ (if_pos (Or.inr b122)).symm | exact fin _ (if_neg (fun z => z.elim b109 b122)).symm
            show X 78 [some (vR 12 0), some (vI w), some (vI (nI ns)), some (vI (nI nm)), some (vI (nI ((nm + 1) ^ ns))), some (vI (nI c)), some (vI (nI (c / (nm + 1) ^ j))), some (vI v.1), some (vI v.2.1), some (vI v.2.2), some (vI (nI s))] [] (vlM N (o, trR t ns nm c j, e))
            refine h (fun i => Nat.beq i 89) 3000 78 _ _ _ ?_
            refine br_f (nI_pos (by omega)) ?_
            refine And.intro (by rw [nI_1]; exact nI_ne0 (by omega) (by omega)) ?_
            refine And.intro (inb_o 4 rfl rfl rfl (by omega)) ?_
            show X 89 [some (vR 12 0), some (vI w), some (vI (nI ns)), some (vI (nI nm)), some (vI (nI ((nm + 1) ^ ns))), some (vI (nI c)), some (vI (nI (c / (nm + 1) ^ j))), some (vI v.1), some (vI v.2.1), some (vI v.2.2), some (vI (nI s))] [] (mRow (vlM N (o, trR t ns nm c j, e)) 64 0 (upd ((vlM N (o, trR t ns nm c j, e)).1 64 0) (nI s).toNatClampNeg ((nI (c / (nm + 1) ^ j)) - (nI (c / (nm + 1) ^ j)) / ((nI nm) + 1) * ((nI nm) + 1))))
            rw [er, es]
            show X 89 _ _ (mRow (vlM N (o, trR t ns nm c j, e)) 64 0 (upd (trR t ns nm c j) s (nI d))) 
            rw [vl_t, eT2] 
            exact mid
        show X 63 [some (vR 12 0), some (vI w), some (vI (nI ns)), some (vI (nI nm)), some (vI (nI ((nm + 1) ^ ns))), some (vI (nI c)), L6, L7, L8, L9, L10] [] (vlM N (o, t, e))
        refine h (fun i => Nat.beq i 78) 3000 63 _ _ _ ?_
        refine br_f (nI_ge hc (by omega)) ?_
        show X 78 [some (vR 12 0), some (vI w), some (vI (nI ns)), some (vI (nI nm)), some (vI (nI ((nm + 1) ^ ns))), some (vI (nI c)), some (vI (nI c)), some (vI 0), some (vI 0), some (vI 0), some (vI ((nI ns) - 1))] [] (vlM N (o, t, e))
        rw [dnI_0]
        have := dig 0 (by omega) 
        rw [Nat.pow_zero, Nat.div_one] at this 
        exact this
    show X 61 [some (vR 12 0), some (vI w), some (vI (nI ns)), some (vI (nI nm)), some (vI (nI ((nm + 1) ^ ns))), some (vI q), none, none, none, none, none] [] (vlM N (upd (mm.1 12 0) 28 (-1), mm.1 64 0, mm.1 65 0))
    refine h (fun i => Nat.beq i 63) 3000 61 _ _ _ ?_
    show X 63 [some (vR 12 0), some (vI w), some (vI (nI ns)), some (vI (nI nm)), some (vI (nI ((nm + 1) ^ ns))), some (vI 0), none, none, none, none, none] [] (vlM N (upd (mm.1 12 0) 28 (-1), mm.1 64 0, mm.1 65 0))
    exact loop 0 (by omega) none none none none none
  -- how many ways
  have part1 : ∀ L5, X 43 [some (vR 12 0), some (vI (w)), some (vI (nI ns)), some (vI (nI nm)), some (vI (nI ns)), L5, none, none, none, none, none] [] (lvO mm w nm ns) := by
    intro L5
    obtain ⟨g1, g2, g3⟩ := lvO_ne mm w nm hnm4 ns
    have p2 := part2 (lvO mm w nm ns) g3 rfl
    have eM : mI (lvO mm w nm ns) 12 0 28 (-1) = vlM (lvO mm w nm ns) (upd (mm.1 12 0) 28 (-1), mm.1 64 0, mm.1 65 0) := by
      have := vl_o (lvO mm w nm ns) ((lvO mm w nm ns).1 12 0) ((lvO mm w nm ns).1 64 0) ((lvO mm w nm ns).1 65 0) (upd (mm.1 12 0) 28 (-1))
      rw [vl_self, g2 64 0 (by decide) (by decide), g2 65 0 (by decide) (by decide)] at this
      rw [← this]
      show mRow _ 12 0 (upd ((lvO mm w nm ns).1 12 0) 28 (-1)) = _
      rw [g2 12 0 (by decide) (by decide)]
    clear g1 g2 g3
    generalize lvO mm w nm ns = N at *
    rw [← eM] at p2
    have loop : ∀ t, t ≤ ns → X 50 [some (vR 12 0), some (vI (w)), some (vI (nI ns)), some (vI (nI nm)), some (vI (nI ((nm + 1) ^ t))), some (vI (nI t)), none, none, none, none, none] [] (mI N 12 0 28 (-1)) := by
      refine up_ind ns ?_ (fun t ht ih => ?_)
      ·
        show X 50 [some (vR 12 0), some (vI w), some (vI (nI ns)), some (vI (nI nm)), some (vI (nI ((nm + 1) ^ ns))), some (vI (nI ns)), none, none, none, none, none] [] (mI N 12 0 28 (-1))
        refine h (fun i => Nat.beq i 61) 3000 50 _ _ _ ?_
        refine br_t (nI_le (by omega) (by omega)) ?_
        show X 61 [some (vR 12 0), some (vI w), some (vI (nI ns)), some (vI (nI nm)), some (vI (nI ((nm + 1) ^ ns))), some (vI (nI ns)), none, none, none, none, none] [] (mI N 12 0 28 (-1))
        exact p2 _
      · have e : nI ((nm + 1) ^ t) * (nI nm + 1) = nI ((nm + 1) ^ (t + 1)) := by rw [nI_1, pk_mul, Nat.pow_succ]
        show X 50 [some (vR 12 0), some (vI w), some (vI (nI ns)), some (vI (nI nm)), some (vI (nI ((nm + 1) ^ t))), some (vI (nI t)), none, none, none, none, none] [] (mI N 12 0 28 (-1))
        refine h (fun i => Nat.beq i 50) 3000 50 _ _ _ ?_
        refine br_f (nI_ge ht (by omega)) ?_
        show X 50 [some (vR 12 0), some (vI w), some (vI (nI ns)), some (vI (nI nm)), some (vI ((nI ((nm + 1) ^ t)) * ((nI nm) + 1))), some (vI ((nI t) + 1)), none, none, none, none, none] [] (mI N 12 0 28 (-1))
        rw [e, nI_1]
        exact ih
    show X 43 [some (vR 12 0), some (vI w), some (vI (nI ns)), some (vI (nI nm)), some (vI (nI ns)), L5, none, none, none, none, none] [] N
    refine h (fun i => Nat.beq i 50) 3000 43 _ _ _ ?_
    show X 50 [some (vR 12 0), some (vI w), some (vI (nI ns)), some (vI (nI nm)), some (vI 1), some (vI 0), none, none, none, none, none] [] (mI N 12 0 28 (-1))
    exact loop 0 (by omega)
  -- the losses
  have part0 : ∀ s, s ≤ ns → ∀ L5, X 12 [some (vR 12 0), some (vI (w)), some (vI (nI ns)), some (vI (nI nm)), some (vI (nI s)), L5, none, none, none, none, none] [] (lvO mm w nm s) := by
    refine up_ind ns ?_ (fun s hs ih => ?_)
    · intro L5
      show X 12 [some (vR 12 0), some (vI w), some (vI (nI ns)), some (vI (nI nm)), some (vI (nI ns)), L5, none, none, none, none, none] [] (lvO mm w nm ns)
      refine h (fun i => Nat.beq i 43) 3000 12 _ _ _ ?_
      refine br_t (nI_le (by omega) (by omega)) ?_
      show X 43 [some (vR 12 0), some (vI w), some (vI (nI ns)), some (vI (nI nm)), some (vI (nI ns)), L5, none, none, none, none, none] [] (lvO mm w nm ns)
      exact part1 _
    · intro L5
      obtain ⟨-, g2, -⟩ := lvO_ne mm w nm hnm4 s
      replace g2 := g2 54 0 (by decide) (by decide)
      rw [lvO] at ih
      generalize lvO mm w nm s = Q at *
      have es : (nI s).toNatClampNeg = s := nI_clamp (by omega)
      have inner : ∀ k, k ≤ nm → X 17 [some (vR 12 0), some (vI (w)), some (vI (nI ns)), some (vI (nI nm)), some (vI (nI s)), some (vI (nI k)), none, none, none, none, none] [] (lvI Q w s k) := by
        refine up_ind nm ?_ (fun k hk ihk => ?_)
        ·
          show X 17 [some (vR 12 0), some (vI w), some (vI (nI ns)), some (vI (nI nm)), some (vI (nI s)), some (vI (nI nm)), none, none, none, none, none] [] (lvI Q w s nm)
          refine h (fun i => Nat.beq i 12) 3000 17 _ _ _ ?_
          refine br_t (nI_le (by omega) (by omega)) ?_
          show X 12 [some (vR 12 0), some (vI w), some (vI (nI ns)), some (vI (nI nm)), some (vI ((nI s) + 1)), some (vI (nI nm)), none, none, none, none, none] [] (lvI Q w s nm)
          rw [nI_1]
          exact ih _
        · have ek : (nI k).toNatClampNeg = k := nI_clamp (by omega)
          have x1 : 4 * nI s + nI k = nI (4 * s + k) := by simp (disch := omega) only [li, pk_mul, nI_add, nI_clamp]
          have x2 : (4 * nI s + nI k).toNatClampNeg = 4 * s + k := by simp (disch := omega) only [li, pk_mul, nI_add, nI_clamp]
          obtain ⟨-, q2, -⟩ := lvI_ne Q w s k
          replace q2 := q2 54 0 (by decide) (by decide)
          rw [lvI] at ihk
          generalize lvI Q w s k = R at *
          rw [g2] at q2 ihk
          rw [q2] at ihk
          have hVM : VM R := ⟨ns, nm, n, by show VA (R.1 54 0) ns nm n; rw [q2]; exact hV⟩
          have hHM : HSo (R.1 54 0) := by rw [q2]; exact hH
          have st : ∀ S v, mRow S 63 0 (upd (S.1 63 0) (4 * s + k) v) = mRow (mite (mm.1 54 0 (15 + 4 * s) = -1) (lyM R s k) R) 63 0 (upd ((mite (mm.1 54 0 (15 + 4 * s) = -1) (lyM R s k) R).1 63 0) (4 * s + k) (lsV (mm.1 54 0) w s k)) → X 38 [some (vR 12 0), some (vI (w)), some (vI (nI ns)), some (vI (nI nm)), some (vI (nI s)), some (vI (nI k)), none, none, none, none, none] [vI (v), vI (4 * nI s + nI k), vR 63 0] (S) := by
            intro S v ev
            show X 38 [some (vR 12 0), some (vI w), some (vI (nI ns)), some (vI (nI nm)), some (vI (nI s)), some (vI (nI k)), none, none, none, none, none] [vI v, vI (4 * nI s + nI k), vR 63 0] S
            refine h (fun i => Nat.beq i 17) 3000 38 _ _ _ ?_
            refine And.intro (inb_o 16 rfl rfl (show 4 * nI s + nI k = nI (4 * s + k) by simp (disch := omega) only [li, pk_mul, nI_add, nI_clamp]) (by omega)) ?_
            show X 17 [some (vR 12 0), some (vI w), some (vI (nI ns)), some (vI (nI nm)), some (vI (nI s)), some (vI ((nI k) + 1)), none, none, none, none, none] [] (mRow S 63 0 (upd (S.1 63 0) (4 * nI s + nI k).toNatClampNeg v))
            rw [nI_1, x2, ev]
            exact ihk
          show X 17 [some (vR 12 0), some (vI w), some (vI (nI ns)), some (vI (nI nm)), some (vI (nI s)), some (vI (nI k)), none, none, none, none, none] [] R
          refine h (fun i => Nat.beq i 38) 3000 17 _ _ _ ?_
          refine br_f (nI_ge hk (by omega)) ?_
          refine And.intro ⟨s, by omega, rfl⟩ ?_
          refine br_c (fun b30 => ?_) (fun b30 => ?_)
          · -- 30: bI (¬ R.1 54 0 (15 + 4 * (nI s).toNatClampNeg) = -1) = 0 taken
            replace b30 : ¬ (¬ R.1 54 0 (15 + 4 * (nI s).toNatClampNeg) = -1) := bI_0.mp b30
            rw [es] at b30
            rw [q2] at b30
            replace b30 := Decidable.not_not.mp b30
            refine And.intro ⟨hVM, hHM, s, k, w, by omega, by omega, rfl⟩ ?_
            show X 38 [some (vR 12 0), some (vI w), some (vI (nI ns)), some (vI (nI nm)), some (vI (nI s)), some (vI (nI k)), none, none, none, none, none] [vI (lyA (R.1 54 0) (nI s).toNatClampNeg (nI k).toNatClampNeg w), vI ((4 * (nI s)) + (nI k)), vR 63 0] (lyM R (nI s).toNatClampNeg (nI k).toNatClampNeg)
            rw [es]
            rw [ek]
            first | (rw [q2]; refine st _ _ ?_; unfold lsV; rw [mite_t b30, if_pos b30]; done) | (refine st _ _ ?_; unfold lsV; rw [mite_f b30, if_neg b30]; done)
          · -- 30: bI (¬ R.1 54 0 (15 + 4 * (nI s).toNatClampNeg) = -1) = 0 on
            replace b30 : ¬ R.1 54 0 (15 + 4 * (nI s).toNatClampNeg) = -1 := bI_n0.mp b30
            rw [es] at b30
            rw [q2] at b30
            show X 38 [some (vR 12 0), some (vI w), some (vI (nI ns)), some (vI (nI nm)), some (vI (nI s)), some (vI (nI k)), none, none, none, none, none] [vI 1000000, vI ((4 * (nI s)) + (nI k)), vR 63 0] R
            first | (rw [q2]; refine st _ _ ?_; unfold lsV; rw [mite_t b30, if_pos b30]; done) | (refine st _ _ ?_; unfold lsV; rw [mite_f b30, if_neg b30]; done)
      show X 12 [some (vR 12 0), some (vI w), some (vI (nI ns)), some (vI (nI nm)), some (vI (nI s)), L5, none, none, none, none, none] [] Q
      refine h (fun i => Nat.beq i 17) 3000 12 _ _ _ ?_
      refine br_f (nI_ge hs (by omega)) ?_
      show X 17 [some (vR 12 0), some (vI w), some (vI (nI ns)), some (vI (nI nm)), some (vI (nI s)), some (vI 0), none, none, none, none, none] [] Q
      exact inner 0 (by omega)
  show X 0 [some (vR 12 0), some (vI w), none, none, none, none, none, none, none, none, none] [] mm
  refine h (fun i => Nat.beq i 12) 3000 0 _ _ _ ?_
  refine And.intro rfl ?_
  refine And.intro rfl ?_
  show X 12 [some (vR 12 0), some (vI w), some (vI (mm.1 54 0 0)), some (vI (mm.1 54 0 1)), some (vI 0), none, none, none, none, none, none] [] mm
  rw [hns, hnm]
  exact part0 0 (by omega) none
theorem con_X12_laysVillage (l : Launch) : CON l y_X12_laysVillage prog_14_method_127_code 11 none rm_X12_laysVillage Pre_X12_laysVillage Fn_X12_laysVillage := CON_of (by decide) rfl rfl (sa_X12_laysVillage l) vc_X12_laysVillage
