/-! PART 93: the class: couples of a tray, those who are asked -/

noncomputable section
theorem ldP_in {v : Int64} {n : Nat} (hn : n ≤ 4) (h : ldP v (nI n)) : v.toInt32 = -1 ∨ ∃ k, k < n ∧ v.toInt32 = nI k := by
  obtain ⟨h1, h2⟩ := h
  rw [lg_cmp_lt] at h1 h2
  rw [nI_l (by omega)] at h2
  by_cases hz : v < 0
  · left
    have : v = -1 := by
      rw [Int64.lt_iff_toInt_lt] at h1 hz
      apply Int64.toInt_inj.mp
      have e1 : (-1 : Int64).toInt = -1 := by decide
      have e0 : (0 : Int64).toInt = 0 := by decide
      omega
    rw [this]; decide
  · right
    obtain ⟨k, hk, rfl⟩ := pk_lOf hz
    refine ⟨k, ?_, lN_i k⟩
    rw [Int64.lt_iff_toInt_lt, pk_lT hk, pk_lT (show n < _ by omega)] at h2
    omega
/-- who has whom alone moved -/
def SM13 (m m' : MM) : Prop := (∀ k g, k ≠ 13 → m'.1 k g = m.1 k g) ∧ m'.2 = m.2
theorem SM13_r (m : MM) : SM13 m m := ⟨fun _ _ _ => rfl, rfl⟩
theorem SM13_t {a b c : MM} (h : SM13 a b) (h' : SM13 b c) : SM13 a c := ⟨fun k g z => (h'.1 k g z).trans (h.1 k g z), h'.2.trans h.2⟩
theorem SM13_R {a : MM} {f : Nat → Int32} : SM13 a (mRow a 13 0 f) := ⟨fun _ _ z => if_neg (fun y => z y.1), rfl⟩
theorem ldG_ok {T : Nat → Int64} {b : Int32} : ∀ k s seen m, SM13 m (ldG T b k s seen m).2 ∧ ((ldG T b k s seen m).1 = true → (∀ i, i < s → (ldG T b k s seen m).2.1 13 0 i = m.1 13 0 i) ∧ ∀ i, s ≤ i → i < s + k → ldP (T i) b ∧ (ldG T b k s seen m).2.1 13 0 i = (T i).toInt32)
  | 0, s, seen, m => ⟨SM13_r m, fun _ => ⟨fun _ _ => rfl, fun i h1 h2 => by omega⟩⟩
  | k + 1, s, seen, m => by
    rw [ldG]
    have hN : SM13 m (mRow m 13 0 (upd (m.1 13 0) s (T s).toInt32)) := SM13_R
    have eN : (mRow m 13 0 (upd (m.1 13 0) s (T s).toInt32)).1 13 0 = upd (m.1 13 0) s (T s).toInt32 := mRow_row _ _ _ _
    revert hN eN
    generalize mRow m 13 0 (upd (m.1 13 0) s (T s).toInt32) = N
    intro hN eN
    have on : ∀ seen', ldP (T s) b → SM13 m (ldG T b k (s + 1) seen' N).2 ∧ ((ldG T b k (s + 1) seen' N).1 = true → (∀ i, i < s → (ldG T b k (s + 1) seen' N).2.1 13 0 i = m.1 13 0 i) ∧ ∀ i, s ≤ i → i < s + (k + 1) → ldP (T i) b ∧ (ldG T b k (s + 1) seen' N).2.1 13 0 i = (T i).toInt32) := by
      intro seen' c
      obtain ⟨h1, h2⟩ := ldG_ok k (s + 1) seen' N (b := b) (T := T)
      refine ⟨SM13_t hN h1, fun t => ?_⟩
      obtain ⟨h3, h4⟩ := h2 t
      refine ⟨fun i hi => ?_, fun i hi hi2 => ?_⟩
      · rw [h3 i (by omega), eN, upd_ne (by omega)]
      · by_cases e : i = s
        · rw [e, h3 s (by omega), eN, upd_eq]
          exact ⟨c, rfl⟩
        · exact h4 i (by omega) (by omega)
    split
    · rename_i c
      split
      · exact on _ c
      · split
        · exact ⟨hN, fun t => absurd t Bool.false_ne_true⟩
        · exact on _ c
    · exact ⟨SM13_r m, fun t => absurd t Bool.false_ne_true⟩
def cl_ld (m : MM) (x : Int32) : PR := ldG (m.2.1 28 x.toNatClampNeg) (m.1 6 (m.2.2 0) 14) (m.1 6 (m.2.2 0) 13).toNatClampNeg 0 0 m
def cl_cs (m : MM) (x : Int32) : Int32 × MM := if cl_rs m x = 0 then (if (cl_ld m x).1 = true then 0 else 5, (cl_ld m x).2) else (cl_rs m x, m)
theorem rs_in {m : MM} {x : Int32} (h : cl_rs m x = 0) : ∃ i, i < 4 ∧ x = nI i := by
  unfold cl_rs at h
  split at h
  · exact absurd h (by decide)
  · rename_i c
    exact ou_in (A := 4) (n := 4) rfl (by decide) c

--tpl ⟨_, _, _, by assumption, _, rfl⟩ || (cl_cs {m} {1}).1 || (cl_cs {m} {1}).2
def Pre_X11_couplesStatus : PreT := fun m as => ∃ ns nm nt, VN m ns nm nt ∧ ∃ x : Int32, as = [vR 11 0, vI x]
def Fn_X11_couplesStatus : FnT := fun m as => match as with
  | [_, Sum.inl x] => (some (vI (cl_cs m x).1), (cl_cs m x).2)
  | _ => (none, m)
abbrev y_X11_couplesStatus : MethodName := ⟨"GivenUp", "couplesStatus", "(I)I"⟩
def P_X11_couplesStatus : List StpT := [s_aload 0, s_iload 1, s_callV 11 1 Pre_X11_rowStatus Fn_X11_rowStatus, s_istore 2, s_iload 2, s_ifeq 8, s_iload 2, s_iret, s_aload 0, s_getC 11 7 0 0, s_aload 0, s_getR 11 0 50, s_iload 1, s_aald4 5 0, s_aload 0, s_getD 11 12 6 0, s_callV 0 2 Pre_X0_load Fn_X0_load, s_ifeq 20, s_ic (0), s_goto 21, s_ic (5), s_iret]
def pc_X11_couplesStatus : Nat → Nat := fun i => [0, 1, 2, 5, 6, 7, 10, 11, 12, 13, 16, 17, 20, 21, 22, 23, 26, 29, 32, 33, 36, 37].getD i 0
def dl_X11_couplesStatus : List (Nat × Instr × Nat) := [(0, .aload_n 0, 1), (1, .iload_n 1, 1), (2, .invokevirtual 417, 3), (5, .istore_n 2, 1), (6, .iload_n 2, 1), (7, .ifCond .eq 5, 3), (10, .iload_n 2, 1), (11, .ireturn, 1), (12, .aload_n 0, 1), (13, .getfield 63, 3), (16, .aload_n 0, 1), (17, .getfield 11, 3), (20, .iload_n 1, 1), (21, .aaload, 1), (22, .aload_n 0, 1), (23, .getfield 87, 3), (26, .invokevirtual 451, 3), (29, .ifCond .eq 7, 3), (32, .iconst 0, 1), (33, .goto 4, 3), (36, .iconst 5, 1), (37, .ireturn, 1)]
theorem dc_X11_couplesStatus : DEC prog_1_method_75_code pc_X11_couplesStatus dl_X11_couplesStatus := DEC_of (by decide +kernel)
abbrev rm_X11_couplesStatus : Room := { frames := 2, cells := 0, slots := 0, locals := 47 }
set_option maxRecDepth 20000 in
theorem sa_X11_couplesStatus (l : Launch) : SNDALL l prog_1_method_75_code "GivenUp" 3 (some .int) rm_X11_couplesStatus P_X11_couplesStatus pc_X11_couplesStatus := fun p e s m args below meth c cells slots Q D dA ad A RR hC hR => by
  have hM := RTX_room (R := rm_X11_couplesStatus) hR
  exact ⟨st_aload_n hC (n := 0) (k := 0) (dc_X11_couplesStatus 0 (0, .aload_n 0, 1) rfl rfl) rfl rfl,
    st_iload_n hC (n := 1) (k := 1) (dc_X11_couplesStatus 1 (1, .iload_n 1, 1) rfl rfl) rfl rfl,
    st_callV hC (n := 2) (k := 11) (na := 1) (con_X11_rowStatus l) (dc_X11_couplesStatus 2 (2, .invokevirtual 417, 3) rfl rfl) rfl wd_1376 wd_143 (by decide) ⟨rfl, rfl, by decide, by decide⟩ hM wd_1373 wd_1375 wd_38 clf_11,
    st_istore_n hC (n := 3) (k := 2) (dc_X11_couplesStatus 3 (5, .istore_n 2, 1) rfl rfl) rfl rfl (by decide),
    st_iload_n hC (n := 4) (k := 2) (dc_X11_couplesStatus 4 (6, .iload_n 2, 1) rfl rfl) rfl rfl,
    st_ifeq hC (n := 5) (dc_X11_couplesStatus 5 (7, .ifCond .eq 5, 3) rfl rfl) rfl (by decide),
    st_iload_n hC (n := 6) (k := 2) (dc_X11_couplesStatus 6 (10, .iload_n 2, 1) rfl rfl) rfl rfl,
    st_iret hC (n := 7) hR (dc_X11_couplesStatus 7 (11, .ireturn, 1) rfl rfl),
    st_aload_n hC (n := 8) (k := 0) (dc_X11_couplesStatus 8 (12, .aload_n 0, 1) rfl rfl) rfl rfl,
    st_getC hC (n := 9) (k := 11) (j := 7) (dc_X11_couplesStatus 9 (13, .getfield 63, 3) rfl rfl) rfl clf_11 (by decide) rfl (by decide) wd_718,
    st_aload_n hC (n := 10) (k := 0) (dc_X11_couplesStatus 10 (16, .aload_n 0, 1) rfl rfl) rfl rfl,
    st_getR hC (n := 11) (k := 11) (j := 0) (dc_X11_couplesStatus 11 (17, .getfield 11, 3) rfl rfl) rfl clf_11 (by decide) rfl (by decide) wd_711,
    st_iload_n hC (n := 12) (k := 1) (dc_X11_couplesStatus 12 (20, .iload_n 1, 1) rfl rfl) rfl rfl,
    st_aald4 hC (n := 13) (dc_X11_couplesStatus 13 (21, .aaload, 1) rfl rfl) rfl aald4_ok,
    st_aload_n hC (n := 14) (k := 0) (dc_X11_couplesStatus 14 (22, .aload_n 0, 1) rfl rfl) rfl rfl,
    st_getD hC (n := 15) (k := 11) (j := 12) (dc_X11_couplesStatus 15 (23, .getfield 87, 3) rfl rfl) rfl clf_11 (by decide) rfl (by decide) wd_723,
    st_callV hC (n := 16) (k := 0) (na := 2) (con_X0_load l) (dc_X11_couplesStatus 16 (26, .invokevirtual 451, 3) rfl rfl) rfl wd_1380 wd_153 (by decide) ⟨rfl, rfl, by decide, by decide⟩ hM wd_1377 wd_1378 wd_1379 clf_0,
    st_ifeq hC (n := 17) (dc_X11_couplesStatus 17 (29, .ifCond .eq 7, 3) rfl rfl) rfl (by decide),
    st_iconst hC (n := 18) (x := 0) (dc_X11_couplesStatus 18 (32, .iconst 0, 1) rfl rfl) rfl (by decide),
    st_goto hC (n := 19) (dc_X11_couplesStatus 19 (33, .goto 4, 3) rfl rfl) (by decide),
    st_iconst hC (n := 20) (x := 5) (dc_X11_couplesStatus 20 (36, .iconst 5, 1) rfl rfl) rfl (by decide),
    st_iret hC (n := 21) hR (dc_X11_couplesStatus 21 (37, .ireturn, 1) rfl rfl), trivial⟩
set_option maxRecDepth 8000 in
theorem vc_X11_couplesStatus : VC P_X11_couplesStatus 3 Pre_X11_couplesStatus Fn_X11_couplesStatus := by
  rintro mm as hom hoa ⟨ns, nm, nt, hV, x, rfl⟩
  refine ⟨Nat.le_of_ble_eq_true rfl, fun X h => ?_⟩
  have hS : mm.1 6 (mm.2.2 0) 13 = nI ns := hV.1.1.1
  have hn4 : ns ≤ 4 := hV.1.1.2
  replace h : RUN P_X11_couplesStatus (RI (cl_cs mm x)) X := h
  obtain ⟨p, hp⟩ : ∃ p, p = cl_cs mm x := ⟨_, rfl⟩
  rw [← hp] at h
  unfold cl_cs at hp
  obtain ⟨q, hq⟩ : ∃ q, q = cl_ld mm x := ⟨_, rfl⟩
  rw [← hq] at hp
  unfold cl_ld at hq
  have z0 : ∀ q : Nat, 0 + q = q := Nat.zero_add
  have s17 : cl_rs mm x = 0 → X 17 [some (vR 11 0), some (vI (x)), some (vI (0))] [vI (bI (q.1 = true))] (q.2) := by
    intro c
    rw [if_pos c] at hp
    by_cases t : q.1 = true
    · rw [if_pos t] at hp
      rw [show bI (q.1 = true) = 1 from if_pos t]
      revert hp
      generalize q.2 = M
      intro hp
      show X 17 [some (vR 11 0), some (vI x), some (vI 0)] [vI 1] M
      refine h (fun _ => false) 3000 17 _ _ _ ?_
      refine br_f (show ¬ (1 = 0) from by decide) ?_
      show ((some (vI 0) : Option MV), M) = _
      exact pI_q hp
    · rw [if_neg t] at hp
      rw [show bI (q.1 = true) = 0 from if_neg t]
      revert hp
      generalize q.2 = M
      intro hp
      show X 17 [some (vR 11 0), some (vI x), some (vI 0)] [vI 0] M
      refine h (fun _ => false) 3000 17 _ _ _ ?_
      refine br_t (show 0 = 0 from by decide) ?_
      show ((some (vI 5) : Option MV), M) = _
      exact pI_q hp
  show X 0 [some (vR 11 0), some (vI x), none] [] mm
  refine h (fun i => Nat.beq i 17) 3000 0 _ _ _ ?_
  refine And.intro (show Pre_X11_rowStatus mm [vR 11 0, vI x] from ⟨_, rfl⟩) ?_
  refine br_c (fun b5 => ?_) (fun b5 => ?_)
  · -- 5: cl_rs mm x = 0 taken
    replace b5 : cl_rs mm x = 0 := b5
    (try simp only [z0] at b5)
    obtain ⟨i, hi, ex⟩ := rs_in b5
    refine And.intro (show inb x (alen 50) = true from (inb_o 4 rfl rfl ex (by omega))) ?_
    refine And.intro (show Pre_X0_load mm [vR 0 0, vR 5 (0 + x.toNatClampNeg), vR 6 (mm.2.2 0)] from ⟨_, _, ns, hS, hn4, rfl⟩) ?_
    show X 17 [some (vR 11 0), some (vI x), some (vI (cl_rs mm x))] [vI (bI ((ldG (mm.2.1 28 (0 + x.toNatClampNeg)) (mm.1 6 (mm.2.2 0) 14) (mm.1 6 (mm.2.2 0) 13).toNatClampNeg 0 0 mm).1 = true))] ((ldG (mm.2.1 28 (0 + x.toNatClampNeg)) (mm.1 6 (mm.2.2 0) 14) (mm.1 6 (mm.2.2 0) 13).toNatClampNeg 0 0 mm).2)
    (try simp only [z0])
    rw [← hq, b5]
    exact s17 b5
  · -- 5: cl_rs mm x = 0 on
    replace b5 : ¬ (cl_rs mm x = 0) := b5
    (try simp only [z0] at b5)
    show ((some (vI (cl_rs mm x)) : Option MV), mm) = _
    (try simp only [z0])
    exact pI_q (by rw [hp, if_neg b5])
theorem con_X11_couplesStatus (l : Launch) : CON l y_X11_couplesStatus prog_1_method_75_code 3 (some .int) rm_X11_couplesStatus Pre_X11_couplesStatus Fn_X11_couplesStatus := CON_of (by decide) rfl rfl (sa_X11_couplesStatus l) vc_X11_couplesStatus
theorem SM13_V {m M : MM} {ns nm nt : Nat} (h : SM13 m M) (hV : VN m ns nm nt) : VN M ns nm nt := by
  unfold VN
  rw [h.2]
  exact VC2_c (abV_c (fun k hk => h.1 k _ (by omega))) hV
theorem cs_ok {m : MM} {x : Int32} {ns nm nt : Nat} (hV : VN m ns nm nt) : SM13 m (cl_cs m x).2 ∧ ((cl_cs m x).1 = 0 → ∀ s, s < ns → ((cl_cs m x).2.1 13 0 s = -1 ∨ ∃ k, k < 4 ∧ (cl_cs m x).2.1 13 0 s = nI k)) := by
  have hS : m.1 6 (m.2.2 0) 13 = nI ns := hV.1.1.1
  have hn4 : ns ≤ 4 := hV.1.1.2
  have hN : m.1 6 (m.2.2 0) 14 = nI nm := hV.1.2.1.1
  have hm4 : nm ≤ 4 := hV.1.2.1.2
  unfold cl_cs cl_ld
  rw [hS, hN, nI_clamp (show ns < 2 ^ 31 by omega)]
  split
  · obtain ⟨h1, h2⟩ := ldG_ok (T := m.2.1 28 x.toNatClampNeg) (b := nI nm) ns 0 0 m
    refine ⟨h1, fun t s hs => ?_⟩
    dsimp only at t
    split at t
    · rename_i c
      obtain ⟨h3, h4⟩ := (h2 c).2 s (Nat.zero_le _) (by omega)
      rw [h4]
      exact (ldP_in hm4 h3).imp id (fun ⟨k, hk, e⟩ => ⟨k, by omega, e⟩)
    · exact absurd t (by decide)
  · rename_i c
    exact ⟨SM13_r m, fun t => absurd t c⟩
def cl_bo1 (m : MM) : Option MV × MM := gvC m (m.1 0 0 3)
def cl_bolts (m : MM) (x : Int32) : Option MV × MM := if (cl_cs m x).1 = 0 then cl_bo1 (sbM (cl_cs m x).2 ((cl_cs m x).2.2.2 0)) else rfC (cl_cs m x).2 (cl_cs m x).1

def Pre_X11_bolts : PreT := fun m as => VNx m ∧ ∃ x : Int32, as = [vR 11 0, vI x]
def Fn_X11_bolts : FnT := fun m as => match as with
  | [_, Sum.inl x] => cl_bolts m x
  | _ => (none, m)
abbrev y_X11_bolts : MethodName := ⟨"GivenUp", "bolts", "(I)I"⟩
def P_X11_bolts : List StpT := [s_aload 0, s_iload 1, s_callV 11 1 Pre_X11_couplesStatus Fn_X11_couplesStatus, s_istore 2, s_iload 2, s_ifeq 10, s_aload 0, s_iload 2, s_callV 11 1 Pre_X11_refuse Fn_X11_refuse, s_iret, s_aload 0, s_getC 11 7 0 0, s_aload 0, s_getD 11 12 6 0, s_callV 0 1 Pre_X0_seekBolters Fn_X0_seekBolters, s_aload 0, s_aload 0, s_getC 11 7 0 0, s_getI 0 3, s_callV 11 1 Pre_X11_answer Fn_X11_answer, s_iret]
def pc_X11_bolts : Nat → Nat := fun i => [0, 1, 2, 5, 6, 7, 10, 11, 12, 15, 16, 17, 20, 21, 24, 27, 28, 29, 32, 35, 38].getD i 0
def dl_X11_bolts : List (Nat × Instr × Nat) := [(0, .aload_n 0, 1), (1, .iload_n 1, 1), (2, .invokevirtual 394, 3), (5, .istore_n 2, 1), (6, .iload_n 2, 1), (7, .ifCond .eq 9, 3), (10, .aload_n 0, 1), (11, .iload_n 2, 1), (12, .invokevirtual 139, 3), (15, .ireturn, 1), (16, .aload_n 0, 1), (17, .getfield 63, 3), (20, .aload_n 0, 1), (21, .getfield 87, 3), (24, .invokevirtual 397, 3), (27, .aload_n 0, 1), (28, .aload_n 0, 1), (29, .getfield 63, 3), (32, .getfield 401, 3), (35, .invokevirtual 178, 3), (38, .ireturn, 1)]
theorem dc_X11_bolts : DEC prog_1_method_47_code pc_X11_bolts dl_X11_bolts := DEC_of (by decide +kernel)
abbrev rm_X11_bolts : Room := { frames := 4, cells := 0, slots := 0, locals := 95 }
set_option maxRecDepth 20000 in
theorem sa_X11_bolts (l : Launch) : SNDALL l prog_1_method_47_code "GivenUp" 3 (some .int) rm_X11_bolts P_X11_bolts pc_X11_bolts := fun p e s m args below meth c cells slots Q D dA ad A RR hC hR => by
  have hM := RTX_room (R := rm_X11_bolts) hR
  exact ⟨st_aload_n hC (n := 0) (k := 0) (dc_X11_bolts 0 (0, .aload_n 0, 1) rfl rfl) rfl rfl,
    st_iload_n hC (n := 1) (k := 1) (dc_X11_bolts 1 (1, .iload_n 1, 1) rfl rfl) rfl rfl,
    st_callV hC (n := 2) (k := 11) (na := 1) (con_X11_couplesStatus l) (dc_X11_bolts 2 (2, .invokevirtual 394, 3) rfl rfl) rfl wd_1372 wd_143 (by decide) ⟨rfl, rfl, by decide, by decide⟩ hM wd_1369 wd_1371 wd_37 clf_11,
    st_istore_n hC (n := 3) (k := 2) (dc_X11_bolts 3 (5, .istore_n 2, 1) rfl rfl) rfl rfl (by decide),
    st_iload_n hC (n := 4) (k := 2) (dc_X11_bolts 4 (6, .iload_n 2, 1) rfl rfl) rfl rfl,
    st_ifeq hC (n := 5) (dc_X11_bolts 5 (7, .ifCond .eq 9, 3) rfl rfl) rfl (by decide),
    st_aload_n hC (n := 6) (k := 0) (dc_X11_bolts 6 (10, .aload_n 0, 1) rfl rfl) rfl rfl,
    st_iload_n hC (n := 7) (k := 2) (dc_X11_bolts 7 (11, .iload_n 2, 1) rfl rfl) rfl rfl,
    st_callV hC (n := 8) (k := 11) (na := 1) (con_X11_refuse l) (dc_X11_bolts 8 (12, .invokevirtual 139, 3) rfl rfl) rfl wd_824 wd_143 (by decide) ⟨rfl, rfl, by decide, by decide⟩ hM wd_821 wd_823 wd_3 clf_11,
    st_iret hC (n := 9) hR (dc_X11_bolts 9 (15, .ireturn, 1) rfl rfl),
    st_aload_n hC (n := 10) (k := 0) (dc_X11_bolts 10 (16, .aload_n 0, 1) rfl rfl) rfl rfl,
    st_getC hC (n := 11) (k := 11) (j := 7) (dc_X11_bolts 11 (17, .getfield 63, 3) rfl rfl) rfl clf_11 (by decide) rfl (by decide) wd_718,
    st_aload_n hC (n := 12) (k := 0) (dc_X11_bolts 12 (20, .aload_n 0, 1) rfl rfl) rfl rfl,
    st_getD hC (n := 13) (k := 11) (j := 12) (dc_X11_bolts 13 (21, .getfield 87, 3) rfl rfl) rfl clf_11 (by decide) rfl (by decide) wd_723,
    st_callV hC (n := 14) (k := 0) (na := 1) (con_X0_seekBolters l) (dc_X11_bolts 14 (24, .invokevirtual 397, 3) rfl rfl) rfl wd_1386 wd_153 (by decide) ⟨rfl, rfl, by decide, by decide⟩ hM wd_1383 wd_1384 wd_1385 clf_0,
    st_aload_n hC (n := 15) (k := 0) (dc_X11_bolts 15 (27, .aload_n 0, 1) rfl rfl) rfl rfl,
    st_aload_n hC (n := 16) (k := 0) (dc_X11_bolts 16 (28, .aload_n 0, 1) rfl rfl) rfl rfl,
    st_getC hC (n := 17) (k := 11) (j := 7) (dc_X11_bolts 17 (29, .getfield 63, 3) rfl rfl) rfl clf_11 (by decide) rfl (by decide) wd_718,
    st_getI hC (n := 18) (k := 0) (j := 3) (dc_X11_bolts 18 (32, .getfield 401, 3) rfl rfl) rfl clf_0 (by decide) rfl wd_409,
    st_callV hC (n := 19) (k := 11) (na := 1) (con_X11_answer l) (dc_X11_bolts 19 (35, .invokevirtual 178, 3) rfl rfl) rfl wd_967 wd_143 (by decide) ⟨rfl, rfl, by decide, by decide⟩ hM wd_964 wd_966 wd_17 clf_11,
    st_iret hC (n := 20) hR (dc_X11_bolts 20 (38, .ireturn, 1) rfl rfl), trivial⟩
set_option maxRecDepth 8000 in
theorem vc_X11_bolts : VC P_X11_bolts 3 Pre_X11_bolts Fn_X11_bolts := by
  rintro mm as hom hoa ⟨⟨ns, nm, nt, hV⟩, x, rfl⟩
  refine ⟨Nat.le_of_ble_eq_true rfl, fun X h => ?_⟩
  obtain ⟨R, eR⟩ : ∃ R, R = cl_bolts mm x := ⟨_, rfl⟩
  replace h : RUN P_X11_bolts (fun r m' => (r, m') = cl_bolts mm x) X := h
  rw [← eR] at h
  unfold cl_bolts at eR
  obtain ⟨h1, h2⟩ := cs_ok (x := x) hV
  obtain ⟨q, hq⟩ : ∃ q, q = cl_cs mm x := ⟨_, rfl⟩
  rw [← hq] at eR h1 h2
  have hV2 := SM13_V h1 hV
  have s15 : ∀ M, R = cl_bo1 M → X 15 [some (vR 11 0), some (vI (x)), some (vI (q.1))] [] (M) := by
    intro M hR
    show X 15 [some (vR 11 0), some (vI x), some (vI q.1)] [] M
    refine h (fun _ => false) 3000 15 _ _ _ ?_
    refine And.intro (show Pre_X11_answer M [vR 11 0, vI (M.1 0 0 3)] from ⟨_, rfl⟩) ?_
    show ((some (vI (M.1 0 0 3)) : Option MV), stC M 0) = _
    exact hR.symm
  have s3 : X 3 [some (vR 11 0), some (vI (x)), none] [vI (q.1)] (q.2) := by
    show X 3 [some (vR 11 0), some (vI x), none] [vI q.1] q.2
    refine h (fun i => Nat.beq i 15) 3000 3 _ _ _ ?_
    refine br_c (fun b5 => ?_) (fun b5 => ?_)
    · -- 5: q.1 = 0 taken
      replace b5 : q.1 = 0 := b5
      refine And.intro (show Pre_X0_seekBolters q.2 [vR 0 0, vR 6 ((q.2).2.2 0)] from ⟨_, ns, nm, nt, hV2, h2 b5, rfl⟩) ?_
      show X 15 [some (vR 11 0), some (vI x), some (vI q.1)] [] (sbM (q.2) ((q.2).2.2 0))
      rw [if_pos b5] at eR
      exact s15 _ eR
    · -- 5: q.1 = 0 on
      replace b5 : ¬ (q.1 = 0) := b5
      refine And.intro (show Pre_X11_refuse q.2 [vR 11 0, vI q.1] from ⟨_, rfl⟩) ?_
      show ((some (vI (-1)) : Option MV), stC (q.2) q.1) = _
      rw [eR, if_neg b5]
      rfl
  show X 0 [some (vR 11 0), some (vI x), none] [] mm
  refine h (fun i => Nat.beq i 3) 3000 0 _ _ _ ?_
  refine And.intro (show Pre_X11_couplesStatus mm [vR 11 0, vI x] from ⟨ns, nm, nt, hV, _, rfl⟩) ?_
  show X 3 [some (vR 11 0), some (vI x), none] [vI ((cl_cs mm x).1)] ((cl_cs mm x).2)
  rw [← hq]
  exact s3
theorem con_X11_bolts (l : Launch) : CON l y_X11_bolts prog_1_method_47_code 3 (some .int) rm_X11_bolts Pre_X11_bolts Fn_X11_bolts := CON_of (by decide) rfl rfl (sa_X11_bolts l) vc_X11_bolts
def cl_br1 (m : MM) (w : Int32) : Option MV × MM := onC m (if w = 0 then m.1 0 0 4 else m.1 0 0 5)
def cl_bolter (m : MM) (x w : Int32) : Option MV × MM := if w < 0 then rfC m 1 else if w ≤ 1 then (if (cl_cs m x).1 = 0 then cl_br1 (sbM (cl_cs m x).2 ((cl_cs m x).2.2.2 0)) w else rfC (cl_cs m x).2 (cl_cs m x).1) else rfC m 1

def Pre_X11_bolter : PreT := fun m as => VNx m ∧ ∃ x w : Int32, as = [vR 11 0, vI x, vI w]
def Fn_X11_bolter : FnT := fun m as => match as with
  | [_, Sum.inl x, Sum.inl w] => cl_bolter m x w
  | _ => (none, m)
abbrev y_X11_bolter : MethodName := ⟨"GivenUp", "bolter", "(II)I"⟩
def P_X11_bolter : List StpT := [s_iload 2, s_iflt 5, s_iload 2, s_ic (1), s_icle 9, s_aload 0, s_ic (1), s_callV 11 1 Pre_X11_refuse Fn_X11_refuse, s_iret, s_aload 0, s_iload 1, s_callV 11 1 Pre_X11_couplesStatus Fn_X11_couplesStatus, s_istore 3, s_iload 3, s_ifeq 19, s_aload 0, s_iload 3, s_callV 11 1 Pre_X11_refuse Fn_X11_refuse, s_iret, s_aload 0, s_getC 11 7 0 0, s_aload 0, s_getD 11 12 6 0, s_callV 0 1 Pre_X0_seekBolters Fn_X0_seekBolters, s_aload 0, s_iload 2, s_ifne 31, s_aload 0, s_getC 11 7 0 0, s_getI 0 4, s_goto 34, s_aload 0, s_getC 11 7 0 0, s_getI 0 5, s_callV 11 1 Pre_X11_answerOrNone Fn_X11_answerOrNone, s_iret]
def pc_X11_bolter : Nat → Nat := fun i => [0, 1, 4, 5, 6, 9, 10, 11, 14, 15, 16, 17, 20, 21, 22, 25, 26, 27, 30, 31, 32, 35, 36, 39, 42, 43, 44, 47, 48, 51, 54, 57, 58, 61, 64, 67].getD i 0
def dl_X11_bolter : List (Nat × Instr × Nat) := [(0, .iload_n 2, 1), (1, .ifCond .lt 8, 3), (4, .iload_n 2, 1), (5, .iconst 1, 1), (6, .if_icmp .le 9, 3), (9, .aload_n 0, 1), (10, .iconst 1, 1), (11, .invokevirtual 139, 3), (14, .ireturn, 1), (15, .aload_n 0, 1), (16, .iload_n 1, 1), (17, .invokevirtual 394, 3), (20, .istore_n 3, 1), (21, .iload_n 3, 1), (22, .ifCond .eq 9, 3), (25, .aload_n 0, 1), (26, .iload_n 3, 1), (27, .invokevirtual 139, 3), (30, .ireturn, 1), (31, .aload_n 0, 1), (32, .getfield 63, 3), (35, .aload_n 0, 1), (36, .getfield 87, 3), (39, .invokevirtual 397, 3), (42, .aload_n 0, 1), (43, .iload_n 2, 1), (44, .ifCond .ne 13, 3), (47, .aload_n 0, 1), (48, .getfield 63, 3), (51, .getfield 404, 3), (54, .goto 10, 3), (57, .aload_n 0, 1), (58, .getfield 63, 3), (61, .getfield 407, 3), (64, .invokevirtual 249, 3), (67, .ireturn, 1)]
theorem dc_X11_bolter : DEC prog_1_method_48_code pc_X11_bolter dl_X11_bolter := DEC_of (by decide +kernel)
abbrev rm_X11_bolter : Room := { frames := 4, cells := 0, slots := 0, locals := 95 }
set_option maxRecDepth 20000 in
theorem sa_X11_bolter (l : Launch) : SNDALL l prog_1_method_48_code "GivenUp" 4 (some .int) rm_X11_bolter P_X11_bolter pc_X11_bolter := fun p e s m args below meth c cells slots Q D dA ad A RR hC hR => by
  have hM := RTX_room (R := rm_X11_bolter) hR
  exact ⟨st_iload_n hC (n := 0) (k := 2) (dc_X11_bolter 0 (0, .iload_n 2, 1) rfl rfl) rfl rfl,
    st_iflt hC (n := 1) (dc_X11_bolter 1 (1, .ifCond .lt 8, 3) rfl rfl) rfl (by decide),
    st_iload_n hC (n := 2) (k := 2) (dc_X11_bolter 2 (4, .iload_n 2, 1) rfl rfl) rfl rfl,
    st_iconst hC (n := 3) (x := 1) (dc_X11_bolter 3 (5, .iconst 1, 1) rfl rfl) rfl (by decide),
    st_icle hC (n := 4) (dc_X11_bolter 4 (6, .if_icmp .le 9, 3) rfl rfl) rfl (by decide),
    st_aload_n hC (n := 5) (k := 0) (dc_X11_bolter 5 (9, .aload_n 0, 1) rfl rfl) rfl rfl,
    st_iconst hC (n := 6) (x := 1) (dc_X11_bolter 6 (10, .iconst 1, 1) rfl rfl) rfl (by decide),
    st_callV hC (n := 7) (k := 11) (na := 1) (con_X11_refuse l) (dc_X11_bolter 7 (11, .invokevirtual 139, 3) rfl rfl) rfl wd_824 wd_143 (by decide) ⟨rfl, rfl, by decide, by decide⟩ hM wd_821 wd_823 wd_3 clf_11,
    st_iret hC (n := 8) hR (dc_X11_bolter 8 (14, .ireturn, 1) rfl rfl),
    st_aload_n hC (n := 9) (k := 0) (dc_X11_bolter 9 (15, .aload_n 0, 1) rfl rfl) rfl rfl,
    st_iload_n hC (n := 10) (k := 1) (dc_X11_bolter 10 (16, .iload_n 1, 1) rfl rfl) rfl rfl,
    st_callV hC (n := 11) (k := 11) (na := 1) (con_X11_couplesStatus l) (dc_X11_bolter 11 (17, .invokevirtual 394, 3) rfl rfl) rfl wd_1372 wd_143 (by decide) ⟨rfl, rfl, by decide, by decide⟩ hM wd_1369 wd_1371 wd_37 clf_11,
    st_istore_n hC (n := 12) (k := 3) (dc_X11_bolter 12 (20, .istore_n 3, 1) rfl rfl) rfl rfl (by decide),
    st_iload_n hC (n := 13) (k := 3) (dc_X11_bolter 13 (21, .iload_n 3, 1) rfl rfl) rfl rfl,
    st_ifeq hC (n := 14) (dc_X11_bolter 14 (22, .ifCond .eq 9, 3) rfl rfl) rfl (by decide),
    st_aload_n hC (n := 15) (k := 0) (dc_X11_bolter 15 (25, .aload_n 0, 1) rfl rfl) rfl rfl,
    st_iload_n hC (n := 16) (k := 3) (dc_X11_bolter 16 (26, .iload_n 3, 1) rfl rfl) rfl rfl,
    st_callV hC (n := 17) (k := 11) (na := 1) (con_X11_refuse l) (dc_X11_bolter 17 (27, .invokevirtual 139, 3) rfl rfl) rfl wd_824 wd_143 (by decide) ⟨rfl, rfl, by decide, by decide⟩ hM wd_821 wd_823 wd_3 clf_11,
    st_iret hC (n := 18) hR (dc_X11_bolter 18 (30, .ireturn, 1) rfl rfl),
    st_aload_n hC (n := 19) (k := 0) (dc_X11_bolter 19 (31, .aload_n 0, 1) rfl rfl) rfl rfl,
    st_getC hC (n := 20) (k := 11) (j := 7) (dc_X11_bolter 20 (32, .getfield 63, 3) rfl rfl) rfl clf_11 (by decide) rfl (by decide) wd_718,
    st_aload_n hC (n := 21) (k := 0) (dc_X11_bolter 21 (35, .aload_n 0, 1) rfl rfl) rfl rfl,
    st_getD hC (n := 22) (k := 11) (j := 12) (dc_X11_bolter 22 (36, .getfield 87, 3) rfl rfl) rfl clf_11 (by decide) rfl (by decide) wd_723,
    st_callV hC (n := 23) (k := 0) (na := 1) (con_X0_seekBolters l) (dc_X11_bolter 23 (39, .invokevirtual 397, 3) rfl rfl) rfl wd_1386 wd_153 (by decide) ⟨rfl, rfl, by decide, by decide⟩ hM wd_1383 wd_1384 wd_1385 clf_0,
    st_aload_n hC (n := 24) (k := 0) (dc_X11_bolter 24 (42, .aload_n 0, 1) rfl rfl) rfl rfl,
    st_iload_n hC (n := 25) (k := 2) (dc_X11_bolter 25 (43, .iload_n 2, 1) rfl rfl) rfl rfl,
    st_ifne hC (n := 26) (dc_X11_bolter 26 (44, .ifCond .ne 13, 3) rfl rfl) rfl (by decide),
    st_aload_n hC (n := 27) (k := 0) (dc_X11_bolter 27 (47, .aload_n 0, 1) rfl rfl) rfl rfl,
    st_getC hC (n := 28) (k := 11) (j := 7) (dc_X11_bolter 28 (48, .getfield 63, 3) rfl rfl) rfl clf_11 (by decide) rfl (by decide) wd_718,
    st_getI hC (n := 29) (k := 0) (j := 4) (dc_X11_bolter 29 (51, .getfield 404, 3) rfl rfl) rfl clf_0 (by decide) rfl wd_411,
    st_goto hC (n := 30) (dc_X11_bolter 30 (54, .goto 10, 3) rfl rfl) (by decide),
    st_aload_n hC (n := 31) (k := 0) (dc_X11_bolter 31 (57, .aload_n 0, 1) rfl rfl) rfl rfl,
    st_getC hC (n := 32) (k := 11) (j := 7) (dc_X11_bolter 32 (58, .getfield 63, 3) rfl rfl) rfl clf_11 (by decide) rfl (by decide) wd_718,
    st_getI hC (n := 33) (k := 0) (j := 5) (dc_X11_bolter 33 (61, .getfield 407, 3) rfl rfl) rfl clf_0 (by decide) rfl wd_413,
    st_callV hC (n := 34) (k := 11) (na := 1) (con_X11_answerOrNone l) (dc_X11_bolter 34 (64, .invokevirtual 249, 3) rfl rfl) rfl wd_1047 wd_143 (by decide) ⟨rfl, rfl, by decide, by decide⟩ hM wd_1044 wd_1046 wd_23 clf_11,
    st_iret hC (n := 35) hR (dc_X11_bolter 35 (67, .ireturn, 1) rfl rfl), trivial⟩
set_option maxRecDepth 8000 in
theorem vc_X11_bolter : VC P_X11_bolter 4 Pre_X11_bolter Fn_X11_bolter := by
  rintro mm as hom hoa ⟨⟨ns, nm, nt, hV⟩, x, w, rfl⟩
  refine ⟨Nat.le_of_ble_eq_true rfl, fun X h => ?_⟩
  obtain ⟨R, eR⟩ : ∃ R, R = cl_bolter mm x w := ⟨_, rfl⟩
  replace h : RUN P_X11_bolter (fun r m' => (r, m') = cl_bolter mm x w) X := h
  rw [← eR] at h
  unfold cl_bolter at eR
  obtain ⟨h1, h2⟩ := cs_ok (x := x) hV
  obtain ⟨q, hq⟩ : ∃ q, q = cl_cs mm x := ⟨_, rfl⟩
  rw [← hq] at eR h1 h2
  have hV2 := SM13_V h1 hV
  have s24 : ∀ M, R = cl_br1 M w → X 24 [some (vR 11 0), some (vI (x)), some (vI (w)), some (vI (q.1))] [] (M) := by
    intro M hR
    unfold cl_br1 at hR
    show X 24 [some (vR 11 0), some (vI x), some (vI w), some (vI q.1)] [] M
    refine h (fun _ => false) 3000 24 _ _ _ ?_
    refine brn_c (fun b26 => ?_) (fun b26 => ?_)
    · -- 26: w = 0 taken
      replace b26 : ¬ (w = 0) := b26
      refine And.intro (show Pre_X11_answerOrNone M [vR 11 0, vI (M.1 0 0 5)] from ⟨_, rfl⟩) ?_
      show ((some (vI (if (M.1 0 0 5) < 0 then -1 else (M.1 0 0 5))) : Option MV), stC M (if (M.1 0 0 5) < 0 then 6 else 0)) = _
      rw [hR, if_neg b26]
      rfl
    · -- 26: w = 0 on
      replace b26 : w = 0 := b26
      refine And.intro (show Pre_X11_answerOrNone M [vR 11 0, vI (M.1 0 0 4)] from ⟨_, rfl⟩) ?_
      show ((some (vI (if (M.1 0 0 4) < 0 then -1 else (M.1 0 0 4))) : Option MV), stC M (if (M.1 0 0 4) < 0 then 6 else 0)) = _
      rw [hR, if_pos b26]
      rfl
  have s12 : ¬ w < 0 → w ≤ 1 → X 12 [some (vR 11 0), some (vI (x)), some (vI (w)), none] [vI (q.1)] (q.2) := by
    intro c1 c2
    rw [if_neg c1, if_pos c2] at eR
    show X 12 [some (vR 11 0), some (vI x), some (vI w), none] [vI q.1] q.2
    refine h (fun i => Nat.beq i 24) 3000 12 _ _ _ ?_
    refine br_c (fun b14 => ?_) (fun b14 => ?_)
    · -- 14: q.1 = 0 taken
      replace b14 : q.1 = 0 := b14
      refine And.intro (show Pre_X0_seekBolters q.2 [vR 0 0, vR 6 ((q.2).2.2 0)] from ⟨_, ns, nm, nt, hV2, h2 b14, rfl⟩) ?_
      show X 24 [some (vR 11 0), some (vI x), some (vI w), some (vI q.1)] [] (sbM (q.2) ((q.2).2.2 0))
      rw [if_pos b14] at eR
      exact s24 _ eR
    · -- 14: q.1 = 0 on
      replace b14 : ¬ (q.1 = 0) := b14
      refine And.intro (show Pre_X11_refuse q.2 [vR 11 0, vI q.1] from ⟨_, rfl⟩) ?_
      show ((some (vI (-1)) : Option MV), stC (q.2) q.1) = _
      rw [eR, if_neg b14]
      rfl
  show X 0 [some (vR 11 0), some (vI x), some (vI w), none] [] mm
  refine h (fun i => Nat.beq i 12) 3000 0 _ _ _ ?_
  refine br_c (fun b1 => ?_) (fun b1 => ?_)
  · -- 1: w < 0 taken
    replace b1 : w < 0 := b1
    refine And.intro (show Pre_X11_refuse mm [vR 11 0, vI 1] from ⟨_, rfl⟩) ?_
    show ((some (vI (-1)) : Option MV), stC mm 1) = _
    rw [eR, if_pos b1]
    rfl
  · -- 1: w < 0 on
    replace b1 : ¬ (w < 0) := b1
    refine br_c (fun b4 => ?_) (fun b4 => ?_)
    · -- 4: w ≤ 1 taken
      replace b4 : w ≤ 1 := b4
      refine And.intro (show Pre_X11_couplesStatus mm [vR 11 0, vI x] from ⟨ns, nm, nt, hV, _, rfl⟩) ?_
      show X 12 [some (vR 11 0), some (vI x), some (vI w), none] [vI ((cl_cs mm x).1)] ((cl_cs mm x).2)
      rw [← hq]
      exact s12 b1 b4
    · -- 4: w ≤ 1 on
      replace b4 : ¬ (w ≤ 1) := b4
      refine And.intro (show Pre_X11_refuse mm [vR 11 0, vI 1] from ⟨_, rfl⟩) ?_
      show ((some (vI (-1)) : Option MV), stC mm 1) = _
      rw [eR, if_neg b1, if_neg b4]
      rfl
theorem con_X11_bolter (l : Launch) : CON l y_X11_bolter prog_1_method_48_code 4 (some .int) rm_X11_bolter Pre_X11_bolter Fn_X11_bolter := CON_of (by decide) rfl rfl (sa_X11_bolter l) vc_X11_bolter
def cl_as1 (m : MM) (x : Int32) : Option MV × MM := onC m (m.1 15 0 x.toNatClampNeg)
def cl_asked (m : MM) (x : Int32) : Option MV × MM := if x < 0 ∨ m.1 6 (m.2.2 0) 13 ≤ x then rfC m 1 else cl_as1 (akM m (m.2.2 0)) x

def Pre_X11_asked : PreT := fun m as => VNx m ∧ ∃ x : Int32, as = [vR 11 0, vI x]
def Fn_X11_asked : FnT := fun m as => match as with
  | [_, Sum.inl x] => cl_asked m x
  | _ => (none, m)
abbrev y_X11_asked : MethodName := ⟨"GivenUp", "asked", "(I)I"⟩
def P_X11_asked : List StpT := [s_iload 1, s_aload 0, s_getD 11 12 6 0, s_getI 6 13, s_callS 2 Pre_X11_isOut Fn_X11_isOut, s_ifeq 10, s_aload 0, s_ic (1), s_callV 11 1 Pre_X11_refuse Fn_X11_refuse, s_iret, s_aload 0, s_getC 11 7 0 0, s_aload 0, s_getD 11 12 6 0, s_callV 0 1 Pre_X0_ask Fn_X0_ask, s_aload 0, s_aload 0, s_getC 11 7 0 0, s_getR 0 2 15, s_iload 1, s_iald, s_callV 11 1 Pre_X11_answerOrNone Fn_X11_answerOrNone, s_iret]
def pc_X11_asked : Nat → Nat := fun i => [0, 1, 2, 5, 8, 11, 14, 15, 16, 19, 20, 21, 24, 25, 28, 31, 32, 33, 36, 39, 40, 41, 44].getD i 0
def dl_X11_asked : List (Nat × Instr × Nat) := [(0, .iload_n 1, 1), (1, .aload_n 0, 1), (2, .getfield 87, 3), (5, .getfield 197, 3), (8, .invokestatic 115, 3), (11, .ifCond .eq 9, 3), (14, .aload_n 0, 1), (15, .iconst 1, 1), (16, .invokevirtual 139, 3), (19, .ireturn, 1), (20, .aload_n 0, 1), (21, .getfield 63, 3), (24, .aload_n 0, 1), (25, .getfield 87, 3), (28, .invokevirtual 410, 3), (31, .aload_n 0, 1), (32, .aload_n 0, 1), (33, .getfield 63, 3), (36, .getfield 413, 3), (39, .iload_n 1, 1), (40, .iaload, 1), (41, .invokevirtual 249, 3), (44, .ireturn, 1)]
theorem dc_X11_asked : DEC prog_1_method_49_code pc_X11_asked dl_X11_asked := DEC_of (by decide +kernel)
abbrev rm_X11_asked : Room := { frames := 5, cells := 0, slots := 0, locals := 120 }
set_option maxRecDepth 20000 in
theorem sa_X11_asked (l : Launch) : SNDALL l prog_1_method_49_code "GivenUp" 2 (some .int) rm_X11_asked P_X11_asked pc_X11_asked := fun p e s m args below meth c cells slots Q D dA ad A RR hC hR => by
  have hM := RTX_room (R := rm_X11_asked) hR
  exact ⟨st_iload_n hC (n := 0) (k := 1) (dc_X11_asked 0 (0, .iload_n 1, 1) rfl rfl) rfl rfl,
    st_aload_n hC (n := 1) (k := 0) (dc_X11_asked 1 (1, .aload_n 0, 1) rfl rfl) rfl rfl,
    st_getD hC (n := 2) (k := 11) (j := 12) (dc_X11_asked 2 (2, .getfield 87, 3) rfl rfl) rfl clf_11 (by decide) rfl (by decide) wd_723,
    st_getI hC (n := 3) (k := 6) (j := 13) (dc_X11_asked 3 (5, .getfield 197, 3) rfl rfl) rfl clf_6 (by decide) rfl wd_622,
    st_callS hC (n := 4) (na := 2) (con_X11_isOut l) (dc_X11_asked 4 (8, .invokestatic 115, 3) rfl rfl) rfl wd_790 wd_143 (by decide) ⟨rfl, rfl, by decide, by decide⟩ hM wd_788 wd_789,
    st_ifeq hC (n := 5) (dc_X11_asked 5 (11, .ifCond .eq 9, 3) rfl rfl) rfl (by decide),
    st_aload_n hC (n := 6) (k := 0) (dc_X11_asked 6 (14, .aload_n 0, 1) rfl rfl) rfl rfl,
    st_iconst hC (n := 7) (x := 1) (dc_X11_asked 7 (15, .iconst 1, 1) rfl rfl) rfl (by decide),
    st_callV hC (n := 8) (k := 11) (na := 1) (con_X11_refuse l) (dc_X11_asked 8 (16, .invokevirtual 139, 3) rfl rfl) rfl wd_824 wd_143 (by decide) ⟨rfl, rfl, by decide, by decide⟩ hM wd_821 wd_823 wd_3 clf_11,
    st_iret hC (n := 9) hR (dc_X11_asked 9 (19, .ireturn, 1) rfl rfl),
    st_aload_n hC (n := 10) (k := 0) (dc_X11_asked 10 (20, .aload_n 0, 1) rfl rfl) rfl rfl,
    st_getC hC (n := 11) (k := 11) (j := 7) (dc_X11_asked 11 (21, .getfield 63, 3) rfl rfl) rfl clf_11 (by decide) rfl (by decide) wd_718,
    st_aload_n hC (n := 12) (k := 0) (dc_X11_asked 12 (24, .aload_n 0, 1) rfl rfl) rfl rfl,
    st_getD hC (n := 13) (k := 11) (j := 12) (dc_X11_asked 13 (25, .getfield 87, 3) rfl rfl) rfl clf_11 (by decide) rfl (by decide) wd_723,
    st_callV hC (n := 14) (k := 0) (na := 1) (con_X0_ask l) (dc_X11_asked 14 (28, .invokevirtual 410, 3) rfl rfl) rfl wd_1403 wd_153 (by decide) ⟨rfl, rfl, by decide, by decide⟩ hM wd_1400 wd_1401 wd_1402 clf_0,
    st_aload_n hC (n := 15) (k := 0) (dc_X11_asked 15 (31, .aload_n 0, 1) rfl rfl) rfl rfl,
    st_aload_n hC (n := 16) (k := 0) (dc_X11_asked 16 (32, .aload_n 0, 1) rfl rfl) rfl rfl,
    st_getC hC (n := 17) (k := 11) (j := 7) (dc_X11_asked 17 (33, .getfield 63, 3) rfl rfl) rfl clf_11 (by decide) rfl (by decide) wd_718,
    st_getR hC (n := 18) (k := 0) (j := 2) (dc_X11_asked 18 (36, .getfield 413, 3) rfl rfl) rfl clf_0 (by decide) rfl (by decide) wd_407,
    st_iload_n hC (n := 19) (k := 1) (dc_X11_asked 19 (39, .iload_n 1, 1) rfl rfl) rfl rfl,
    st_iald hC (n := 20) (dc_X11_asked 20 (40, .iaload, 1) rfl rfl) rfl,
    st_callV hC (n := 21) (k := 11) (na := 1) (con_X11_answerOrNone l) (dc_X11_asked 21 (41, .invokevirtual 249, 3) rfl rfl) rfl wd_1047 wd_143 (by decide) ⟨rfl, rfl, by decide, by decide⟩ hM wd_1044 wd_1046 wd_23 clf_11,
    st_iret hC (n := 22) hR (dc_X11_asked 22 (44, .ireturn, 1) rfl rfl), trivial⟩
set_option maxRecDepth 8000 in
theorem vc_X11_asked : VC P_X11_asked 2 Pre_X11_asked Fn_X11_asked := by
  rintro mm as hom hoa ⟨⟨ns, nm, nt, hV⟩, x, rfl⟩
  refine ⟨Nat.le_of_ble_eq_true rfl, fun X h => ?_⟩
  have hS : mm.1 6 (mm.2.2 0) 13 = nI ns := hV.1.1.1
  have hn4 : ns ≤ 4 := hV.1.1.2
  have s15 : ∀ M, cl_asked mm x = cl_as1 M x → (∃ i, i < ns ∧ x = nI i) → X 15 [some (vR 11 0), some (vI (x))] [] (M) := by
    intro M hR ⟨i, hi, ex⟩
    show X 15 [some (vR 11 0), some (vI x)] [] M
    refine h (fun _ => false) 3000 15 _ _ _ ?_
    refine And.intro (show inb x (alen 15) = true from (inb_o 4 rfl rfl ex (by omega))) ?_
    refine And.intro (show Pre_X11_answerOrNone M [vR 11 0, vI (M.1 15 0 x.toNatClampNeg)] from ⟨_, rfl⟩) ?_
    show ((some (vI (if (M.1 15 0 x.toNatClampNeg) < 0 then -1 else (M.1 15 0 x.toNatClampNeg))) : Option MV), stC M (if (M.1 15 0 x.toNatClampNeg) < 0 then 6 else 0)) = _
    exact hR.symm
  show X 0 [some (vR 11 0), some (vI x)] [] mm
  refine h (fun i => Nat.beq i 15) 3000 0 _ _ _ ?_
  refine And.intro (show Pre_X11_isOut mm [vI x, vI (mm.1 6 (mm.2.2 0) 13)] from ⟨_, _, rfl⟩) ?_
  refine br_c (fun b5 => ?_) (fun b5 => ?_)
  · -- 5: bI (x < 0 ∨ (mm.1 6 (mm.2.2 0) 13) ≤ x) = 0 taken
    replace b5 : ¬ (x < 0 ∨ (mm.1 6 (mm.2.2 0) 13) ≤ x) := bI_0.mp b5
    obtain ⟨i, hi, ex⟩ := ou_in hS (by omega) b5
    refine And.intro (show Pre_X0_ask mm [vR 0 0, vR 6 (mm.2.2 0)] from ⟨_, ns, nm, nt, hV, rfl⟩) ?_
    show X 15 [some (vR 11 0), some (vI x)] [] (akM mm (mm.2.2 0))
    exact s15 _ (if_neg b5) ⟨i, hi, ex⟩
  · -- 5: bI (x < 0 ∨ (mm.1 6 (mm.2.2 0) 13) ≤ x) = 0 on
    replace b5 : x < 0 ∨ (mm.1 6 (mm.2.2 0) 13) ≤ x := bI_n0.mp b5
    refine And.intro (show Pre_X11_refuse mm [vR 11 0, vI 1] from ⟨_, rfl⟩) ?_
    show ((some (vI (-1)) : Option MV), stC mm 1) = _
    exact (if_pos b5).symm
theorem con_X11_asked (l : Launch) : CON l y_X11_asked prog_1_method_49_code 2 (some .int) rm_X11_asked Pre_X11_asked Fn_X11_asked := CON_of (by decide) rfl rfl (sa_X11_asked l) vc_X11_asked
def cl_rfs1 (m : MM) : Option MV × MM := gvC m (m.1 0 0 6)
def cl_refusals (m : MM) : Option MV × MM := cl_rfs1 (akM m (m.2.2 0))

def Pre_X11_refusals : PreT := fun m as => VNx m ∧ as = [vR 11 0]
def Fn_X11_refusals : FnT := fun m _ => cl_refusals m
abbrev y_X11_refusals : MethodName := ⟨"GivenUp", "refusals", "()I"⟩
def P_X11_refusals : List StpT := [s_aload 0, s_getC 11 7 0 0, s_aload 0, s_getD 11 12 6 0, s_callV 0 1 Pre_X0_ask Fn_X0_ask, s_aload 0, s_aload 0, s_getC 11 7 0 0, s_getI 0 6, s_callV 11 1 Pre_X11_answer Fn_X11_answer, s_iret]
def pc_X11_refusals : Nat → Nat := fun i => [0, 1, 4, 5, 8, 11, 12, 13, 16, 19, 22].getD i 0
def dl_X11_refusals : List (Nat × Instr × Nat) := [(0, .aload_n 0, 1), (1, .getfield 63, 3), (4, .aload_n 0, 1), (5, .getfield 87, 3), (8, .invokevirtual 410, 3), (11, .aload_n 0, 1), (12, .aload_n 0, 1), (13, .getfield 63, 3), (16, .getfield 414, 3), (19, .invokevirtual 178, 3), (22, .ireturn, 1)]
theorem dc_X11_refusals : DEC prog_1_method_50_code pc_X11_refusals dl_X11_refusals := DEC_of (by decide +kernel)
abbrev rm_X11_refusals : Room := { frames := 5, cells := 0, slots := 0, locals := 120 }
set_option maxRecDepth 20000 in
theorem sa_X11_refusals (l : Launch) : SNDALL l prog_1_method_50_code "GivenUp" 1 (some .int) rm_X11_refusals P_X11_refusals pc_X11_refusals := fun p e s m args below meth c cells slots Q D dA ad A RR hC hR => by
  have hM := RTX_room (R := rm_X11_refusals) hR
  exact ⟨st_aload_n hC (n := 0) (k := 0) (dc_X11_refusals 0 (0, .aload_n 0, 1) rfl rfl) rfl rfl,
    st_getC hC (n := 1) (k := 11) (j := 7) (dc_X11_refusals 1 (1, .getfield 63, 3) rfl rfl) rfl clf_11 (by decide) rfl (by decide) wd_718,
    st_aload_n hC (n := 2) (k := 0) (dc_X11_refusals 2 (4, .aload_n 0, 1) rfl rfl) rfl rfl,
    st_getD hC (n := 3) (k := 11) (j := 12) (dc_X11_refusals 3 (5, .getfield 87, 3) rfl rfl) rfl clf_11 (by decide) rfl (by decide) wd_723,
    st_callV hC (n := 4) (k := 0) (na := 1) (con_X0_ask l) (dc_X11_refusals 4 (8, .invokevirtual 410, 3) rfl rfl) rfl wd_1403 wd_153 (by decide) ⟨rfl, rfl, by decide, by decide⟩ hM wd_1400 wd_1401 wd_1402 clf_0,
    st_aload_n hC (n := 5) (k := 0) (dc_X11_refusals 5 (11, .aload_n 0, 1) rfl rfl) rfl rfl,
    st_aload_n hC (n := 6) (k := 0) (dc_X11_refusals 6 (12, .aload_n 0, 1) rfl rfl) rfl rfl,
    st_getC hC (n := 7) (k := 11) (j := 7) (dc_X11_refusals 7 (13, .getfield 63, 3) rfl rfl) rfl clf_11 (by decide) rfl (by decide) wd_718,
    st_getI hC (n := 8) (k := 0) (j := 6) (dc_X11_refusals 8 (16, .getfield 414, 3) rfl rfl) rfl clf_0 (by decide) rfl wd_415,
    st_callV hC (n := 9) (k := 11) (na := 1) (con_X11_answer l) (dc_X11_refusals 9 (19, .invokevirtual 178, 3) rfl rfl) rfl wd_967 wd_143 (by decide) ⟨rfl, rfl, by decide, by decide⟩ hM wd_964 wd_966 wd_17 clf_11,
    st_iret hC (n := 10) hR (dc_X11_refusals 10 (22, .ireturn, 1) rfl rfl), trivial⟩
set_option maxRecDepth 8000 in
theorem vc_X11_refusals : VC P_X11_refusals 1 Pre_X11_refusals Fn_X11_refusals := by
  rintro mm as hom hoa ⟨⟨ns, nm, nt, hV⟩, rfl⟩
  refine ⟨Nat.le_of_ble_eq_true rfl, fun X h => ?_⟩
  have s5 : ∀ M, cl_refusals mm = cl_rfs1 M → X 5 [some (vR 11 0)] [] (M) := by
    intro M hR
    show X 5 [some (vR 11 0)] [] M
    refine h (fun _ => false) 3000 5 _ _ _ ?_
    refine And.intro (show Pre_X11_answer M [vR 11 0, vI (M.1 0 0 6)] from ⟨_, rfl⟩) ?_
    show ((some (vI (M.1 0 0 6)) : Option MV), stC M 0) = _
    exact hR.symm
  show X 0 [some (vR 11 0)] [] mm
  refine h (fun i => Nat.beq i 5) 3000 0 _ _ _ ?_
  refine And.intro (show Pre_X0_ask mm [vR 0 0, vR 6 (mm.2.2 0)] from ⟨_, ns, nm, nt, hV, rfl⟩) ?_
  show X 5 [some (vR 11 0)] [] (akM mm (mm.2.2 0))
  exact s5 _ rfl
theorem con_X11_refusals (l : Launch) : CON l y_X11_refusals prog_1_method_50_code 1 (some .int) rm_X11_refusals Pre_X11_refusals Fn_X11_refusals := CON_of (by decide) rfl rfl (sa_X11_refusals l) vc_X11_refusals
def kpL (t : Nat) : Nat → Nat → Int32 → MM → Int32 × MM
  | 0, _, c, m => (c, m)
  | k + 1, s, c, m => kpL t k (s + 1) (c + (if 0 ≤ m.1 15 0 s then 1 else 0)) (ptC m t s (m.1 15 0 s).toInt64)
def cl_kp1 (q : Int32 × MM) : Option MV × MM := gvC q.2 q.1
def cl_kp2 (m : MM) (x : Int32) (ns : Nat) : Option MV × MM := cl_kp1 (kpL x.toNatClampNeg ns 0 0 m)
def cl_keep (m : MM) (x : Int32) : Option MV × MM := if cl_rs m x = 0 then cl_kp2 (akM m (m.2.2 0)) x (m.1 6 (m.2.2 0) 13).toNatClampNeg else rfC m (cl_rs m x)
theorem SM2_0 (a : Nat → Int32) (nm : Nat) : ∀ k s m, SM2 m (dmL a nm k s m)
  | 0, _, m => SM2_r m
  | k + 1, s, m => SM2_t SM2_15 (SM2_0 a nm k (s + 1) _)
theorem SM2_rs (a : Nat → Int32) (ns : Nat) : ∀ k d p, SM2 p.2 (rsL a ns k d p).2
  | 0, _, p => SM2_r p.2
  | k + 1, d, p => SM2_t (SM2_F a ns p.2 d) (SM2_rs a ns k (d + 1) _)
theorem SM2_ak (a : Nat → Int32) (ns nm : Nat) : ∀ f m, SM2 m (akL a ns nm f m)
  | 0, m => SM2_r m
  | f + 1, m => by
    rw [akL]
    have hD := SM2_t (SM2_0 a nm ns 0 m) (SM2_rs a ns nm 0 (false, dmL a nm ns 0 m))
    split
    · exact SM2_t hD (SM2_ak a ns nm f _)
    · exact hD
theorem SM2_ak0 (m : MM) : SM2 m (ak0 m) := fun k g z y _ => Eq.trans (show (ak0 m).1 k g = (mI m 0 0 6 0).1 k g from if_neg (fun x => y x.1)) (if_neg (fun x => z x.1))
theorem SM2_akM (m : MM) (v : Nat) : SM2 m (akM m v) := SM2_t (SM2_ak0 m) (SM2_ak _ _ _ _ _)
theorem roL_2 (Q : Nat → Int32) (b : Int32) (d : Nat) : ∀ k s p, (roL Q b d k s p).2.2 = p.2.2
  | 0, _, p => rfl
  | k + 1, s, p => by
    rw [roL, roL_2 Q b d k (s + 1)]
    split <;> rfl
theorem dmL_2 (a : Nat → Int32) (nm : Nat) : ∀ k s m, (dmL a nm k s m).2 = m.2
  | 0, _, m => rfl
  | k + 1, s, m => by rw [dmL, dmL_2 a nm k (s + 1)]; rfl
theorem rsL_2 (a : Nat → Int32) (ns : Nat) : ∀ k d p, (rsL a ns k d p).2.2 = p.2.2
  | 0, _, p => rfl
  | k + 1, d, p => by rw [rsL, rsL_2 a ns k (d + 1)]; exact roL_2 _ _ _ _ _ _
theorem akL_2 (a : Nat → Int32) (ns nm : Nat) : ∀ f m, (akL a ns nm f m).2 = m.2
  | 0, m => rfl
  | f + 1, m => by
    rw [akL]
    split
    · rw [akL_2 a ns nm f, rsL_2]; exact dmL_2 _ _ _ _ _
    · rw [rsL_2]; exact dmL_2 _ _ _ _ _
theorem akM_2 (m : MM) (v : Nat) : (akM m v).2 = m.2 := akL_2 _ _ _ _ _

def Pre_X11_keep : PreT := fun m as => VNx m ∧ ∃ x : Int32, as = [vR 11 0, vI x]
def Fn_X11_keep : FnT := fun m as => match as with
  | [_, Sum.inl x] => cl_keep m x
  | _ => (none, m)
abbrev y_X11_keep : MethodName := ⟨"GivenUp", "keep", "(I)I"⟩
def P_X11_keep : List StpT := [s_aload 0, s_iload 1, s_callV 11 1 Pre_X11_rowStatus Fn_X11_rowStatus, s_istore 2, s_iload 2, s_ifeq 10, s_aload 0, s_iload 2, s_callV 11 1 Pre_X11_refuse Fn_X11_refuse, s_iret, s_aload 0, s_getC 11 7 0 0, s_aload 0, s_getD 11 12 6 0, s_callV 0 1 Pre_X0_ask Fn_X0_ask, s_ic (0), s_istore 3, s_ic (0), s_istore 4, s_iload 4, s_aload 0, s_getD 11 12 6 0, s_getI 6 13, s_icge 48, s_aload 0, s_getC 11 7 0 0, s_getR 0 2 15, s_iload 4, s_iald, s_istore 5, s_aload 0, s_getR 11 0 50, s_iload 1, s_aald4 5 0, s_iload 4, s_iload 5, s_i2l, s_callV 5 2 Pre_X5_put Fn_X5_put, s_iload 3, s_iload 5, s_ifge 43, s_ic (0), s_goto 44, s_ic (1), s_iadd, s_istore 3, s_iinc 4 (1), s_goto 19, s_aload 0, s_iload 3, s_callV 11 1 Pre_X11_answer Fn_X11_answer, s_iret]
def pc_X11_keep : Nat → Nat := fun i => [0, 1, 2, 5, 6, 7, 10, 11, 12, 15, 16, 17, 20, 21, 24, 27, 28, 29, 30, 32, 34, 35, 38, 41, 44, 45, 48, 51, 53, 54, 56, 57, 60, 61, 62, 64, 66, 67, 70, 71, 73, 76, 77, 80, 81, 82, 83, 86, 89, 90, 91, 94].getD i 0
def dl_X11_keep : List (Nat × Instr × Nat) := [(0, .aload_n 0, 1), (1, .iload_n 1, 1), (2, .invokevirtual 417, 3), (5, .istore_n 2, 1), (6, .iload_n 2, 1), (7, .ifCond .eq 9, 3), (10, .aload_n 0, 1), (11, .iload_n 2, 1), (12, .invokevirtual 139, 3), (15, .ireturn, 1), (16, .aload_n 0, 1), (17, .getfield 63, 3), (20, .aload_n 0, 1), (21, .getfield 87, 3), (24, .invokevirtual 410, 3), (27, .iconst 0, 1), (28, .istore_n 3, 1), (29, .iconst 0, 1), (30, .istore 4, 2), (32, .iload 4, 2), (34, .aload_n 0, 1), (35, .getfield 87, 3), (38, .getfield 197, 3), (41, .if_icmp .ge 48, 3), (44, .aload_n 0, 1), (45, .getfield 63, 3), (48, .getfield 413, 3), (51, .iload 4, 2), (53, .iaload, 1), (54, .istore 5, 2), (56, .aload_n 0, 1), (57, .getfield 11, 3), (60, .iload_n 1, 1), (61, .aaload, 1), (62, .iload 4, 2), (64, .iload 5, 2), (66, .i2l, 1), (67, .invokevirtual 135, 3), (70, .iload_n 3, 1), (71, .iload 5, 2), (73, .ifCond .ge 7, 3), (76, .iconst 0, 1), (77, .goto 4, 3), (80, .iconst 1, 1), (81, .iadd, 1), (82, .istore_n 3, 1), (83, .iinc 4 1, 3), (86, .goto (-54), 3), (89, .aload_n 0, 1), (90, .iload_n 3, 1), (91, .invokevirtual 178, 3), (94, .ireturn, 1)]
theorem dc_X11_keep : DEC prog_1_method_51_code pc_X11_keep dl_X11_keep := DEC_of (by decide +kernel)
abbrev rm_X11_keep : Room := { frames := 5, cells := 0, slots := 0, locals := 120 }
set_option maxRecDepth 20000 in
theorem sa_X11_keep (l : Launch) : SNDALL l prog_1_method_51_code "GivenUp" 6 (some .int) rm_X11_keep P_X11_keep pc_X11_keep := fun p e s m args below meth c cells slots Q D dA ad A RR hC hR => by
  have hM := RTX_room (R := rm_X11_keep) hR
  exact ⟨st_aload_n hC (n := 0) (k := 0) (dc_X11_keep 0 (0, .aload_n 0, 1) rfl rfl) rfl rfl,
    st_iload_n hC (n := 1) (k := 1) (dc_X11_keep 1 (1, .iload_n 1, 1) rfl rfl) rfl rfl,
    st_callV hC (n := 2) (k := 11) (na := 1) (con_X11_rowStatus l) (dc_X11_keep 2 (2, .invokevirtual 417, 3) rfl rfl) rfl wd_1376 wd_143 (by decide) ⟨rfl, rfl, by decide, by decide⟩ hM wd_1373 wd_1375 wd_38 clf_11,
    st_istore_n hC (n := 3) (k := 2) (dc_X11_keep 3 (5, .istore_n 2, 1) rfl rfl) rfl rfl (by decide),
    st_iload_n hC (n := 4) (k := 2) (dc_X11_keep 4 (6, .iload_n 2, 1) rfl rfl) rfl rfl,
    st_ifeq hC (n := 5) (dc_X11_keep 5 (7, .ifCond .eq 9, 3) rfl rfl) rfl (by decide),
    st_aload_n hC (n := 6) (k := 0) (dc_X11_keep 6 (10, .aload_n 0, 1) rfl rfl) rfl rfl,
    st_iload_n hC (n := 7) (k := 2) (dc_X11_keep 7 (11, .iload_n 2, 1) rfl rfl) rfl rfl,
    st_callV hC (n := 8) (k := 11) (na := 1) (con_X11_refuse l) (dc_X11_keep 8 (12, .invokevirtual 139, 3) rfl rfl) rfl wd_824 wd_143 (by decide) ⟨rfl, rfl, by decide, by decide⟩ hM wd_821 wd_823 wd_3 clf_11,
    st_iret hC (n := 9) hR (dc_X11_keep 9 (15, .ireturn, 1) rfl rfl),
    st_aload_n hC (n := 10) (k := 0) (dc_X11_keep 10 (16, .aload_n 0, 1) rfl rfl) rfl rfl,
    st_getC hC (n := 11) (k := 11) (j := 7) (dc_X11_keep 11 (17, .getfield 63, 3) rfl rfl) rfl clf_11 (by decide) rfl (by decide) wd_718,
    st_aload_n hC (n := 12) (k := 0) (dc_X11_keep 12 (20, .aload_n 0, 1) rfl rfl) rfl rfl,
    st_getD hC (n := 13) (k := 11) (j := 12) (dc_X11_keep 13 (21, .getfield 87, 3) rfl rfl) rfl clf_11 (by decide) rfl (by decide) wd_723,
    st_callV hC (n := 14) (k := 0) (na := 1) (con_X0_ask l) (dc_X11_keep 14 (24, .invokevirtual 410, 3) rfl rfl) rfl wd_1403 wd_153 (by decide) ⟨rfl, rfl, by decide, by decide⟩ hM wd_1400 wd_1401 wd_1402 clf_0,
    st_iconst hC (n := 15) (x := 0) (dc_X11_keep 15 (27, .iconst 0, 1) rfl rfl) rfl (by decide),
    st_istore_n hC (n := 16) (k := 3) (dc_X11_keep 16 (28, .istore_n 3, 1) rfl rfl) rfl rfl (by decide),
    st_iconst hC (n := 17) (x := 0) (dc_X11_keep 17 (29, .iconst 0, 1) rfl rfl) rfl (by decide),
    st_istore hC (n := 18) (dc_X11_keep 18 (30, .istore 4, 2) rfl rfl) rfl (by decide),
    st_iload hC (n := 19) (dc_X11_keep 19 (32, .iload 4, 2) rfl rfl) rfl,
    st_aload_n hC (n := 20) (k := 0) (dc_X11_keep 20 (34, .aload_n 0, 1) rfl rfl) rfl rfl,
    st_getD hC (n := 21) (k := 11) (j := 12) (dc_X11_keep 21 (35, .getfield 87, 3) rfl rfl) rfl clf_11 (by decide) rfl (by decide) wd_723,
    st_getI hC (n := 22) (k := 6) (j := 13) (dc_X11_keep 22 (38, .getfield 197, 3) rfl rfl) rfl clf_6 (by decide) rfl wd_622,
    st_icge hC (n := 23) (dc_X11_keep 23 (41, .if_icmp .ge 48, 3) rfl rfl) rfl (by decide),
    st_aload_n hC (n := 24) (k := 0) (dc_X11_keep 24 (44, .aload_n 0, 1) rfl rfl) rfl rfl,
    st_getC hC (n := 25) (k := 11) (j := 7) (dc_X11_keep 25 (45, .getfield 63, 3) rfl rfl) rfl clf_11 (by decide) rfl (by decide) wd_718,
    st_getR hC (n := 26) (k := 0) (j := 2) (dc_X11_keep 26 (48, .getfield 413, 3) rfl rfl) rfl clf_0 (by decide) rfl (by decide) wd_407,
    st_iload hC (n := 27) (dc_X11_keep 27 (51, .iload 4, 2) rfl rfl) rfl,
    st_iald hC (n := 28) (dc_X11_keep 28 (53, .iaload, 1) rfl rfl) rfl,
    st_istore hC (n := 29) (dc_X11_keep 29 (54, .istore 5, 2) rfl rfl) rfl (by decide),
    st_aload_n hC (n := 30) (k := 0) (dc_X11_keep 30 (56, .aload_n 0, 1) rfl rfl) rfl rfl,
    st_getR hC (n := 31) (k := 11) (j := 0) (dc_X11_keep 31 (57, .getfield 11, 3) rfl rfl) rfl clf_11 (by decide) rfl (by decide) wd_711,
    st_iload_n hC (n := 32) (k := 1) (dc_X11_keep 32 (60, .iload_n 1, 1) rfl rfl) rfl rfl,
    st_aald4 hC (n := 33) (dc_X11_keep 33 (61, .aaload, 1) rfl rfl) rfl aald4_ok,
    st_iload hC (n := 34) (dc_X11_keep 34 (62, .iload 4, 2) rfl rfl) rfl,
    st_iload hC (n := 35) (dc_X11_keep 35 (64, .iload 5, 2) rfl rfl) rfl,
    st_i2l hC (n := 36) (dc_X11_keep 36 (66, .i2l, 1) rfl rfl) rfl,
    st_callV hC (n := 37) (k := 5) (na := 2) (con_X5_put l) (dc_X11_keep 37 (67, .invokevirtual 135, 3) rfl rfl) rfl wd_815 wd_159 (by decide) ⟨rfl, rfl, by decide, by decide⟩ hM wd_812 wd_813 wd_814 clf_5,
    st_iload_n hC (n := 38) (k := 3) (dc_X11_keep 38 (70, .iload_n 3, 1) rfl rfl) rfl rfl,
    st_iload hC (n := 39) (dc_X11_keep 39 (71, .iload 5, 2) rfl rfl) rfl,
    st_ifge hC (n := 40) (dc_X11_keep 40 (73, .ifCond .ge 7, 3) rfl rfl) rfl (by decide),
    st_iconst hC (n := 41) (x := 0) (dc_X11_keep 41 (76, .iconst 0, 1) rfl rfl) rfl (by decide),
    st_goto hC (n := 42) (dc_X11_keep 42 (77, .goto 4, 3) rfl rfl) (by decide),
    st_iconst hC (n := 43) (x := 1) (dc_X11_keep 43 (80, .iconst 1, 1) rfl rfl) rfl (by decide),
    st_iadd hC (n := 44) (dc_X11_keep 44 (81, .iadd, 1) rfl rfl) rfl,
    st_istore_n hC (n := 45) (k := 3) (dc_X11_keep 45 (82, .istore_n 3, 1) rfl rfl) rfl rfl (by decide),
    st_iinc hC (n := 46) (x := 1) (dc_X11_keep 46 (83, .iinc 4 1, 3) rfl rfl) rfl (by decide) (by decide),
    st_goto hC (n := 47) (dc_X11_keep 47 (86, .goto (-54), 3) rfl rfl) (by decide),
    st_aload_n hC (n := 48) (k := 0) (dc_X11_keep 48 (89, .aload_n 0, 1) rfl rfl) rfl rfl,
    st_iload_n hC (n := 49) (k := 3) (dc_X11_keep 49 (90, .iload_n 3, 1) rfl rfl) rfl rfl,
    st_callV hC (n := 50) (k := 11) (na := 1) (con_X11_answer l) (dc_X11_keep 50 (91, .invokevirtual 178, 3) rfl rfl) rfl wd_967 wd_143 (by decide) ⟨rfl, rfl, by decide, by decide⟩ hM wd_964 wd_966 wd_17 clf_11,
    st_iret hC (n := 51) hR (dc_X11_keep 51 (94, .ireturn, 1) rfl rfl), trivial⟩
set_option maxRecDepth 8000 in
theorem vc_X11_keep : VC P_X11_keep 6 Pre_X11_keep Fn_X11_keep := by
  rintro mm as hom hoa ⟨⟨ns, nm, nt, hV⟩, x, rfl⟩
  refine ⟨Nat.le_of_ble_eq_true rfl, fun X h => ?_⟩
  have hS : mm.1 6 (mm.2.2 0) 13 = nI ns := hV.1.1.1
  have hn4 : ns ≤ 4 := hV.1.1.2
  obtain ⟨R, eR⟩ : ∃ R, R = cl_keep mm x := ⟨_, rfl⟩
  replace h : RUN P_X11_keep (fun r m' => (r, m') = cl_keep mm x) X := h
  rw [← eR] at h
  unfold cl_keep at eR
  rw [hS, nI_clamp (show ns < 2 ^ 31 by omega)] at eR
  have z0 : ∀ q : Nat, 0 + q = q := Nat.zero_add
  have s15 : ∀ M, SM2 mm M → M.2 = mm.2 → (∃ i, i < 4 ∧ x = nI i) → R = cl_kp2 M x ns → ∀ rs, X 15 [some (vR 11 0), some (vI (x)), some (vI (rs)), none, none, none] [] (M) := by
    intro M hM hM2 ⟨i, hi, ex⟩ hR rs
    unfold cl_kp2 at hR
    have loop : ∀ k s c N, s + k = ns → SM2 mm N → N.2.2 = mm.2.2 → R = cl_kp1 (kpL x.toNatClampNeg k s c N) → ∀ L5, X 19 [some (vR 11 0), some (vI (x)), some (vI (rs)), some (vI (c)), some (vI (nI s)), L5] [] (N) := by
      intro k
      induction k with
      | zero =>
        intro s c N hs hN hN2 hR L5
        have hs2 : s = ns := by omega
        have e13 : N.1 6 (N.2.2 0) 13 = nI ns := by rw [hN2, hN 6 _ (by decide) (by decide) (by decide)]; exact hS
        rw [kpL] at hR
        show X 19 [some (vR 11 0), some (vI x), some (vI rs), some (vI c), some (vI (nI s)), L5] [] N
        refine h (fun _ => false) 3000 19 _ _ _ ?_
        refine br_t (show N.1 6 (N.2.2 0) 13 ≤ nI s from by rw [e13, hs2]; exact Int32.le_refl _) ?_
        refine And.intro (show Pre_X11_answer N [vR 11 0, vI c] from ⟨_, rfl⟩) ?_
        show ((some (vI c) : Option MV), stC N 0) = _
        exact hR.symm
      | succ k ih =>
        intro s c N hs hN hN2 hR L5
        rw [kpL] at hR
        have es : (nI s).toNatClampNeg = s := nI_clamp (by omega)
        have e13 : N.1 6 (N.2.2 0) 13 = nI ns := by rw [hN2, hN 6 _ (by decide) (by decide) (by decide)]; exact hS
        obtain ⟨Q, eQ⟩ : ∃ Q, Q = N.1 15 0 s := ⟨_, rfl⟩
        rw [← eQ] at hR
        obtain ⟨N', eN'⟩ : ∃ N', N' = ptC N x.toNatClampNeg s Q.toInt64 := ⟨_, rfl⟩
        rw [← eN'] at hR
        have hN'1 : SM2 mm N' := by rw [eN']; exact hN
        have hN'2 : N'.2.2 = mm.2.2 := by rw [eN']; exact hN2
        have z := ih (s + 1) _ N' (by omega) hN'1 hN'2 hR
        have s44 : ∀ w, w = (if 0 ≤ Q then 1 else 0 : Int32) → X 44 [some (vR 11 0), some (vI (x)), some (vI (rs)), some (vI (c)), some (vI (nI s)), some (vI (Q))] [vI (w), vI (c)] (N') := by
          intro w hw
          rw [← hw] at z
          show X 44 [some (vR 11 0), some (vI x), some (vI rs), some (vI c), some (vI (nI s)), some (vI Q)] [vI w, vI c] N'
          refine h (fun i => Nat.beq i 19) 3000 44 _ _ _ ?_
          show X 19 [some (vR 11 0), some (vI x), some (vI rs), some (vI (c + w)), some (vI ((nI s) + 1)), some (vI Q)] [] N'
          rw [nI_1]
          exact z _
        have s38 : X 38 [some (vR 11 0), some (vI (x)), some (vI (rs)), some (vI (c)), some (vI (nI s)), some (vI (Q))] [] (N') := by
          show X 38 [some (vR 11 0), some (vI x), some (vI rs), some (vI c), some (vI (nI s)), some (vI Q)] [] N'
          refine h (fun i => Nat.beq i 44) 3000 38 _ _ _ ?_
          refine br_c (fun b40 => ?_) (fun b40 => ?_)
          · -- 40: 0 ≤ Q taken
            replace b40 : 0 ≤ Q := b40
            show X 44 [some (vR 11 0), some (vI x), some (vI rs), some (vI c), some (vI (nI s)), some (vI Q)] [vI 1, vI c] N'
            exact s44 1 (if_pos b40).symm
          · -- 40: 0 ≤ Q on
            replace b40 : ¬ (0 ≤ Q) := b40
            show X 44 [some (vR 11 0), some (vI x), some (vI rs), some (vI c), some (vI (nI s)), some (vI Q)] [vI 0, vI c] N'
            exact s44 0 (if_neg b40).symm
        have s30 : X 30 [some (vR 11 0), some (vI (x)), some (vI (rs)), some (vI (c)), some (vI (nI s)), some (vI (Q))] [] (N) := by
          show X 30 [some (vR 11 0), some (vI x), some (vI rs), some (vI c), some (vI (nI s)), some (vI Q)] [] N
          refine h (fun i => Nat.beq i 38) 3000 30 _ _ _ ?_
          refine And.intro (show inb x (alen 50) = true from (inb_o 4 rfl rfl ex (by omega))) ?_
          refine And.intro (show Pre_X5_put N [vR 5 (0 + x.toNatClampNeg), vI (nI s), vL Q.toInt64] from ⟨_, s, _, by omega, rfl⟩) ?_
          show X 38 [some (vR 11 0), some (vI x), some (vI rs), some (vI c), some (vI (nI s)), some (vI Q)] [] (ptC N (0 + x.toNatClampNeg) (nI s).toNatClampNeg Q.toInt64)
          (try simp only [z0, es])
          rw [← eN']
          exact s38
        show X 19 [some (vR 11 0), some (vI x), some (vI rs), some (vI c), some (vI (nI s)), L5] [] N
        refine h (fun i => Nat.beq i 30) 3000 19 _ _ _ ?_
        refine br_f (show ¬ (N.1 6 (N.2.2 0) 13 ≤ nI s) from by rw [e13]; exact nI_ge (by omega) (by omega)) ?_
        refine And.intro (show inb (nI s) (alen 15) = true from (inb_o 4 rfl rfl rfl (by omega))) ?_
        show X 30 [some (vR 11 0), some (vI x), some (vI rs), some (vI c), some (vI (nI s)), some (vI (N.1 15 0 ((nI s).toNatClampNeg)))] [] N
        rw [es, ← eQ]
        exact s30
    have l0 := loop ns 0 0 M (by omega) hM (by rw [hM2]) hR none
    show X 15 [some (vR 11 0), some (vI x), some (vI rs), none, none, none] [] M
    refine h (fun i => Nat.beq i 19) 3000 15 _ _ _ ?_
    show X 19 [some (vR 11 0), some (vI x), some (vI rs), some (vI 0), some (vI 0), none] [] M
    exact l0
  show X 0 [some (vR 11 0), some (vI x), none, none, none, none] [] mm
  refine h (fun i => Nat.beq i 15) 3000 0 _ _ _ ?_
  refine And.intro (show Pre_X11_rowStatus mm [vR 11 0, vI x] from ⟨_, rfl⟩) ?_
  refine br_c (fun b5 => ?_) (fun b5 => ?_)
  · -- 5: cl_rs mm x = 0 taken
    replace b5 : cl_rs mm x = 0 := b5
    refine And.intro (show Pre_X0_ask mm [vR 0 0, vR 6 (mm.2.2 0)] from ⟨_, ns, nm, nt, hV, rfl⟩) ?_
    show X 15 [some (vR 11 0), some (vI x), some (vI (cl_rs mm x)), none, none, none] [] (akM mm (mm.2.2 0))
    rw [if_pos b5] at eR
    exact s15 _ (SM2_akM _ _) (akM_2 _ _) (rs_in b5) eR _
  · -- 5: cl_rs mm x = 0 on
    replace b5 : ¬ (cl_rs mm x = 0) := b5
    refine And.intro (show Pre_X11_refuse mm [vR 11 0, vI (cl_rs mm x)] from ⟨_, rfl⟩) ?_
    show ((some (vI (-1)) : Option MV), stC mm (cl_rs mm x)) = _
    rw [eR, if_neg b5]
    rfl
theorem con_X11_keep (l : Launch) : CON l y_X11_keep prog_1_method_51_code 6 (some .int) rm_X11_keep Pre_X11_keep Fn_X11_keep := CON_of (by decide) rfl rfl (sa_X11_keep l) vc_X11_keep
end
