/-! PART 9ZZI: the methods that the constructors call, over a part of the world -/

noncomputable section
set_option maxRecDepth 20000 in
theorem saC_J3_checkIndex_8e157 (l : Launch) {C : List (Nat × Nat)} (hY : CHY C) : SNDALLC C l prog_22_method_11_code "jdk/internal/util/Preconditions" 3 (some .int) rm_J3_checkIndex_8e157 P_J3_checkIndex_8e157 pc_J3_checkIndex_8e157 := fun p e s m args below meth c cells slots Q D dA ad A RR hC hR => by
  have hM := RTX_roomC (R := rm_J3_checkIndex_8e157) hR
  exact ⟨sc_iload_n hC (n := 0) (k := 0) (dc_J3_checkIndex_8e157 0 (0, .iload_n 0, 1) rfl rfl) rfl rfl,
    sc_iflt hC (n := 1) (dc_J3_checkIndex_8e157 1 (1, .ifCond .lt 8, 3) rfl rfl) rfl (by decide),
    sc_iload_n hC (n := 2) (k := 0) (dc_J3_checkIndex_8e157 2 (4, .iload_n 0, 1) rfl rfl) rfl rfl,
    sc_iload_n hC (n := 3) (k := 1) (dc_J3_checkIndex_8e157 3 (5, .iload_n 1, 1) rfl rfl) rfl rfl,
    sc_iclt hC (n := 4) (dc_J3_checkIndex_8e157 4 (6, .if_icmp .lt 10, 3) rfl rfl) rfl (by decide),
    sc_aload_n hC (n := 5) (k := 2) (dc_J3_checkIndex_8e157 5 (9, .aload_n 2, 1) rfl rfl) rfl rfl,
    sc_iload_n hC (n := 6) (k := 0) (dc_J3_checkIndex_8e157 6 (10, .iload_n 0, 1) rfl rfl) rfl rfl,
    sc_iload_n hC (n := 7) (k := 1) (dc_J3_checkIndex_8e157 7 (11, .iload_n 1, 1) rfl rfl) rfl rfl,
    sc_no,
    sc_no,
    sc_iload_n hC (n := 10) (k := 0) (dc_J3_checkIndex_8e157 10 (16, .iload_n 0, 1) rfl rfl) rfl rfl,
    sc_iret hC (n := 11) hR (dc_J3_checkIndex_8e157 11 (17, .ireturn, 1) rfl rfl), trivial⟩
theorem met_ckC (l : Launch) {C : List (Nat × Nat)} (hY : CHY C) (D : va_G) (dA : Nat → ClassId) (ad : Nat → Nat → Nat) (mm : MM) (sz : Nat) (x b : Int32) (v : Value) (hv : v = .null ∨ ∃ t, v = .ref t) (hom : okm mm) (h1 : ¬ x < 0) (h2 : x < b) : Met l y_J3_checkIndex_8e157 (.code y_J3_checkIndex_8e157 prog_22_method_11_code 3 (some .int) :: TBL) rm_J3_checkIndex_8e157 (va_Pc [.int x, .int b, v] (fun U => U.heap.size = sz ∧ WLDC C D dA ad (AWC C ad sz) mm U)) (QCOC C D dA ad sz (fun r m' => (r, m') = (some (vI x), mm))) 0 0 (AWC C ad sz) := by
  refine Met_ofWF (cc := prog_22_method_11_code) (maxL := 3) (ret := some .int) (by decide +kernel) rfl ?_
  intro p e s m args below meth c s₁ B hml hw
  obtain ⟨rfl, hsz, hP, hK, hD0, hN, hE⟩ := hw
  subst hsz
  have hts := atoms_spec (ws := Cond.code y_J3_checkIndex_8e157 prog_22_method_11_code 3 (some .int) :: TBL) B.pre
  have hC : CXC C p s m ([.int x, .int b, v] : List Value).toArray c prog_22_method_11_code "jdk/internal/util/Preconditions" 3 D dA ad (AWC C ad s.heap.size) := ⟨B.exec, B.bytes, hml, findClass_of_methodNamed B.named, fun w hw => hts w (List.mem_cons_of_mem _ hw), hK, hN, hE, fun _ h => h, hY⟩
  have hX := vx_J3_checkIndex (mm := mm) h1 h2 _ (RUN_of (saC_J3_checkIndex_8e157 l hY p e s m _ below meth c 0 0 _ D dA ad (AWC C ad s.heap.size) (fun r m' => (r, m') = (some (vI x), mm)) hC ⟨rfl, rfl, rfl, rfl, B.returns, B.notSynchronized⟩))
  have hl : lv_has ((lg_sl [.int x, .int b, v] ++ List.replicate (3 - (lg_sl [.int x, .int b, v]).length) Slot.unset).toArray) 3 (lv_args 0 [.int x, .int b, v]) := lv_entry [.int x, .int b, v] (n := 3) (by rcases hv with rfl | ⟨t, rfl⟩ <;> exact Nat.le_refl 3)
  rw [lg_entry_eq]
  have hW := hX rfl (fun i w hw => by
    match i with
    | 0 => cases hw; exact trivial
    | 1 => cases hw; exact trivial
    | 2 => cases hw
    | _ + 3 => cases hw) (fun w hw => by cases hw) hom s.heap [] _ hP (AW_DC hD0) va_S.rf hl.1 ⟨hl.2.1, fun i w hw => by
    match i with
    | 0 => cases hw; exact hl.2.2 _ List.mem_cons_self
    | 1 => cases hw; exact hl.2.2 _ (List.mem_cons_of_mem _ List.mem_cons_self)
    | 2 => cases hw
    | _ + 3 => cases hw⟩
  exact hW
section FWC2
variable {C : List (Nat × Nat)} {p : Program} {l : Launch} {e : Env} {R : Room} {s : State} {m : MethodId} {args : Array Value} {below : List Frame} {meth : Method} {c : Code} {cells slots : Nat} {Q : State → Prop} {nL : Nat} {D : va_G} {dA : Nat → ClassId} {ad : Nat → Nat → Nat} {A : Nat → Prop} {pcs : Nat → Nat} {cc : ByteArray} {own : String} {RR : RetP}
theorem sc_ckI (hC : CXC C p s m args c cc own nL D dA ad A) {n : Nat} (hd0 : decode cc (pcs n) = .ok (.getstatic 1053, 3)) (hd1 : decode cc (pcs n + 3) = .ok (.invokestatic 1059, 3)) (hd2 : decode cc (pcs n + 3 + 3) = .ok (.pop, 1)) (hn : pcs (n + 3) = pcs n + 3 + 3 + 1) (ho : own = "java/lang/String") (hwf : Cond.fieldLink "java/lang/String" 1053 "jdk/internal/util/Preconditions" "SIOOBE_FORMATTER" "Ljava/util/function/BiFunction;" ∈ TBL)
    (hcode : Cond.code y_J3_checkIndex_8e157 prog_22_method_11_code 3 (some .int) ∈ TBL) (hini : Cond.initialized "jdk/internal/util/Preconditions" ∈ TBL) (hlk : Cond.methodLink "java/lang/String" 1059 y_J3_checkIndex_8e157 ∈ TBL) (hstat : Cond.static y_J3_checkIndex_8e157 ∈ TBL) (hrm : 0 + 1 ≤ R.frames ∧ 8 + (3 + 11) + 0 ≤ R.locals) (hroom : cells ≤ R.cells ∧ slots ≤ R.slots) : SND RR (XKC C p l e R s m args below meth c cells slots Q nL D dA ad A pcs) n s_ckI := by
  refine ⟨mo_s_ckI, fun ls st mm h => ?_⟩
  obtain ⟨hx, hb, hml, hown, hts, hK, hN, hE, hAW, hY⟩ := hC
  intro hl hol hos hom H locs arr hP hD hS hz hL
  unfold s_ckI at h
  split at h
  · rename_i b i st'
    cases q : Nat.ble (csum st') 8 <;> rw [q] at h
    · exact h.elim
    obtain ⟨⟨h1, h2⟩, h⟩ := h
    subst ho
    have key : ∀ v : Value, (v = .null ∨ ∃ t, v = .ref t) → va_Z "jdk/internal/util/Preconditions" "SIOOBE_FORMATTER" "Ljava/util/function/BiFunction;" v A s s.heap → W p l e R s m args below meth c H locs cells slots Q (F0 m (pcs n) arr (.int b :: .int i :: st'.map (cv ad))) := by
      intro v hv hZ
      refine va_gets hx hb hZ hS hown (hts _ hwf) (fun _ z => z) hd0 ?_
      have hrun := va_runS (As := [.int i, .int b, v]) (rest := st'.map (cv ad)) (e := e) (below := below) (meth := meth) (locs := locs) (cells := cells) (slots := slots) (g := F0 m (pcs n + 3) arr (v :: .int b :: .int i :: st'.map (cv ad))) ⟨hx, hb, hml, hown, hts⟩ (met_ckC l hY D dA ad mm H.size i b v hv hom h1 h2)
        ⟨callB_of 3 hts (TBL_goodIn hcode) rfl rfl rfl (hts _ hini) (hts _ hlk) ⟨by decide, by decide, by decide +kernel⟩ ⟨by simpa using hrm.1, by simpa using hrm.2⟩, hts _ hstat⟩
        ⟨fun _ _ _ _ h => ⟨h.1, h.2.1, WLD_callingC h.2.2⟩, fun U hU hW => ⟨rfl, (PCO_atC (as := []) hK hN hE hAW hP hD hS U hU hW).2⟩⟩ rfl rfl hz rfl (lv_room (by rw [csum_map]; exact Nat.le_of_ble_eq_true q)) hd1 hroom
      refine call_go (A1 := AWC C ad H.size) hrun hS (AW_subC hS hAW) (fun r t H1 locs1 ht hB hS1 => ?_)
      obtain ⟨r', mm', e1, e2, hom', hv', hP1⟩ := hB
      cases e2
      cases e1
      rw [ht] at hP1
      refine lv_pop hx hb hd2 rfl ?_
      have k1 := h hl hol (oks_tC (oks_tC hos)) hom H1 locs1 arr hP1 (WS_DC hD) hS1 hz hL
      rw [hn] at k1
      exact k1
    rcases hE.2.2.2.2 with hZ | ⟨t, hZ⟩
    · exact key _ (Or.inl rfl) hZ
    · exact key _ (Or.inr ⟨t, rfl⟩) hZ
  · exact h.elim
end FWC2
set_option maxRecDepth 20000 in
theorem saC_J0_coder_7d493 (l : Launch) {C : List (Nat × Nat)} (hY : CHY C) : SNDALLC C l prog_17_method_152_code "java/lang/String" 1 (some .byte) rm_J0_coder_7d493 P_J0_coder_7d493 pc_J0_coder_7d493 := fun p e s m args below meth c cells slots Q D dA ad A RR hC hR => by
  have hM := RTX_roomC (R := rm_J0_coder_7d493) hR
  exact ⟨sc_gsZ hC (n := 0) (dc_J0_coder_7d493 0 (0, .getstatic 38, 3) rfl rfl) rfl rfl wd_189,
    sc_ifeq hC (n := 1) (dc_J0_coder_7d493 1 (3, .ifCond .eq 10, 3) rfl rfl) rfl (by decide),
    sc_aload_n hC (n := 2) (k := 0) (dc_J0_coder_7d493 2 (6, .aload_n 0, 1) rfl rfl) rfl rfl,
    sc_scod hC (n := 3) (dc_J0_coder_7d493 3 (7, .getfield 15, 3) rfl rfl) rfl rfl wd_2333,
    sc_goto hC (n := 4) (dc_J0_coder_7d493 4 (10, .goto 4, 3) rfl rfl) (by decide),
    sc_iconst hC (n := 5) (x := 1) (dc_J0_coder_7d493 5 (13, .iconst 1, 1) rfl rfl) rfl (by decide),
    sc_nret hC (n := 6) hR (dc_J0_coder_7d493 6 (14, .ireturn, 1) rfl rfl), trivial⟩
theorem conC_J0_coder_7d493 (l : Launch) {C : List (Nat × Nat)} (hY : CHY C) : CONC C l y_J0_coder_7d493 prog_17_method_152_code 1 (some .byte) rm_J0_coder_7d493 Pre_J0_coder_7d493 Fn_J0_coder_7d493 := CON_ofFC hY (by decide +kernel) rfl rfl (saC_J0_coder_7d493 l hY) vc_J0_coder_7d493
--tpl ⟨_, by assumption, rfl⟩ || 1
set_option maxRecDepth 20000 in
theorem saC_J0_isLatin1_aae02 (l : Launch) {C : List (Nat × Nat)} (hY : CHY C) : SNDALLC C l prog_17_method_154_code "java/lang/String" 1 (some .boolean) rm_J0_isLatin1_aae02 P_J0_isLatin1_aae02 pc_J0_isLatin1_aae02 := fun p e s m args below meth c cells slots Q D dA ad A RR hC hR => by
  have hM := RTX_roomC (R := rm_J0_isLatin1_aae02) hR
  exact ⟨sc_gsZ hC (n := 0) (dc_J0_isLatin1_aae02 0 (0, .getstatic 38, 3) rfl rfl) rfl rfl wd_189,
    sc_ifeq hC (n := 1) (dc_J0_isLatin1_aae02 1 (3, .ifCond .eq 14, 3) rfl rfl) rfl (by decide),
    sc_aload_n hC (n := 2) (k := 0) (dc_J0_isLatin1_aae02 2 (6, .aload_n 0, 1) rfl rfl) rfl rfl,
    sc_scod hC (n := 3) (dc_J0_isLatin1_aae02 3 (7, .getfield 15, 3) rfl rfl) rfl rfl wd_2333,
    sc_ifne hC (n := 4) (dc_J0_isLatin1_aae02 4 (10, .ifCond .ne 7, 3) rfl rfl) rfl (by decide),
    sc_iconst hC (n := 5) (x := 1) (dc_J0_isLatin1_aae02 5 (13, .iconst 1, 1) rfl rfl) rfl (by decide),
    sc_goto hC (n := 6) (dc_J0_isLatin1_aae02 6 (14, .goto 4, 3) rfl rfl) (by decide),
    sc_iconst hC (n := 7) (x := 0) (dc_J0_isLatin1_aae02 7 (17, .iconst 0, 1) rfl rfl) rfl (by decide),
    sc_zret hC (n := 8) hR (dc_J0_isLatin1_aae02 8 (18, .ireturn, 1) rfl rfl), trivial⟩
theorem conC_J0_isLatin1_aae02 (l : Launch) {C : List (Nat × Nat)} (hY : CHY C) : CONC C l y_J0_isLatin1_aae02 prog_17_method_154_code 1 (some .boolean) rm_J0_isLatin1_aae02 Pre_J0_isLatin1_aae02 Fn_J0_isLatin1_aae02 := CON_ofFC hY (by decide +kernel) rfl rfl (saC_J0_isLatin1_aae02 l hY) vc_J0_isLatin1_aae02
--tpl ⟨_, by assumption, rfl⟩ || nI (slen {0})
set_option maxRecDepth 20000 in
theorem saC_J0_length_8abf5 (l : Launch) {C : List (Nat × Nat)} (hY : CHY C) : SNDALLC C l prog_17_method_54_code "java/lang/String" 1 (some .int) rm_J0_length_8abf5 P_J0_length_8abf5 pc_J0_length_8abf5 := fun p e s m args below meth c cells slots Q D dA ad A RR hC hR => by
  have hM := RTX_roomC (R := rm_J0_length_8abf5) hR
  exact ⟨sc_aload_n hC (n := 0) (k := 0) (dc_J0_length_8abf5 0 (0, .aload_n 0, 1) rfl rfl) rfl rfl,
    sc_sval hC (n := 1) (dc_J0_length_8abf5 1 (1, .getfield 9, 3) rfl rfl) rfl rfl wd_2332,
    sc_slen hC (n := 2) (dc_J0_length_8abf5 2 (4, .arraylength, 1) rfl rfl) rfl,
    sc_aload_n hC (n := 3) (k := 0) (dc_J0_length_8abf5 3 (5, .aload_n 0, 1) rfl rfl) rfl rfl,
    sc_callT hC (n := 4) (na := 0) (conC_J0_coder_7d493 l hY) (dc_J0_length_8abf5 4 (6, .invokevirtual 335, 3) rfl rfl) rfl wd_188 wd_145 (by decide) ⟨rfl, rfl, by decide, by decide⟩ hM wd_185 wd_186 wd_187 rfl,
    sc_ishr hC (n := 5) (dc_J0_length_8abf5 5 (9, .ishr, 1) rfl rfl) rfl,
    sc_iret hC (n := 6) hR (dc_J0_length_8abf5 6 (10, .ireturn, 1) rfl rfl), trivial⟩
theorem conC_J0_length_8abf5 (l : Launch) {C : List (Nat × Nat)} (hY : CHY C) : CONC C l y_J0_length_8abf5 prog_17_method_54_code 1 (some .int) rm_J0_length_8abf5 Pre_J0_length_8abf5 Fn_J0_length_8abf5 := CON_ofFC hY (by decide +kernel) rfl rfl (saC_J0_length_8abf5 l hY) vc_J0_length_8abf5
--tpl ⟨_, _, by assumption, by assumption, rfl⟩
set_option maxRecDepth 20000 in
theorem saC_J0_checkIndex_df160 (l : Launch) {C : List (Nat × Nat)} (hY : CHY C) : SNDALLC C l prog_17_method_155_code "java/lang/String" 2 none rm_J0_checkIndex_df160 P_J0_checkIndex_df160 pc_J0_checkIndex_df160 := fun p e s m args below meth c cells slots Q D dA ad A RR hC hR => by
  have hM := RTX_roomC (R := rm_J0_checkIndex_df160) hR
  exact ⟨sc_iload_n hC (n := 0) (k := 0) (dc_J0_checkIndex_df160 0 (0, .iload_n 0, 1) rfl rfl) rfl rfl,
    sc_iload_n hC (n := 1) (k := 1) (dc_J0_checkIndex_df160 1 (1, .iload_n 1, 1) rfl rfl) rfl rfl,
    sc_ckI hC (n := 2) (dc_J0_checkIndex_df160 2 (2, .getstatic 1053, 3) rfl rfl) (dc_J0_checkIndex_df160 3 (5, .invokestatic 1059, 3) rfl rfl) (dc_J0_checkIndex_df160 4 (8, .pop, 1) rfl rfl) rfl rfl wd_205 wd_209 wd_147 wd_207 wd_208 ⟨by decide, by decide⟩ hM,
    sc_no,
    sc_no,
    sc_vret hC (n := 5) hR (dc_J0_checkIndex_df160 5 (9, .return_, 1) rfl rfl), trivial⟩
theorem conC_J0_checkIndex_df160 (l : Launch) {C : List (Nat × Nat)} (hY : CHY C) : CONC C l y_J0_checkIndex_df160 prog_17_method_155_code 2 none rm_J0_checkIndex_df160 Pre_J0_checkIndex_df160 Fn_J0_checkIndex_df160 := CON_ofFC hY (by decide +kernel) rfl rfl (saC_J0_checkIndex_df160 l hY) vc_J0_checkIndex_df160
--tpl ⟨_, _, by assumption, by assumption, rfl⟩ || sbyt {0} {1n}
set_option maxRecDepth 20000 in
theorem saC_J1_charAt_3b067 (l : Launch) {C : List (Nat × Nat)} (hY : CHY C) : SNDALLC C l prog_18_method_2_code "java/lang/StringLatin1" 2 (some .char) rm_J1_charAt_3b067 P_J1_charAt_3b067 pc_J1_charAt_3b067 := fun p e s m args below meth c cells slots Q D dA ad A RR hC hR => by
  have hM := RTX_roomC (R := rm_J1_charAt_3b067) hR
  exact ⟨sc_iload_n hC (n := 0) (k := 1) (dc_J1_charAt_3b067 0 (0, .iload_n 1, 1) rfl rfl) rfl rfl,
    sc_aload_n hC (n := 1) (k := 0) (dc_J1_charAt_3b067 1 (1, .aload_n 0, 1) rfl rfl) rfl rfl,
    sc_slen hC (n := 2) (dc_J1_charAt_3b067 2 (2, .arraylength, 1) rfl rfl) rfl,
    sc_callS hC (n := 3) (na := 2) (conC_J0_checkIndex_df160 l hY) (dc_J1_charAt_3b067 3 (3, .invokestatic 9, 3) rfl rfl) rfl wd_204 wd_145 (by decide) ⟨rfl, rfl, by decide, by decide⟩ hM wd_202 wd_203,
    sc_aload_n hC (n := 4) (k := 0) (dc_J1_charAt_3b067 4 (6, .aload_n 0, 1) rfl rfl) rfl rfl,
    sc_iload_n hC (n := 5) (k := 1) (dc_J1_charAt_3b067 5 (7, .iload_n 1, 1) rfl rfl) rfl rfl,
    sc_sbal hC (n := 6) (dc_J1_charAt_3b067 6 (8, .baload, 1) rfl rfl) rfl,
    sc_sipush hC (n := 7) (x := 255) (dc_J1_charAt_3b067 7 (9, .sipush 255, 3) rfl rfl) rfl (by decide),
    sc_iand hC (n := 8) (dc_J1_charAt_3b067 8 (12, .iand, 1) rfl rfl) rfl,
    sc_i2c hC (n := 9) (dc_J1_charAt_3b067 9 (13, .i2c, 1) rfl rfl) rfl,
    sc_nret hC (n := 10) hR (dc_J1_charAt_3b067 10 (14, .ireturn, 1) rfl rfl), trivial⟩
theorem conC_J1_charAt_3b067 (l : Launch) {C : List (Nat × Nat)} (hY : CHY C) : CONC C l y_J1_charAt_3b067 prog_18_method_2_code 2 (some .char) rm_J1_charAt_3b067 Pre_J1_charAt_3b067 Fn_J1_charAt_3b067 := CON_ofFC hY (by decide +kernel) rfl rfl (saC_J1_charAt_3b067 l hY) vc_J1_charAt_3b067
--tpl ⟨_, _, by assumption, by assumption, rfl⟩ || sbyt {0} {1n}
set_option maxRecDepth 20000 in
theorem saC_J0_charAt_5068e (l : Launch) {C : List (Nat × Nat)} (hY : CHY C) : SNDALLC C l prog_17_method_56_code "java/lang/String" 2 (some .char) rm_J0_charAt_5068e P_J0_charAt_5068e pc_J0_charAt_5068e := fun p e s m args below meth c cells slots Q D dA ad A RR hC hR => by
  have hM := RTX_roomC (R := rm_J0_charAt_5068e) hR
  exact ⟨sc_aload_n hC (n := 0) (k := 0) (dc_J0_charAt_5068e 0 (0, .aload_n 0, 1) rfl rfl) rfl rfl,
    sc_callT hC (n := 1) (na := 0) (conC_J0_isLatin1_aae02 l hY) (dc_J0_charAt_5068e 1 (1, .invokevirtual 492, 3) rfl rfl) rfl wd_198 wd_145 (by decide) ⟨rfl, rfl, by decide, by decide⟩ hM wd_195 wd_196 wd_197 rfl,
    sc_ifeq hC (n := 2) (dc_J0_charAt_5068e 2 (4, .ifCond .eq 12, 3) rfl rfl) rfl (by decide),
    sc_aload_n hC (n := 3) (k := 0) (dc_J0_charAt_5068e 3 (7, .aload_n 0, 1) rfl rfl) rfl rfl,
    sc_sval hC (n := 4) (dc_J0_charAt_5068e 4 (8, .getfield 9, 3) rfl rfl) rfl rfl wd_2332,
    sc_iload_n hC (n := 5) (k := 1) (dc_J0_charAt_5068e 5 (11, .iload_n 1, 1) rfl rfl) rfl rfl,
    sc_callS hC (n := 6) (na := 2) (conC_J1_charAt_3b067 l hY) (dc_J0_charAt_5068e 6 (12, .invokestatic 495, 3) rfl rfl) rfl wd_201 wd_146 (by decide) ⟨rfl, rfl, by decide, by decide⟩ hM wd_199 wd_200,
    sc_nret hC (n := 7) hR (dc_J0_charAt_5068e 7 (15, .ireturn, 1) rfl rfl),
    sc_aload_n hC (n := 8) (k := 0) (dc_J0_charAt_5068e 8 (16, .aload_n 0, 1) rfl rfl) rfl rfl,
    sc_sval hC (n := 9) (dc_J0_charAt_5068e 9 (17, .getfield 9, 3) rfl rfl) rfl rfl wd_2332,
    sc_iload_n hC (n := 10) (k := 1) (dc_J0_charAt_5068e 10 (20, .iload_n 1, 1) rfl rfl) rfl rfl,
    sc_no,
    sc_nret hC (n := 12) hR (dc_J0_charAt_5068e 12 (24, .ireturn, 1) rfl rfl), trivial⟩
theorem conC_J0_charAt_5068e (l : Launch) {C : List (Nat × Nat)} (hY : CHY C) : CONC C l y_J0_charAt_5068e prog_17_method_56_code 2 (some .char) rm_J0_charAt_5068e Pre_J0_charAt_5068e Fn_J0_charAt_5068e := CON_ofFC hY (by decide +kernel) rfl rfl (saC_J0_charAt_5068e l hY) vc_J0_charAt_5068e
set_option maxRecDepth 20000 in
theorem saC_J7_fill_53178 (l : Launch) {C : List (Nat × Nat)} (hY : CHY C) : SNDALLC C l prog_21_method_103_code "java/util/Arrays" 4 none rm_J7_fill_53178 P_J7_fill_53178 pc_J7_fill_53178 := fun p e s m args below meth c cells slots Q D dA ad A RR hC hR => by
  have hM := RTX_roomC (R := rm_J7_fill_53178) hR
  exact ⟨sc_iconst hC (n := 0) (x := 0) (dc_J7_fill_53178 0 (0, .iconst 0, 1) rfl rfl) rfl (by decide),
    sc_istore_n hC (n := 1) (k := 2) (dc_J7_fill_53178 1 (1, .istore_n 2, 1) rfl rfl) rfl rfl (by decide),
    sc_aload_n hC (n := 2) (k := 0) (dc_J7_fill_53178 2 (2, .aload_n 0, 1) rfl rfl) rfl rfl,
    sc_alen hC (n := 3) (dc_J7_fill_53178 3 (3, .arraylength, 1) rfl rfl) rfl,
    sc_istore_n hC (n := 4) (k := 3) (dc_J7_fill_53178 4 (4, .istore_n 3, 1) rfl rfl) rfl rfl (by decide),
    sc_iload_n hC (n := 5) (k := 2) (dc_J7_fill_53178 5 (5, .iload_n 2, 1) rfl rfl) rfl rfl,
    sc_iload_n hC (n := 6) (k := 3) (dc_J7_fill_53178 6 (6, .iload_n 3, 1) rfl rfl) rfl rfl,
    sc_icge hC (n := 7) (dc_J7_fill_53178 7 (7, .if_icmp .ge 13, 3) rfl rfl) rfl (by decide),
    sc_aload_n hC (n := 8) (k := 0) (dc_J7_fill_53178 8 (10, .aload_n 0, 1) rfl rfl) rfl rfl,
    sc_iload_n hC (n := 9) (k := 2) (dc_J7_fill_53178 9 (11, .iload_n 2, 1) rfl rfl) rfl rfl,
    sc_iload_n hC (n := 10) (k := 1) (dc_J7_fill_53178 10 (12, .iload_n 1, 1) rfl rfl) rfl rfl,
    sc_iast hC (n := 11) (dc_J7_fill_53178 11 (13, .iastore, 1) rfl rfl) rfl,
    sc_iinc hC (n := 12) (x := 1) (dc_J7_fill_53178 12 (14, .iinc 2 1, 3) rfl rfl) rfl (by decide) (by decide),
    sc_goto hC (n := 13) (dc_J7_fill_53178 13 (17, .goto (-12), 3) rfl rfl) (by decide),
    sc_vret hC (n := 14) hR (dc_J7_fill_53178 14 (20, .return_, 1) rfl rfl), trivial⟩
theorem conC_J7_fill_53178 (l : Launch) {C : List (Nat × Nat)} (hY : CHY C) : CONC C l y_J7_fill_53178 prog_21_method_103_code 4 none rm_J7_fill_53178 Pre_J7_fill_53178 Fn_J7_fill_53178 := CON_ofFC hY (by decide +kernel) rfl rfl (saC_J7_fill_53178 l hY) vc_J7_fill_53178
set_option maxRecDepth 20000 in
theorem saC_J7_fill_d0a16 (l : Launch) {C : List (Nat × Nat)} (hY : CHY C) : SNDALLC C l prog_21_method_101_code "java/util/Arrays" 5 none rm_J7_fill_d0a16 P_J7_fill_d0a16 pc_J7_fill_d0a16 := fun p e s m args below meth c cells slots Q D dA ad A RR hC hR => by
  have hM := RTX_roomC (R := rm_J7_fill_d0a16) hR
  exact ⟨sc_iconst hC (n := 0) (x := 0) (dc_J7_fill_d0a16 0 (0, .iconst 0, 1) rfl rfl) rfl (by decide),
    sc_istore_n hC (n := 1) (k := 3) (dc_J7_fill_d0a16 1 (1, .istore_n 3, 1) rfl rfl) rfl rfl (by decide),
    sc_aload_n hC (n := 2) (k := 0) (dc_J7_fill_d0a16 2 (2, .aload_n 0, 1) rfl rfl) rfl rfl,
    sc_alen hC (n := 3) (dc_J7_fill_d0a16 3 (3, .arraylength, 1) rfl rfl) rfl,
    sc_istore hC (n := 4) (dc_J7_fill_d0a16 4 (4, .istore 4, 2) rfl rfl) rfl (by decide),
    sc_iload_n hC (n := 5) (k := 3) (dc_J7_fill_d0a16 5 (6, .iload_n 3, 1) rfl rfl) rfl rfl,
    sc_iload hC (n := 6) (dc_J7_fill_d0a16 6 (7, .iload 4, 2) rfl rfl) rfl,
    sc_icge hC (n := 7) (dc_J7_fill_d0a16 7 (9, .if_icmp .ge 13, 3) rfl rfl) rfl (by decide),
    sc_aload_n hC (n := 8) (k := 0) (dc_J7_fill_d0a16 8 (12, .aload_n 0, 1) rfl rfl) rfl rfl,
    sc_iload_n hC (n := 9) (k := 3) (dc_J7_fill_d0a16 9 (13, .iload_n 3, 1) rfl rfl) rfl rfl,
    sc_lload_n hC (n := 10) (k := 1) (dc_J7_fill_d0a16 10 (14, .lload_n 1, 1) rfl rfl) rfl rfl,
    sc_last hC (n := 11) (dc_J7_fill_d0a16 11 (15, .lastore, 1) rfl rfl) rfl,
    sc_iinc hC (n := 12) (x := 1) (dc_J7_fill_d0a16 12 (16, .iinc 3 1, 3) rfl rfl) rfl (by decide) (by decide),
    sc_goto hC (n := 13) (dc_J7_fill_d0a16 13 (19, .goto (-13), 3) rfl rfl) (by decide),
    sc_vret hC (n := 14) hR (dc_J7_fill_d0a16 14 (22, .return_, 1) rfl rfl), trivial⟩
theorem conC_J7_fill_d0a16 (l : Launch) {C : List (Nat × Nat)} (hY : CHY C) : CONC C l y_J7_fill_d0a16 prog_21_method_101_code 5 none rm_J7_fill_d0a16 Pre_J7_fill_d0a16 Fn_J7_fill_d0a16 := CON_ofFC hY (by decide +kernel) rfl rfl (saC_J7_fill_d0a16 l hY) vc_J7_fill_d0a16
set_option maxRecDepth 20000 in
theorem saC_X1_clear (l : Launch) {C : List (Nat × Nat)} (hY : CHY C) : SNDALLC C l prog_3_method_2_code "GivenUp$Deeds" 1 none rm_X1_clear P_X1_clear pc_X1_clear := fun p e s m args below meth c cells slots Q D dA ad A RR hC hR => by
  have hM := RTX_roomC (R := rm_X1_clear) hR
  exact ⟨sc_aload_n hC (n := 0) (k := 0) (dc_X1_clear 0 (0, .aload_n 0, 1) rfl rfl) rfl rfl,
    sc_getR hC (n := 1) (k := 1) (j := 0) (dc_X1_clear 1 (1, .getfield 9, 3) rfl rfl) rfl clf_1 (by decide) rfl (by decide) wd_463,
    sc_iconst hC (n := 2) (x := 0) (dc_X1_clear 2 (4, .iconst 0, 1) rfl rfl) rfl (by decide),
    sc_callS hC (n := 3) (na := 2) (conC_J7_fill_53178 l hY) (dc_X1_clear 3 (5, .invokestatic 34, 3) rfl rfl) rfl wd_565 wd_158 (by decide) ⟨rfl, rfl, by decide, by decide⟩ hM wd_570 wd_564,
    sc_aload_n hC (n := 4) (k := 0) (dc_X1_clear 4 (8, .aload_n 0, 1) rfl rfl) rfl rfl,
    sc_getR hC (n := 5) (k := 1) (j := 1) (dc_X1_clear 5 (9, .getfield 15, 3) rfl rfl) rfl clf_1 (by decide) rfl (by decide) wd_467,
    sc_iconst hC (n := 6) (x := 0) (dc_X1_clear 6 (12, .iconst 0, 1) rfl rfl) rfl (by decide),
    sc_callS hC (n := 7) (na := 2) (conC_J7_fill_53178 l hY) (dc_X1_clear 7 (13, .invokestatic 34, 3) rfl rfl) rfl wd_565 wd_158 (by decide) ⟨rfl, rfl, by decide, by decide⟩ hM wd_570 wd_564,
    sc_aload_n hC (n := 8) (k := 0) (dc_X1_clear 8 (16, .aload_n 0, 1) rfl rfl) rfl rfl,
    sc_getR hC (n := 9) (k := 1) (j := 2) (dc_X1_clear 9 (17, .getfield 18, 3) rfl rfl) rfl clf_1 (by decide) rfl (by decide) wd_471,
    sc_iconst hC (n := 10) (x := (-1)) (dc_X1_clear 10 (20, .iconst (-1), 1) rfl rfl) rfl (by decide),
    sc_callS hC (n := 11) (na := 2) (conC_J7_fill_53178 l hY) (dc_X1_clear 11 (21, .invokestatic 34, 3) rfl rfl) rfl wd_565 wd_158 (by decide) ⟨rfl, rfl, by decide, by decide⟩ hM wd_570 wd_564,
    sc_aload_n hC (n := 12) (k := 0) (dc_X1_clear 12 (24, .aload_n 0, 1) rfl rfl) rfl rfl,
    sc_getR hC (n := 13) (k := 1) (j := 3) (dc_X1_clear 13 (25, .getfield 21, 3) rfl rfl) rfl clf_1 (by decide) rfl (by decide) wd_474,
    sc_iconst hC (n := 14) (x := (-1)) (dc_X1_clear 14 (28, .iconst (-1), 1) rfl rfl) rfl (by decide),
    sc_callS hC (n := 15) (na := 2) (conC_J7_fill_53178 l hY) (dc_X1_clear 15 (29, .invokestatic 34, 3) rfl rfl) rfl wd_565 wd_158 (by decide) ⟨rfl, rfl, by decide, by decide⟩ hM wd_570 wd_564,
    sc_aload_n hC (n := 16) (k := 0) (dc_X1_clear 16 (32, .aload_n 0, 1) rfl rfl) rfl rfl,
    sc_iconst hC (n := 17) (x := 0) (dc_X1_clear 17 (33, .iconst 0, 1) rfl rfl) rfl (by decide),
    sc_putI hC (n := 18) (k := 1) (j := 4) (dc_X1_clear 18 (34, .putfield 24, 3) rfl rfl) rfl clf_1 (by decide) rfl rfl rfl wd_477,
    sc_aload_n hC (n := 19) (k := 0) (dc_X1_clear 19 (37, .aload_n 0, 1) rfl rfl) rfl rfl,
    sc_iconst hC (n := 20) (x := 0) (dc_X1_clear 20 (38, .iconst 0, 1) rfl rfl) rfl (by decide),
    sc_putI hC (n := 21) (k := 1) (j := 5) (dc_X1_clear 21 (39, .putfield 28, 3) rfl rfl) rfl clf_1 (by decide) rfl rfl rfl wd_481,
    sc_aload_n hC (n := 22) (k := 0) (dc_X1_clear 22 (42, .aload_n 0, 1) rfl rfl) rfl rfl,
    sc_iconst hC (n := 23) (x := 0) (dc_X1_clear 23 (43, .iconst 0, 1) rfl rfl) rfl (by decide),
    sc_putI hC (n := 24) (k := 1) (j := 6) (dc_X1_clear 24 (44, .putfield 31, 3) rfl rfl) rfl clf_1 (by decide) rfl rfl rfl wd_485,
    sc_vret hC (n := 25) hR (dc_X1_clear 25 (47, .return_, 1) rfl rfl), trivial⟩
theorem conC_X1_clear (l : Launch) {C : List (Nat × Nat)} (hY : CHY C) : CONC C l y_X1_clear prog_3_method_2_code 1 none rm_X1_clear Pre_X1_clear Fn_X1_clear := CON_ofC hY (by decide) rfl rfl (saC_X1_clear l hY) vc_X1_clear
--tpl ⟨_, rfl⟩ ||  || ylM {m} {g0}
set_option maxRecDepth 20000 in
theorem saC_X9_clear (l : Launch) {C : List (Nat × Nat)} (hY : CHY C) : SNDALLC C l prog_11_method_2_code "GivenUp$Years" 1 none rm_X9_clear P_X9_clear pc_X9_clear := fun p e s m args below meth c cells slots Q D dA ad A RR hC hR => by
  have hM := RTX_roomC (R := rm_X9_clear) hR
  exact ⟨sc_aload_n hC (n := 0) (k := 0) (dc_X9_clear 0 (0, .aload_n 0, 1) rfl rfl) rfl rfl,
    sc_iconst hC (n := 1) (x := 0) (dc_X9_clear 1 (1, .iconst 0, 1) rfl rfl) rfl (by decide),
    sc_putZ hC (n := 2) (k := 9) (j := 6) (dc_X9_clear 2 (2, .putfield 30, 3) rfl rfl) rfl clf_9 (by decide) rfl rfl rfl wd_528,
    sc_aload_n hC (n := 3) (k := 0) (dc_X9_clear 3 (5, .aload_n 0, 1) rfl rfl) rfl rfl,
    sc_iconst hC (n := 4) (x := 0) (dc_X9_clear 4 (6, .iconst 0, 1) rfl rfl) rfl (by decide),
    sc_putI hC (n := 5) (k := 9) (j := 7) (dc_X9_clear 5 (7, .putfield 34, 3) rfl rfl) rfl clf_9 (by decide) rfl rfl rfl wd_531,
    sc_aload_n hC (n := 6) (k := 0) (dc_X9_clear 6 (10, .aload_n 0, 1) rfl rfl) rfl rfl,
    sc_iconst hC (n := 7) (x := 0) (dc_X9_clear 7 (11, .iconst 0, 1) rfl rfl) rfl (by decide),
    sc_putI hC (n := 8) (k := 9) (j := 8) (dc_X9_clear 8 (12, .putfield 38, 3) rfl rfl) rfl clf_9 (by decide) rfl rfl rfl wd_534,
    sc_vret hC (n := 9) hR (dc_X9_clear 9 (15, .return_, 1) rfl rfl), trivial⟩
theorem conC_X9_clear (l : Launch) {C : List (Nat × Nat)} (hY : CHY C) : CONC C l y_X9_clear prog_11_method_2_code 1 none rm_X9_clear Pre_X9_clear Fn_X9_clear := CON_ofC hY (by decide) rfl rfl (saC_X9_clear l hY) vc_X9_clear
--tpl ⟨_, rfl⟩ ||  || vlM3 {m} {g0}
set_option maxRecDepth 20000 in
theorem saC_X6_clear (l : Launch) {C : List (Nat × Nat)} (hY : CHY C) : SNDALLC C l prog_8_method_2_code "GivenUp$Valley" 1 none rm_X6_clear P_X6_clear pc_X6_clear := fun p e s m args below meth c cells slots Q D dA ad A RR hC hR => by
  have hM := RTX_roomC (R := rm_X6_clear) hR
  exact ⟨sc_aload_n hC (n := 0) (k := 0) (dc_X6_clear 0 (0, .aload_n 0, 1) rfl rfl) rfl rfl,
    sc_getR hC (n := 1) (k := 6) (j := 0) (dc_X6_clear 1 (1, .getfield 9, 3) rfl rfl) rfl clf_6 (by decide) rfl (by decide) wd_575,
    sc_lconst hC (n := 2) (x := 0) (dc_X6_clear 2 (4, .lconst 0, 1) rfl rfl) rfl (by decide),
    sc_callS hC (n := 3) (na := 2) (conC_J7_fill_d0a16 l hY) (dc_X6_clear 3 (5, .invokestatic 85, 3) rfl rfl) rfl wd_562 wd_158 (by decide) ⟨rfl, rfl, by decide, by decide⟩ hM wd_560 wd_561,
    sc_aload_n hC (n := 4) (k := 0) (dc_X6_clear 4 (8, .aload_n 0, 1) rfl rfl) rfl rfl,
    sc_getR hC (n := 5) (k := 6) (j := 2) (dc_X6_clear 5 (9, .getfield 19, 3) rfl rfl) rfl clf_6 (by decide) rfl (by decide) wd_581,
    sc_iconst hC (n := 6) (x := 0) (dc_X6_clear 6 (12, .iconst 0, 1) rfl rfl) rfl (by decide),
    sc_callS hC (n := 7) (na := 2) (conC_J7_fill_53178 l hY) (dc_X6_clear 7 (13, .invokestatic 91, 3) rfl rfl) rfl wd_565 wd_158 (by decide) ⟨rfl, rfl, by decide, by decide⟩ hM wd_563 wd_564,
    sc_aload_n hC (n := 8) (k := 0) (dc_X6_clear 8 (16, .aload_n 0, 1) rfl rfl) rfl rfl,
    sc_getR hC (n := 9) (k := 6) (j := 8) (dc_X6_clear 9 (17, .getfield 37, 3) rfl rfl) rfl clf_6 (by decide) rfl (by decide) wd_601,
    sc_iconst hC (n := 10) (x := 0) (dc_X6_clear 10 (20, .iconst 0, 1) rfl rfl) rfl (by decide),
    sc_callS hC (n := 11) (na := 2) (conC_J7_fill_53178 l hY) (dc_X6_clear 11 (21, .invokestatic 91, 3) rfl rfl) rfl wd_565 wd_158 (by decide) ⟨rfl, rfl, by decide, by decide⟩ hM wd_563 wd_564,
    sc_aload_n hC (n := 12) (k := 0) (dc_X6_clear 12 (24, .aload_n 0, 1) rfl rfl) rfl rfl,
    sc_getR hC (n := 13) (k := 6) (j := 9) (dc_X6_clear 13 (25, .getfield 40, 3) rfl rfl) rfl clf_6 (by decide) rfl (by decide) wd_605,
    sc_iconst hC (n := 14) (x := 0) (dc_X6_clear 14 (28, .iconst 0, 1) rfl rfl) rfl (by decide),
    sc_callS hC (n := 15) (na := 2) (conC_J7_fill_53178 l hY) (dc_X6_clear 15 (29, .invokestatic 91, 3) rfl rfl) rfl wd_565 wd_158 (by decide) ⟨rfl, rfl, by decide, by decide⟩ hM wd_563 wd_564,
    sc_aload_n hC (n := 16) (k := 0) (dc_X6_clear 16 (32, .aload_n 0, 1) rfl rfl) rfl rfl,
    sc_getR hC (n := 17) (k := 6) (j := 10) (dc_X6_clear 17 (33, .getfield 43, 3) rfl rfl) rfl clf_6 (by decide) rfl (by decide) wd_608,
    sc_iconst hC (n := 18) (x := (-1)) (dc_X6_clear 18 (36, .iconst (-1), 1) rfl rfl) rfl (by decide),
    sc_callS hC (n := 19) (na := 2) (conC_J7_fill_53178 l hY) (dc_X6_clear 19 (37, .invokestatic 91, 3) rfl rfl) rfl wd_565 wd_158 (by decide) ⟨rfl, rfl, by decide, by decide⟩ hM wd_563 wd_564,
    sc_aload_n hC (n := 20) (k := 0) (dc_X6_clear 20 (40, .aload_n 0, 1) rfl rfl) rfl rfl,
    sc_iconst hC (n := 21) (x := 0) (dc_X6_clear 21 (41, .iconst 0, 1) rfl rfl) rfl (by decide),
    sc_putI hC (n := 22) (k := 6) (j := 19) (dc_X6_clear 22 (42, .putfield 79, 3) rfl rfl) rfl clf_6 (by decide) rfl rfl rfl wd_644,
    sc_aload_n hC (n := 23) (k := 0) (dc_X6_clear 23 (45, .aload_n 0, 1) rfl rfl) rfl rfl,
    sc_getR hC (n := 24) (k := 6) (j := 11) (dc_X6_clear 24 (46, .getfield 49, 3) rfl rfl) rfl clf_6 (by decide) rfl (by decide) wd_610,
    sc_callV hC (n := 25) (k := 1) (na := 0) (conC_X1_clear l hY) (dc_X6_clear 25 (49, .invokevirtual 94, 3) rfl rfl) rfl wd_569 wd_156 (by decide) ⟨rfl, rfl, by decide, by decide⟩ hM wd_566 wd_567 wd_568 clf_1,
    sc_aload_n hC (n := 26) (k := 0) (dc_X6_clear 26 (52, .aload_n 0, 1) rfl rfl) rfl rfl,
    sc_getR hC (n := 27) (k := 6) (j := 12) (dc_X6_clear 27 (53, .getfield 56, 3) rfl rfl) rfl clf_6 (by decide) rfl (by decide) wd_614,
    sc_callV hC (n := 28) (k := 9) (na := 0) (conC_X9_clear l hY) (dc_X6_clear 28 (56, .invokevirtual 95, 3) rfl rfl) rfl wd_574 wd_157 (by decide) ⟨rfl, rfl, by decide, by decide⟩ hM wd_571 wd_572 wd_573 clf_9,
    sc_aload_n hC (n := 29) (k := 0) (dc_X6_clear 29 (59, .aload_n 0, 1) rfl rfl) rfl rfl,
    sc_iconst hC (n := 30) (x := 0) (dc_X6_clear 30 (60, .iconst 0, 1) rfl rfl) rfl (by decide),
    sc_putI hC (n := 31) (k := 6) (j := 13) (dc_X6_clear 31 (61, .putfield 60, 3) rfl rfl) rfl clf_6 (by decide) rfl rfl rfl wd_617,
    sc_aload_n hC (n := 32) (k := 0) (dc_X6_clear 32 (64, .aload_n 0, 1) rfl rfl) rfl rfl,
    sc_iconst hC (n := 33) (x := 0) (dc_X6_clear 33 (65, .iconst 0, 1) rfl rfl) rfl (by decide),
    sc_putI hC (n := 34) (k := 6) (j := 14) (dc_X6_clear 34 (66, .putfield 64, 3) rfl rfl) rfl clf_6 (by decide) rfl rfl rfl wd_623,
    sc_aload_n hC (n := 35) (k := 0) (dc_X6_clear 35 (69, .aload_n 0, 1) rfl rfl) rfl rfl,
    sc_iconst hC (n := 36) (x := 0) (dc_X6_clear 36 (70, .iconst 0, 1) rfl rfl) rfl (by decide),
    sc_putI hC (n := 37) (k := 6) (j := 15) (dc_X6_clear 37 (71, .putfield 67, 3) rfl rfl) rfl clf_6 (by decide) rfl rfl rfl wd_629,
    sc_aload_n hC (n := 38) (k := 0) (dc_X6_clear 38 (74, .aload_n 0, 1) rfl rfl) rfl rfl,
    sc_iconst hC (n := 39) (x := 0) (dc_X6_clear 39 (75, .iconst 0, 1) rfl rfl) rfl (by decide),
    sc_putI hC (n := 40) (k := 6) (j := 16) (dc_X6_clear 40 (76, .putfield 70, 3) rfl rfl) rfl clf_6 (by decide) rfl rfl rfl wd_634,
    sc_aload_n hC (n := 41) (k := 0) (dc_X6_clear 41 (79, .aload_n 0, 1) rfl rfl) rfl rfl,
    sc_iconst hC (n := 42) (x := 2) (dc_X6_clear 42 (80, .iconst 2, 1) rfl rfl) rfl (by decide),
    sc_putI hC (n := 43) (k := 6) (j := 17) (dc_X6_clear 43 (81, .putfield 73, 3) rfl rfl) rfl clf_6 (by decide) rfl rfl rfl wd_637,
    sc_aload_n hC (n := 44) (k := 0) (dc_X6_clear 44 (84, .aload_n 0, 1) rfl rfl) rfl rfl,
    sc_iconst hC (n := 45) (x := 4) (dc_X6_clear 45 (85, .iconst 4, 1) rfl rfl) rfl (by decide),
    sc_putI hC (n := 46) (k := 6) (j := 18) (dc_X6_clear 46 (86, .putfield 76, 3) rfl rfl) rfl clf_6 (by decide) rfl rfl rfl wd_641,
    sc_vret hC (n := 47) hR (dc_X6_clear 47 (89, .return_, 1) rfl rfl), trivial⟩
theorem conC_X6_clear (l : Launch) {C : List (Nat × Nat)} (hY : CHY C) : CONC C l y_X6_clear prog_8_method_2_code 1 none rm_X6_clear Pre_X6_clear Fn_X6_clear := CON_ofC hY (by decide) rfl rfl (saC_X6_clear l hY) vc_X6_clear
set_option maxRecDepth 20000 in
theorem saC_X12_plain (l : Launch) {C : List (Nat × Nat)} (hY : CHY C) : SNDALLC C l prog_14_method_2_code "GivenUpModel" 3 none rm_X12_plain P_X12_plain pc_X12_plain := fun p e s m args below meth c cells slots Q D dA ad A RR hC hR => by
  have hM := RTX_roomC (R := rm_X12_plain) hR
  exact ⟨sc_iconst hC (n := 0) (x := 0) (dc_X12_plain 0 (0, .iconst 0, 1) rfl rfl) rfl (by decide),
    sc_istore_n hC (n := 1) (k := 2) (dc_X12_plain 1 (1, .istore_n 2, 1) rfl rfl) rfl rfl (by decide),
    sc_iload_n hC (n := 2) (k := 2) (dc_X12_plain 2 (2, .iload_n 2, 1) rfl rfl) rfl rfl,
    sc_sipush hC (n := 3) (x := 510) (dc_X12_plain 3 (3, .sipush 510, 3) rfl rfl) rfl (by decide),
    sc_icge hC (n := 4) (dc_X12_plain 4 (6, .if_icmp .ge 18, 3) rfl rfl) rfl (by decide),
    sc_aload_n hC (n := 5) (k := 0) (dc_X12_plain 5 (9, .aload_n 0, 1) rfl rfl) rfl rfl,
    sc_getR hC (n := 6) (k := 12) (j := 0) (dc_X12_plain 6 (10, .getfield 7, 3) rfl rfl) rfl clf_12 (by decide) rfl (by decide) wd_1552,
    sc_iload_n hC (n := 7) (k := 1) (dc_X12_plain 7 (13, .iload_n 1, 1) rfl rfl) rfl rfl,
    sc_iload_n hC (n := 8) (k := 2) (dc_X12_plain 8 (14, .iload_n 2, 1) rfl rfl) rfl rfl,
    sc_iadd hC (n := 9) (dc_X12_plain 9 (15, .iadd, 1) rfl rfl) rfl,
    sc_iconst hC (n := 10) (x := 0) (dc_X12_plain 10 (16, .iconst 0, 1) rfl rfl) rfl (by decide),
    sc_iast hC (n := 11) (dc_X12_plain 11 (17, .iastore, 1) rfl rfl) rfl,
    sc_iinc hC (n := 12) (x := 1) (dc_X12_plain 12 (18, .iinc 2 1, 3) rfl rfl) rfl (by decide) (by decide),
    sc_goto hC (n := 13) (dc_X12_plain 13 (21, .goto (-19), 3) rfl rfl) (by decide),
    sc_aload_n hC (n := 14) (k := 0) (dc_X12_plain 14 (24, .aload_n 0, 1) rfl rfl) rfl rfl,
    sc_getR hC (n := 15) (k := 12) (j := 0) (dc_X12_plain 15 (25, .getfield 7, 3) rfl rfl) rfl clf_12 (by decide) rfl (by decide) wd_1552,
    sc_iload_n hC (n := 16) (k := 1) (dc_X12_plain 16 (28, .iload_n 1, 1) rfl rfl) rfl rfl,
    sc_iconst hC (n := 17) (x := 4) (dc_X12_plain 17 (29, .iconst 4, 1) rfl rfl) rfl (by decide),
    sc_iadd hC (n := 18) (dc_X12_plain 18 (30, .iadd, 1) rfl rfl) rfl,
    sc_iconst hC (n := 19) (x := 2) (dc_X12_plain 19 (31, .iconst 2, 1) rfl rfl) rfl (by decide),
    sc_iast hC (n := 20) (dc_X12_plain 20 (32, .iastore, 1) rfl rfl) rfl,
    sc_aload_n hC (n := 21) (k := 0) (dc_X12_plain 21 (33, .aload_n 0, 1) rfl rfl) rfl rfl,
    sc_getR hC (n := 22) (k := 12) (j := 0) (dc_X12_plain 22 (34, .getfield 7, 3) rfl rfl) rfl clf_12 (by decide) rfl (by decide) wd_1552,
    sc_iload_n hC (n := 23) (k := 1) (dc_X12_plain 23 (37, .iload_n 1, 1) rfl rfl) rfl rfl,
    sc_iconst hC (n := 24) (x := 5) (dc_X12_plain 24 (38, .iconst 5, 1) rfl rfl) rfl (by decide),
    sc_iadd hC (n := 25) (dc_X12_plain 25 (39, .iadd, 1) rfl rfl) rfl,
    sc_iconst hC (n := 26) (x := 4) (dc_X12_plain 26 (40, .iconst 4, 1) rfl rfl) rfl (by decide),
    sc_iast hC (n := 27) (dc_X12_plain 27 (41, .iastore, 1) rfl rfl) rfl,
    sc_aload_n hC (n := 28) (k := 0) (dc_X12_plain 28 (42, .aload_n 0, 1) rfl rfl) rfl rfl,
    sc_getR hC (n := 29) (k := 12) (j := 0) (dc_X12_plain 29 (43, .getfield 7, 3) rfl rfl) rfl clf_12 (by decide) rfl (by decide) wd_1552,
    sc_iload_n hC (n := 30) (k := 1) (dc_X12_plain 30 (46, .iload_n 1, 1) rfl rfl) rfl rfl,
    sc_bipush hC (n := 31) (x := 10) (dc_X12_plain 31 (47, .bipush 10, 2) rfl rfl) rfl (by decide),
    sc_iadd hC (n := 32) (dc_X12_plain 32 (49, .iadd, 1) rfl rfl) rfl,
    sc_iconst hC (n := 33) (x := (-1)) (dc_X12_plain 33 (50, .iconst (-1), 1) rfl rfl) rfl (by decide),
    sc_iast hC (n := 34) (dc_X12_plain 34 (51, .iastore, 1) rfl rfl) rfl,
    sc_vret hC (n := 35) hR (dc_X12_plain 35 (52, .return_, 1) rfl rfl), trivial⟩
theorem conC_X12_plain (l : Launch) {C : List (Nat × Nat)} (hY : CHY C) : CONC C l y_X12_plain prog_14_method_2_code 3 none rm_X12_plain Pre_X12_plain Fn_X12_plain := CON_ofC hY (by decide) rfl rfl (saC_X12_plain l hY) vc_X12_plain

end
