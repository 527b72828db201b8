/-! PART 40: the two String constants; the JDK methods that read them -/

/-! the two String constants: lengths, bytes -/
def slen (g : Nat) : Nat := ([153, 154] : List Nat).getD g 0
def sbyt (g k : Nat) : Int32 := (([KB KT0, KB KT1] : List (List Int32)).getD g []).getD k 0
def s_no : StpT := fun _ _ _ _ _ _ => False
theorem mo_s_no : monoS s_no := fun _ _ _ _ _ _ _ _ h => h
def s_ldS (i : Nat) : StpT := fun _ K n ls st m => K (n + 1) ls (Sum.inr (Sum.inr (72, i)) :: st) m
theorem mo_s_ldS {i : Nat} : monoS (s_ldS i) := fun _ _ _ h _ _ _ _ hs => h _ _ _ _ hs
def s_sval : StpT := fun _ K n ls st m => match st with
  | Sum.inr (Sum.inr (k, g)) :: st' => cond (Nat.beq k 72) (K (n + 1) ls (Sum.inr (Sum.inr (73, g)) :: st') m) False
  | _ => False
theorem mo_s_sval : monoS (s_sval) := by
  intro R K K' h n ls st m hs
  unfold s_sval at hs ⊢
  split at hs
  · cases q : (Nat.beq _ _) <;> rw [q] at hs
    · exact hs
    · exact h _ _ _ _ hs
  · exact hs
def s_scod : StpT := fun _ K n ls st m => match st with
  | Sum.inr (Sum.inr (k, g)) :: st' => cond (Nat.beq k 72) (K (n + 1) ls (Sum.inl 0 :: st') m) False
  | _ => False
theorem mo_s_scod : monoS (s_scod) := by
  intro R K K' h n ls st m hs
  unfold s_scod at hs ⊢
  split at hs
  · cases q : (Nat.beq _ _) <;> rw [q] at hs
    · exact hs
    · exact h _ _ _ _ hs
  · exact hs
def s_slen : StpT := fun _ K n ls st m => match st with
  | Sum.inr (Sum.inr (k, g)) :: st' => cond (Nat.beq k 73) (K (n + 1) ls (Sum.inl (nI (slen g)) :: st') m) False
  | _ => False
theorem mo_s_slen : monoS (s_slen) := by
  intro R K K' h n ls st m hs
  unfold s_slen at hs ⊢
  split at hs
  · cases q : (Nat.beq _ _) <;> rw [q] at hs
    · exact hs
    · exact h _ _ _ _ hs
  · exact hs
def s_sbal : StpT := fun _ K n ls st m => match st with
  | Sum.inl i :: Sum.inr (Sum.inr (k, g)) :: st' => cond (Nat.beq k 73) (inb i (slen g) = true ∧ K (n + 1) ls (Sum.inl (sbyt g i.toNatClampNeg) :: st') m) False
  | _ => False
theorem mo_s_sbal : monoS s_sbal := by
  intro R K K' h n ls st m hs
  unfold s_sbal at hs ⊢
  split at hs
  · cases q : (Nat.beq _ _) <;> rw [q] at hs
    · exact hs
    · exact ⟨hs.1, h _ _ _ _ hs.2⟩
  · exact hs
def s_gsZ : StpT := fun _ K n ls st m => K (n + 1) ls (Sum.inl 1 :: st) m
theorem mo_s_gsZ : monoS s_gsZ := fun _ _ _ h _ _ _ _ hs => h _ _ _ _ hs
def s_i2c : StpT := fun _ K n ls st m => match st with
  | Sum.inl x :: st' => K (n + 1) ls (Sum.inl (x.toUInt32 % 65536).toInt32 :: st') m
  | _ => False
theorem mo_s_i2c : monoS s_i2c := by
  intro R K K' h n ls st m hs
  unfold s_i2c at hs ⊢
  split at hs
  · exact h _ _ _ _ hs
  · exact hs
/-- the JDK's own check of an index: three steps in one -/
def s_ckI : StpT := fun _ K n ls st m => match st with
  | Sum.inl b :: Sum.inl i :: st' => cond (Nat.ble (csum st') 8) ((¬ i < 0 ∧ i < b) ∧ K (n + 3) ls st' m) False
  | _ => False
theorem mo_s_ckI : monoS s_ckI := by
  intro R K K' h n ls st m hs
  unfold s_ckI at hs ⊢
  split at hs
  · cases q : (Nat.ble _ _) <;> rw [q] at hs
    · exact hs
    · exact ⟨hs.1, h _ _ _ _ hs.2⟩
  · exact hs
section FW40
variable {p : Program} {l : Launch} {e : Env} {R : Room} {s : State} {m : MethodId} {args : Array Value} {below : List Frame} {meth : Method} {c : Code} {cells slots : Nat} {Q : State → Prop} {nL : Nat} {D : va_G} {dA : Nat → ClassId} {ad : Nat → Nat → Nat} {A : Nat → Prop} {pcs : Nat → Nat} {cc : ByteArray} {own : String} {RR : RetP}
theorem st_no {n : Nat} : SND RR (XK p l e R s m args below meth c cells slots Q nL D dA ad A pcs) n s_no := ⟨mo_s_no, fun _ _ _ h => h.elim⟩
theorem st_ldS0 (hC : CX p s m args c cc own nL D dA ad A) {n : Nat} (hd : decode cc (pcs n) = .ok (.ldc 48, 2)) (hn : pcs (n + 1) = pcs n + 2) (ho : own = "GivenUp$Text") : SND RR (XK p l e R s m args below meth c cells slots Q nL D dA ad A pcs) n (s_ldS 0) := by
  refine ⟨mo_s_ldS, fun ls st mm h => ?_⟩
  obtain ⟨hx, hb, hml, hown, hts, hK, hN, hE, hAW⟩ := hC
  intro hl hol hos hom H locs arr hP hD hS hz hL
  have k1 := h hl hol (oks_c (v := Sum.inr (Sum.inr (72, 0))) (show 0 < cnt 72 by decide) hos) hom H locs arr hP hD hS hz hL
  rw [hn] at k1
  subst ho
  exact va_ldcS hx hb hown hE.2.1 hd k1
theorem st_ldS1 (hC : CX p s m args c cc own nL D dA ad A) {n : Nat} (hd : decode cc (pcs n) = .ok (.ldc 180, 2)) (hn : pcs (n + 1) = pcs n + 2) (ho : own = "GivenUpModel") : SND RR (XK p l e R s m args below meth c cells slots Q nL D dA ad A pcs) n (s_ldS 1) := by
  refine ⟨mo_s_ldS, fun ls st mm h => ?_⟩
  obtain ⟨hx, hb, hml, hown, hts, hK, hN, hE, hAW⟩ := hC
  intro hl hol hos hom H locs arr hP hD hS hz hL
  have k1 := h hl hol (oks_c (v := Sum.inr (Sum.inr (72, 1))) (show 1 < cnt 72 by decide) hos) hom H locs arr hP hD hS hz hL
  rw [hn] at k1
  subst ho
  exact va_ldcS hx hb hown hE.2.2.1 hd k1
theorem st_sval (hC : CX p s m args c cc own nL D dA ad A) {n : Nat} (hd : decode cc (pcs n) = .ok (.getfield 9, 3)) (hn : pcs (n + 1) = pcs n + 3) (ho : own = "java/lang/String") (hw : Cond.fieldLink "java/lang/String" 9 "java/lang/String" "value" "[B" ∈ TBL) : SND RR (XK p l e R s m args below meth c cells slots Q nL D dA ad A pcs) n s_sval := by
  refine ⟨mo_s_sval, fun ls st mm h => ?_⟩
  obtain ⟨hx, hb, hml, hown, hts, hK, hN, hE, hAW⟩ := hC
  intro hl hol hos hom H locs arr hP hD hS hz hL
  unfold s_sval at h
  split at h
  · rename_i k g st'
    cases q : Nat.beq k 72 <;> rw [q] at h
    · exact h.elim
    · have e := Nat.eq_of_beq_eq_true q
      subst e
      have hg : g < 2 := oks_h hos
      have k1 := h hl hol (oks_c (v := Sum.inr (Sum.inr (73, g))) (show g < cnt 73 from hg) (oks_t hos)) hom H locs arr hP hD hS hz hL
      rw [hn] at k1
      subst ho
      exact vk_getf hx hb (hE.1.1 g hg).2.2.1 hS hown (hts _ hw) (fun _ z => z) hd k1
  · exact h.elim
theorem st_scod (hC : CX p s m args c cc own nL D dA ad A) {n : Nat} (hd : decode cc (pcs n) = .ok (.getfield 15, 3)) (hn : pcs (n + 1) = pcs n + 3) (ho : own = "java/lang/String") (hw : Cond.fieldLink "java/lang/String" 15 "java/lang/String" "coder" "B" ∈ TBL) : SND RR (XK p l e R s m args below meth c cells slots Q nL D dA ad A pcs) n s_scod := by
  refine ⟨mo_s_scod, fun ls st mm h => ?_⟩
  obtain ⟨hx, hb, hml, hown, hts, hK, hN, hE, hAW⟩ := hC
  intro hl hol hos hom H locs arr hP hD hS hz hL
  unfold s_scod at h
  split at h
  · rename_i k g st'
    cases q : Nat.beq k 72 <;> rw [q] at h
    · exact h.elim
    · have e := Nat.eq_of_beq_eq_true q
      subst e
      have hg : g < 2 := oks_h hos
      have k1 := h hl hol (oks_c (v := Sum.inl 0) trivial (oks_t hos)) hom H locs arr hP hD hS hz hL
      rw [hn] at k1
      subst ho
      exact vk_getf hx hb (hE.1.1 g hg).2.1 hS hown (hts _ hw) (fun _ z => z) hd k1
  · exact h.elim
theorem st_slen (hC : CX p s m args c cc own nL D dA ad A) {n : Nat} (hd : decode cc (pcs n) = .ok (.arraylength, 1)) (hn : pcs (n + 1) = pcs n + 1) : SND RR (XK p l e R s m args below meth c cells slots Q nL D dA ad A pcs) n s_slen := by
  refine ⟨mo_s_slen, fun ls st mm h => ?_⟩
  obtain ⟨hx, hb, hml, hown, hts, hK, hN, hE, hAW⟩ := hC
  intro hl hol hos hom H locs arr hP hD hS hz hL
  unfold s_slen at h
  split at h
  · rename_i k g st'
    cases q : Nat.beq k 73 <;> rw [q] at h
    · exact h.elim
    · have e := Nat.eq_of_beq_eq_true q
      subst e
      have hg : g < 2 := oks_h hos
      have k1 := h hl hol (oks_c (v := Sum.inl (nI (slen g))) trivial (oks_t hos)) hom H locs arr hP hD hS hz hL
      rw [hn] at k1
      exact va_tlen hx hb (hE.1.1 g hg).2.2.2 hS (v := nI (slen g)) rfl hd k1
  · exact h.elim
theorem st_sbal (hC : CX p s m args c cc own nL D dA ad A) {n : Nat} (hd : decode cc (pcs n) = .ok (.baload, 1)) (hn : pcs (n + 1) = pcs n + 1) : SND RR (XK p l e R s m args below meth c cells slots Q nL D dA ad A pcs) n s_sbal := by
  refine ⟨mo_s_sbal, fun ls st mm h => ?_⟩
  obtain ⟨hx, hb, hml, hown, hts, hK, hN, hE, hAW⟩ := hC
  intro hl hol hos hom H locs arr hP hD hS hz hL
  unfold s_sbal at h
  split at h
  · rename_i i k g st'
    cases q : Nat.beq k 73 <;> rw [q] at h
    · exact h.elim
    · have e := Nat.eq_of_beq_eq_true q
      subst e
      have hg : g < 2 := oks_h (oks_t hos)
      obtain ⟨h1, h2⟩ := h
      have k1 := h2 hl hol (oks_c (v := Sum.inl (sbyt g i.toNatClampNeg)) trivial (oks_t (oks_t hos))) hom H locs arr hP hD hS hz hL
      rw [hn] at k1
      exact va_tb hx hb (hE.1.1 g hg).2.2.2 hS (inb_of h1) (v := .int (sbyt g i.toNatClampNeg)) rfl hd k1
  · exact h.elim
theorem st_gsZ (hC : CX p s m args c cc own nL D dA ad A) {n : Nat} (hd : decode cc (pcs n) = .ok (.getstatic 38, 3)) (hn : pcs (n + 1) = pcs n + 3) (ho : own = "java/lang/String") (hw : Cond.fieldLink "java/lang/String" 38 "java/lang/String" "COMPACT_STRINGS" "Z" ∈ TBL) : SND RR (XK p l e R s m args below meth c cells slots Q nL D dA ad A pcs) n s_gsZ := by
  refine ⟨mo_s_gsZ, fun ls st mm h => ?_⟩
  obtain ⟨hx, hb, hml, hown, hts, hK, hN, hE, hAW⟩ := hC
  intro hl hol hos hom H locs arr hP hD hS hz hL
  have k1 := h hl hol (oks_c (v := Sum.inl 1) trivial hos) hom H locs arr hP hD hS hz hL
  rw [hn] at k1
  subst ho
  exact va_gets hx hb hE.2.2.2.1 hS hown (hts _ hw) (fun _ z => z) hd k1
theorem st_i2c (hC : CX p s m args c cc own nL D dA ad A) {n : Nat} (hd : decode cc (pcs n) = .ok (.i2c, 1)) (hn : pcs (n + 1) = pcs n + 1) : SND RR (XK p l e R s m args below meth c cells slots Q nL D dA ad A pcs) n s_i2c := by
  refine ⟨mo_s_i2c, fun ls st mm h => ?_⟩
  obtain ⟨hx, hb, hml, hown, hts, hK, hN, hE, hAW⟩ := hC
  intro hl hol hos hom H locs arr hP hD hS hz hL
  unfold s_i2c at h
  split at h
  · have k1 := h hl hol (oks_c (v := _) trivial (oks_t hos)) hom H locs arr hP hD hS hz hL
    rw [hn] at k1
    exact lv_i2c hx hb hd rfl k1
  · exact h.elim
def s_callT (na : Nat) (Pre : PreT) (Fn : FnT) : StpT := fun _ K n ls st m => match popn na [] st with
  | some (as, Sum.inr (Sum.inr (k', g)) :: st') => cond (Nat.beq k' 72 && Nat.ble (csum st') 8) (Pre m (Sum.inr (Sum.inr (k', g)) :: as) ∧ K (n + 1) ls ((Fn m (Sum.inr (Sum.inr (k', g)) :: as)).1.toList ++ st') (Fn m (Sum.inr (Sum.inr (k', g)) :: as)).2) False
  | _ => False
theorem mo_s_callT {na : Nat} {Pre : PreT} {Fn : FnT} : monoS (s_callT na Pre Fn) := by
  intro R K K' h n ls st m hs
  unfold s_callT at hs ⊢
  split at hs
  · cases q : (Nat.beq _ 72 && Nat.ble _ 8) <;> rw [q] at hs
    · exact hs
    · exact ⟨hs.1, h _ _ _ _ hs.2⟩
  · exact hs
theorem st_callT (hC : CX p s m args c cc own nL D dA ad A) {n na idx : Nat} {y : MethodName} {bytes : ByteArray} {mL : Nat} {ret : Option FieldType} {rm : Room} {Pre : PreT} {Fn : FnT} (hcon : CON l y bytes mL ret rm Pre Fn) (hd : decode cc (pcs n) = .ok (.invokevirtual idx, 3)) (hn : pcs (n + 1) = pcs n + 3) (hcode : Cond.code y bytes mL ret ∈ TBL) (hini : Cond.initialized y.cls ∈ TBL) (hy : y.cls ≠ "java/lang/invoke/MethodHandle" ∧ y.cls ≠ "java/lang/invoke/VarHandle" ∧ (parseMethodDescriptor y.desc).map (fun d => d.parameters.length) = some na) (hrm : rm.cells = 0 ∧ rm.slots = 0 ∧ rm.frames + 1 ≤ R.frames ∧ 8 + (mL + 11) + rm.locals ≤ R.locals) (hroom : cells ≤ R.cells ∧ slots ≤ R.slots)  (hlk : Cond.methodLink own idx y ∈ TBL) (hin : Cond.instanceMethod y ∈ TBL) (hsel : Cond.selects y.cls y y ∈ TBL) (hk : y.cls = "java/lang/String") : SND RR (XK p l e R s m args below meth c cells slots Q nL D dA ad A pcs) n (s_callT na Pre Fn) := by
  refine ⟨mo_s_callT, fun ls st mm h => ?_⟩
  obtain ⟨hx, hb, hml, hown, hts, hK, hN, hE, hAW⟩ := hC
  intro hl hol hos hom H locs arr hP hD hS hz hL
  unfold s_callT at h
  split at h
  · rename_i as k' g st' hpop
    obtain ⟨hst0, hlen⟩ := popn_spec hpop
    cases q : (Nat.beq k' 72 && Nat.ble (csum st') 8) <;> rw [q] at h
    · exact h.elim
    obtain ⟨q1, q2⟩ := Bool.and_eq_true_iff.mp q
    have e0 := Nat.eq_of_beq_eq_true q1
    subst e0
    obtain ⟨hpre, h⟩ := h
    have hos' : ∀ v ∈ as.reverse ++ (Sum.inr (Sum.inr (72, g)) :: st'), okv v := by rw [← hst0]; exact hos
    have hoa : oks (Sum.inr (Sum.inr (72, g)) :: as) := oks_c (hos' _ (List.mem_append_right _ List.mem_cons_self)) (fun v hv => hos' v (List.mem_append_left _ (List.mem_reverse.mpr hv)))
    have hst : ∀ v ∈ st', okv v := fun v hv => hos' v (List.mem_append_right _ (List.mem_cons_of_mem _ hv))
    have hg : g < 2 := oks_h hoa
    have hrun := va_runV (As := as.map (cv ad)) (rest := st'.map (cv ad)) (e := e) (below := below) (meth := meth) (locs := locs) (cells := cells) (slots := slots) (g := F0 m (pcs n) arr (st.map (cv ad))) ⟨hx, hb, hml, hown, hts⟩ (hcon D dA ad mm _ H.size hom hoa hpre)
      ⟨callB_of na hts (TBL_goodIn hcode) rfl hrm.1 hrm.2.1 (hts _ hini) (hts _ hlk) hy hrm.2.2, hts _ hin, hts _ hsel⟩
      ⟨PCO_blind, (show ∃ cell : Cell, H[ad 72 g]? = some cell ∧ cell.vm.isStatics = false ∧ s.vm.findClass y.cls = some cell.cls by rw [hk]; exact vk_recv hE.1 hg hS), PCO_at (as := Sum.inr (Sum.inr (72, g)) :: as) hK hN hE hAW hP hD hS⟩ rfl (by rw [List.length_map]; exact hlen) hz (by show st.map (cv ad) = _; rw [hst0, List.map_append, List.map_reverse]; rfl) (lv_room (by rw [csum_map]; exact Nat.le_of_ble_eq_true q2)) hd hroom
    refine call_go (A1 := AW ad H.size) hrun hS (AW_sub hS hAW) (fun r t H1 locs1 ht hB hS1 => ?_)
    obtain ⟨r', mm', e1, e2, hom', hv', hP1⟩ := hB
    cases e1
    rw [ht] at hP1
    rw [← e2] at h
    have k1 := h hl hol (fun v hv => by
      rcases List.mem_append.mp hv with q | q
      · exact hv' v (by cases r' with
          | none => cases q
          | some w => rw [List.mem_singleton.mp q])
      · exact hst v q) hom' H1 locs1 arr hP1 (WS_D hD) hS1 hz hL
    rw [hn] at k1
    rw [List.map_append] at k1
    cases r' <;> exact k1
  · exact h.elim
end FW40
/-- the JDK's own check of an index; its third argument may be anything -/
abbrev y_J3_checkIndex_8e157 : MethodName := ⟨"jdk/internal/util/Preconditions", "checkIndex", "(IILjava/util/function/BiFunction;)I"⟩
def P_J3_checkIndex_8e157 : List StpT := [s_iload 0, s_iflt 5, s_iload 0, s_iload 1, s_iclt 10, s_aload 2, s_iload 0, s_iload 1, s_no, s_no, s_iload 0, s_iret]
def pc_J3_checkIndex_8e157 : Nat → Nat := fun i => [0, 1, 4, 5, 6, 9, 10, 11, 12, 15, 16, 17].getD i 0
def dl_J3_checkIndex_8e157 : List (Nat × Instr × Nat) := [(0, .iload_n 0, 1), (1, .ifCond .lt 8, 3), (4, .iload_n 0, 1), (5, .iload_n 1, 1), (6, .if_icmp .lt 10, 3), (9, .aload_n 2, 1), (10, .iload_n 0, 1), (11, .iload_n 1, 1), (12, .invokestatic 95, 3), (15, .athrow, 1), (16, .iload_n 0, 1), (17, .ireturn, 1)]
theorem dc_J3_checkIndex_8e157 : DEC prog_22_method_11_code pc_J3_checkIndex_8e157 dl_J3_checkIndex_8e157 := DEC_of (by decide +kernel)
abbrev rm_J3_checkIndex_8e157 : Room := { frames := 0, cells := 0, slots := 0, locals := 0 }
set_option maxRecDepth 20000 in
theorem sa_J3_checkIndex_8e157 (l : Launch) : SNDALL l prog_22_method_11_code "jdk/internal/util/Preconditions" 3 (some .int) rm_J3_checkIndex_8e157 P_J3_checkIndex_8e157 pc_J3_checkIndex_8e157 := fun p e s m args below meth c cells slots Q D dA ad A RR hC hR => by
  have hM := RTX_room (R := rm_J3_checkIndex_8e157) hR
  exact ⟨st_iload_n hC (n := 0) (k := 0) (dc_J3_checkIndex_8e157 0 (0, .iload_n 0, 1) rfl rfl) rfl rfl,
    st_iflt hC (n := 1) (dc_J3_checkIndex_8e157 1 (1, .ifCond .lt 8, 3) rfl rfl) rfl (by decide),
    st_iload_n hC (n := 2) (k := 0) (dc_J3_checkIndex_8e157 2 (4, .iload_n 0, 1) rfl rfl) rfl rfl,
    st_iload_n hC (n := 3) (k := 1) (dc_J3_checkIndex_8e157 3 (5, .iload_n 1, 1) rfl rfl) rfl rfl,
    st_iclt hC (n := 4) (dc_J3_checkIndex_8e157 4 (6, .if_icmp .lt 10, 3) rfl rfl) rfl (by decide),
    st_aload_n hC (n := 5) (k := 2) (dc_J3_checkIndex_8e157 5 (9, .aload_n 2, 1) rfl rfl) rfl rfl,
    st_iload_n hC (n := 6) (k := 0) (dc_J3_checkIndex_8e157 6 (10, .iload_n 0, 1) rfl rfl) rfl rfl,
    st_iload_n hC (n := 7) (k := 1) (dc_J3_checkIndex_8e157 7 (11, .iload_n 1, 1) rfl rfl) rfl rfl,
    st_no,
    st_no,
    st_iload_n hC (n := 10) (k := 0) (dc_J3_checkIndex_8e157 10 (16, .iload_n 0, 1) rfl rfl) rfl rfl,
    st_iret hC (n := 11) hR (dc_J3_checkIndex_8e157 11 (17, .ireturn, 1) rfl rfl), trivial⟩
theorem vx_J3_checkIndex {x b : Int32} {mm : MM} (h1 : ¬ x < 0) (h2 : x < b) : ∀ X : KonT, RUN P_J3_checkIndex_8e157 (fun r m' => (r, m') = (some (vI x), mm)) X → X 0 [some (vI x), some (vI b), none] [] mm := by
  intro X h
  refine h (fun _ => false) 3000 0 _ _ _ ?_
  refine br_f h1 ?_
  refine br_t h2 ?_
  exact rfl
theorem met_ck (l : Launch) (D : va_G) (dA : Nat → ClassId) (ad : Nat → Nat → Nat) (mm : MM) (sz : Nat) (x b : Int32) (v : Value) (hv : v = .null ∨ ∃ t, v = .ref t) (hom : okm mm) (h1 : ¬ x < 0) (h2 : x < b) : Met l y_J3_checkIndex_8e157 (.code y_J3_checkIndex_8e157 prog_22_method_11_code 3 (some .int) :: TBL) rm_J3_checkIndex_8e157 (va_Pc [.int x, .int b, v] (fun U => U.heap.size = sz ∧ WLD D dA ad (AW ad sz) mm U)) (QCO D dA ad sz (fun r m' => (r, m') = (some (vI x), mm))) 0 0 (AW ad sz) := by
  refine Met_ofWF (cc := prog_22_method_11_code) (maxL := 3) (ret := some .int) (by decide +kernel) rfl ?_
  intro p e s m args below meth c s₁ B hml hw
  obtain ⟨rfl, hsz, hP, hK, hD0, hN, hE⟩ := hw
  subst hsz
  have hts := atoms_spec (ws := Cond.code y_J3_checkIndex_8e157 prog_22_method_11_code 3 (some .int) :: TBL) B.pre
  have hC : CX p s m ([.int x, .int b, v] : List Value).toArray c prog_22_method_11_code "jdk/internal/util/Preconditions" 3 D dA ad (AW ad s.heap.size) := ⟨B.exec, B.bytes, hml, findClass_of_methodNamed B.named, fun w hw => hts w (List.mem_cons_of_mem _ hw), hK, hN, hE, fun _ h => h⟩
  have hX := vx_J3_checkIndex (mm := mm) h1 h2 _ (RUN_of (sa_J3_checkIndex_8e157 l p e s m _ below meth c 0 0 _ D dA ad (AW ad s.heap.size) (fun r m' => (r, m') = (some (vI x), mm)) hC ⟨rfl, rfl, rfl, rfl, B.returns, B.notSynchronized⟩))
  have hl : lv_has ((lg_sl [.int x, .int b, v] ++ List.replicate (3 - (lg_sl [.int x, .int b, v]).length) Slot.unset).toArray) 3 (lv_args 0 [.int x, .int b, v]) := lv_entry [.int x, .int b, v] (n := 3) (by rcases hv with rfl | ⟨t, rfl⟩ <;> exact Nat.le_refl 3)
  rw [lg_entry_eq]
  have hW := hX rfl (fun i w hw => by
    match i with
    | 0 => cases hw; exact trivial
    | 1 => cases hw; exact trivial
    | 2 => cases hw
    | _ + 3 => cases hw) (fun w hw => by cases hw) hom s.heap [] _ hP (AW_D hD0) va_S.rf hl.1 ⟨hl.2.1, fun i w hw => by
    match i with
    | 0 => cases hw; exact hl.2.2 _ List.mem_cons_self
    | 1 => cases hw; exact hl.2.2 _ (List.mem_cons_of_mem _ List.mem_cons_self)
    | 2 => cases hw
    | _ + 3 => cases hw⟩
  exact hW
section FW41
variable {p : Program} {l : Launch} {e : Env} {R : Room} {s : State} {m : MethodId} {args : Array Value} {below : List Frame} {meth : Method} {c : Code} {cells slots : Nat} {Q : State → Prop} {nL : Nat} {D : va_G} {dA : Nat → ClassId} {ad : Nat → Nat → Nat} {A : Nat → Prop} {pcs : Nat → Nat} {cc : ByteArray} {own : String} {RR : RetP}
theorem st_ckI (hC : CX p s m args c cc own nL D dA ad A) {n : Nat} (hd0 : decode cc (pcs n) = .ok (.getstatic 1053, 3)) (hd1 : decode cc (pcs n + 3) = .ok (.invokestatic 1059, 3)) (hd2 : decode cc (pcs n + 3 + 3) = .ok (.pop, 1)) (hn : pcs (n + 3) = pcs n + 3 + 3 + 1) (ho : own = "java/lang/String") (hwf : Cond.fieldLink "java/lang/String" 1053 "jdk/internal/util/Preconditions" "SIOOBE_FORMATTER" "Ljava/util/function/BiFunction;" ∈ TBL)
    (hcode : Cond.code y_J3_checkIndex_8e157 prog_22_method_11_code 3 (some .int) ∈ TBL) (hini : Cond.initialized "jdk/internal/util/Preconditions" ∈ TBL) (hlk : Cond.methodLink "java/lang/String" 1059 y_J3_checkIndex_8e157 ∈ TBL) (hstat : Cond.static y_J3_checkIndex_8e157 ∈ TBL) (hrm : 0 + 1 ≤ R.frames ∧ 8 + (3 + 11) + 0 ≤ R.locals) (hroom : cells ≤ R.cells ∧ slots ≤ R.slots) : SND RR (XK p l e R s m args below meth c cells slots Q nL D dA ad A pcs) n s_ckI := by
  refine ⟨mo_s_ckI, fun ls st mm h => ?_⟩
  obtain ⟨hx, hb, hml, hown, hts, hK, hN, hE, hAW⟩ := hC
  intro hl hol hos hom H locs arr hP hD hS hz hL
  unfold s_ckI at h
  split at h
  · rename_i b i st'
    cases q : Nat.ble (csum st') 8 <;> rw [q] at h
    · exact h.elim
    obtain ⟨⟨h1, h2⟩, h⟩ := h
    subst ho
    have key : ∀ v : Value, (v = .null ∨ ∃ t, v = .ref t) → va_Z "jdk/internal/util/Preconditions" "SIOOBE_FORMATTER" "Ljava/util/function/BiFunction;" v A s s.heap → W p l e R s m args below meth c H locs cells slots Q (F0 m (pcs n) arr (.int b :: .int i :: st'.map (cv ad))) := by
      intro v hv hZ
      refine va_gets hx hb hZ hS hown (hts _ hwf) (fun _ z => z) hd0 ?_
      have hrun := va_runS (As := [.int i, .int b, v]) (rest := st'.map (cv ad)) (e := e) (below := below) (meth := meth) (locs := locs) (cells := cells) (slots := slots) (g := F0 m (pcs n + 3) arr (v :: .int b :: .int i :: st'.map (cv ad))) ⟨hx, hb, hml, hown, hts⟩ (met_ck l D dA ad mm H.size i b v hv hom h1 h2)
        ⟨callB_of 3 hts (TBL_goodIn hcode) rfl rfl rfl (hts _ hini) (hts _ hlk) ⟨by decide, by decide, by decide +kernel⟩ ⟨by simpa using hrm.1, by simpa using hrm.2⟩, hts _ hstat⟩
        ⟨fun _ _ _ _ h => ⟨h.1, h.2.1, WLD_calling h.2.2⟩, fun U hU hW => ⟨rfl, (PCO_at (as := []) hK hN hE hAW hP hD hS U hU hW).2⟩⟩ rfl rfl hz rfl (lv_room (by rw [csum_map]; exact Nat.le_of_ble_eq_true q)) hd1 hroom
      refine call_go (A1 := AW ad H.size) hrun hS (AW_sub hS hAW) (fun r t H1 locs1 ht hB hS1 => ?_)
      obtain ⟨r', mm', e1, e2, hom', hv', hP1⟩ := hB
      cases e2
      cases e1
      rw [ht] at hP1
      refine lv_pop hx hb hd2 rfl ?_
      have k1 := h hl hol (oks_t (oks_t hos)) hom H1 locs1 arr hP1 (WS_D hD) hS1 hz hL
      rw [hn] at k1
      exact k1
    rcases hE.2.2.2.2 with hZ | ⟨t, hZ⟩
    · exact key _ (Or.inl rfl) hZ
    · exact key _ (Or.inr ⟨t, rfl⟩) hZ
  · exact h.elim
end FW41
theorem sbyt_a : ∀ g, g < 2 → ∀ k, k < slen g → sbyt g k &&& 255 = sbyt g k := by decide +kernel
theorem sbyt_ok (g : Nat) (hg : g < 2) (k : Nat) (hk : k < slen g) : ((sbyt g k &&& 255).toUInt32 % 65536).toInt32 = sbyt g k := by rw [sc_c2, sbyt_a g hg k hk]
theorem sbyt_nar {x : Int32} (h : x &&& 255 = x) : narrow .char (.int x) = .int x := by
  have := sc_nar x
  rw [h] at this
  exact this
theorem slen_sh : ∀ g, g < 2 → nI (slen g) >>> ((0 : Int32) &&& 31) = nI (slen g) := by decide +kernel
theorem slen_le : ∀ g, g < 2 → slen g ≤ 154 := by decide +kernel

--tpl ⟨_, by assumption, rfl⟩ || 0
def Pre_J0_coder_7d493 : PreT := fun _ as => ∃ g : Nat, g < 2 ∧ as = [vR 72 g]
def Fn_J0_coder_7d493 : FnT := fun m _ => (some (vI 0), m)
abbrev y_J0_coder_7d493 : MethodName := ⟨"java/lang/String", "coder", "()B"⟩
def P_J0_coder_7d493 : List StpT := [s_gsZ, s_ifeq 5, s_aload 0, s_scod, s_goto 6, s_ic (1), s_nret .byte]
def pc_J0_coder_7d493 : Nat → Nat := fun i => [0, 3, 6, 7, 10, 13, 14].getD i 0
def dl_J0_coder_7d493 : List (Nat × Instr × Nat) := [(0, .getstatic 38, 3), (3, .ifCond .eq 10, 3), (6, .aload_n 0, 1), (7, .getfield 15, 3), (10, .goto 4, 3), (13, .iconst 1, 1), (14, .ireturn, 1)]
theorem dc_J0_coder_7d493 : DEC prog_17_method_152_code pc_J0_coder_7d493 dl_J0_coder_7d493 := DEC_of (by decide +kernel)
abbrev rm_J0_coder_7d493 : Room := { frames := 0, cells := 0, slots := 0, locals := 0 }
set_option maxRecDepth 20000 in
theorem sa_J0_coder_7d493 (l : Launch) : SNDALL l prog_17_method_152_code "java/lang/String" 1 (some .byte) rm_J0_coder_7d493 P_J0_coder_7d493 pc_J0_coder_7d493 := fun p e s m args below meth c cells slots Q D dA ad A RR hC hR => by
  have hM := RTX_room (R := rm_J0_coder_7d493) hR
  exact ⟨st_gsZ hC (n := 0) (dc_J0_coder_7d493 0 (0, .getstatic 38, 3) rfl rfl) rfl rfl wd_189,
    st_ifeq hC (n := 1) (dc_J0_coder_7d493 1 (3, .ifCond .eq 10, 3) rfl rfl) rfl (by decide),
    st_aload_n hC (n := 2) (k := 0) (dc_J0_coder_7d493 2 (6, .aload_n 0, 1) rfl rfl) rfl rfl,
    st_scod hC (n := 3) (dc_J0_coder_7d493 3 (7, .getfield 15, 3) rfl rfl) rfl rfl wd_2333,
    st_goto hC (n := 4) (dc_J0_coder_7d493 4 (10, .goto 4, 3) rfl rfl) (by decide),
    st_iconst hC (n := 5) (x := 1) (dc_J0_coder_7d493 5 (13, .iconst 1, 1) rfl rfl) rfl (by decide),
    st_nret hC (n := 6) hR (dc_J0_coder_7d493 6 (14, .ireturn, 1) rfl rfl), trivial⟩
set_option maxRecDepth 8000 in
theorem vc_J0_coder_7d493 : VC P_J0_coder_7d493 1 Pre_J0_coder_7d493 Fn_J0_coder_7d493 := by
  rintro mm as hom hoa ⟨g, hg, rfl⟩
  refine ⟨Nat.le_of_ble_eq_true rfl, fun X h => ?_⟩
  show X 0 [some (vR 72 g)] [] mm
  refine h (fun _ => false) 3000 0 _ _ _ ?_
  refine br_f (by decide) ?_
  refine And.intro rfl ?_
  show ((some (vI 0) : Option MV), mm) = _
  exact rfl
theorem con_J0_coder_7d493 (l : Launch) : CON l y_J0_coder_7d493 prog_17_method_152_code 1 (some .byte) rm_J0_coder_7d493 Pre_J0_coder_7d493 Fn_J0_coder_7d493 := CON_ofF (by decide +kernel) rfl rfl (sa_J0_coder_7d493 l) vc_J0_coder_7d493
--tpl ⟨_, by assumption, rfl⟩ || 1
def Pre_J0_isLatin1_aae02 : PreT := fun _ as => ∃ g : Nat, g < 2 ∧ as = [vR 72 g]
def Fn_J0_isLatin1_aae02 : FnT := fun m _ => (some (vI 1), m)
abbrev y_J0_isLatin1_aae02 : MethodName := ⟨"java/lang/String", "isLatin1", "()Z"⟩
def P_J0_isLatin1_aae02 : List StpT := [s_gsZ, s_ifeq 7, s_aload 0, s_scod, s_ifne 7, s_ic (1), s_goto 8, s_ic (0), s_zret]
def pc_J0_isLatin1_aae02 : Nat → Nat := fun i => [0, 3, 6, 7, 10, 13, 14, 17, 18].getD i 0
def dl_J0_isLatin1_aae02 : List (Nat × Instr × Nat) := [(0, .getstatic 38, 3), (3, .ifCond .eq 14, 3), (6, .aload_n 0, 1), (7, .getfield 15, 3), (10, .ifCond .ne 7, 3), (13, .iconst 1, 1), (14, .goto 4, 3), (17, .iconst 0, 1), (18, .ireturn, 1)]
theorem dc_J0_isLatin1_aae02 : DEC prog_17_method_154_code pc_J0_isLatin1_aae02 dl_J0_isLatin1_aae02 := DEC_of (by decide +kernel)
abbrev rm_J0_isLatin1_aae02 : Room := { frames := 0, cells := 0, slots := 0, locals := 0 }
set_option maxRecDepth 20000 in
theorem sa_J0_isLatin1_aae02 (l : Launch) : SNDALL l prog_17_method_154_code "java/lang/String" 1 (some .boolean) rm_J0_isLatin1_aae02 P_J0_isLatin1_aae02 pc_J0_isLatin1_aae02 := fun p e s m args below meth c cells slots Q D dA ad A RR hC hR => by
  have hM := RTX_room (R := rm_J0_isLatin1_aae02) hR
  exact ⟨st_gsZ hC (n := 0) (dc_J0_isLatin1_aae02 0 (0, .getstatic 38, 3) rfl rfl) rfl rfl wd_189,
    st_ifeq hC (n := 1) (dc_J0_isLatin1_aae02 1 (3, .ifCond .eq 14, 3) rfl rfl) rfl (by decide),
    st_aload_n hC (n := 2) (k := 0) (dc_J0_isLatin1_aae02 2 (6, .aload_n 0, 1) rfl rfl) rfl rfl,
    st_scod hC (n := 3) (dc_J0_isLatin1_aae02 3 (7, .getfield 15, 3) rfl rfl) rfl rfl wd_2333,
    st_ifne hC (n := 4) (dc_J0_isLatin1_aae02 4 (10, .ifCond .ne 7, 3) rfl rfl) rfl (by decide),
    st_iconst hC (n := 5) (x := 1) (dc_J0_isLatin1_aae02 5 (13, .iconst 1, 1) rfl rfl) rfl (by decide),
    st_goto hC (n := 6) (dc_J0_isLatin1_aae02 6 (14, .goto 4, 3) rfl rfl) (by decide),
    st_iconst hC (n := 7) (x := 0) (dc_J0_isLatin1_aae02 7 (17, .iconst 0, 1) rfl rfl) rfl (by decide),
    st_zret hC (n := 8) hR (dc_J0_isLatin1_aae02 8 (18, .ireturn, 1) rfl rfl), trivial⟩
set_option maxRecDepth 8000 in
theorem vc_J0_isLatin1_aae02 : VC P_J0_isLatin1_aae02 1 Pre_J0_isLatin1_aae02 Fn_J0_isLatin1_aae02 := by
  rintro mm as hom hoa ⟨g, hg, rfl⟩
  refine ⟨Nat.le_of_ble_eq_true rfl, fun X h => ?_⟩
  show X 0 [some (vR 72 g)] [] mm
  refine h (fun _ => false) 3000 0 _ _ _ ?_
  refine br_f (by decide) ?_
  refine brn_f (rfl) ?_
  refine And.intro (Or.inr rfl) ?_
  show ((some (vI 1) : Option MV), mm) = _
  exact rfl
theorem con_J0_isLatin1_aae02 (l : Launch) : CON l y_J0_isLatin1_aae02 prog_17_method_154_code 1 (some .boolean) rm_J0_isLatin1_aae02 Pre_J0_isLatin1_aae02 Fn_J0_isLatin1_aae02 := CON_ofF (by decide +kernel) rfl rfl (sa_J0_isLatin1_aae02 l) vc_J0_isLatin1_aae02
--tpl ⟨_, by assumption, rfl⟩ || nI (slen {0})
def Pre_J0_length_8abf5 : PreT := fun _ as => ∃ g : Nat, g < 2 ∧ as = [vR 72 g]
def Fn_J0_length_8abf5 : FnT := fun m as => match as with
  | [Sum.inr (Sum.inr q)] => (some (vI (nI (slen q.2))), m)
  | _ => (none, m)
abbrev y_J0_length_8abf5 : MethodName := ⟨"java/lang/String", "length", "()I"⟩
def P_J0_length_8abf5 : List StpT := [s_aload 0, s_sval, s_slen, s_aload 0, s_callT 0 Pre_J0_coder_7d493 Fn_J0_coder_7d493, s_ishr, s_iret]
def pc_J0_length_8abf5 : Nat → Nat := fun i => [0, 1, 4, 5, 6, 9, 10].getD i 0
def dl_J0_length_8abf5 : List (Nat × Instr × Nat) := [(0, .aload_n 0, 1), (1, .getfield 9, 3), (4, .arraylength, 1), (5, .aload_n 0, 1), (6, .invokevirtual 335, 3), (9, .ishr, 1), (10, .ireturn, 1)]
theorem dc_J0_length_8abf5 : DEC prog_17_method_54_code pc_J0_length_8abf5 dl_J0_length_8abf5 := DEC_of (by decide +kernel)
abbrev rm_J0_length_8abf5 : Room := { frames := 1, cells := 0, slots := 0, locals := 20 }
set_option maxRecDepth 20000 in
theorem sa_J0_length_8abf5 (l : Launch) : SNDALL l prog_17_method_54_code "java/lang/String" 1 (some .int) rm_J0_length_8abf5 P_J0_length_8abf5 pc_J0_length_8abf5 := fun p e s m args below meth c cells slots Q D dA ad A RR hC hR => by
  have hM := RTX_room (R := rm_J0_length_8abf5) hR
  exact ⟨st_aload_n hC (n := 0) (k := 0) (dc_J0_length_8abf5 0 (0, .aload_n 0, 1) rfl rfl) rfl rfl,
    st_sval hC (n := 1) (dc_J0_length_8abf5 1 (1, .getfield 9, 3) rfl rfl) rfl rfl wd_2332,
    st_slen hC (n := 2) (dc_J0_length_8abf5 2 (4, .arraylength, 1) rfl rfl) rfl,
    st_aload_n hC (n := 3) (k := 0) (dc_J0_length_8abf5 3 (5, .aload_n 0, 1) rfl rfl) rfl rfl,
    st_callT hC (n := 4) (na := 0) (con_J0_coder_7d493 l) (dc_J0_length_8abf5 4 (6, .invokevirtual 335, 3) rfl rfl) rfl wd_188 wd_145 (by decide) ⟨rfl, rfl, by decide, by decide⟩ hM wd_185 wd_186 wd_187 rfl,
    st_ishr hC (n := 5) (dc_J0_length_8abf5 5 (9, .ishr, 1) rfl rfl) rfl,
    st_iret hC (n := 6) hR (dc_J0_length_8abf5 6 (10, .ireturn, 1) rfl rfl), trivial⟩
set_option maxRecDepth 8000 in
theorem vc_J0_length_8abf5 : VC P_J0_length_8abf5 1 Pre_J0_length_8abf5 Fn_J0_length_8abf5 := by
  rintro mm as hom hoa ⟨g, hg, rfl⟩
  refine ⟨Nat.le_of_ble_eq_true rfl, fun X h => ?_⟩
  show X 0 [some (vR 72 g)] [] mm
  refine h (fun _ => false) 3000 0 _ _ _ ?_
  refine And.intro (show Pre_J0_coder_7d493 mm [vR 72 g] from ⟨_, by assumption, rfl⟩) ?_
  show ((some (vI ((nI (slen g)) >>> (0 &&& 31))) : Option MV), mm) = _
  rw [slen_sh g hg]
  exact rfl
theorem con_J0_length_8abf5 (l : Launch) : CON l y_J0_length_8abf5 prog_17_method_54_code 1 (some .int) rm_J0_length_8abf5 Pre_J0_length_8abf5 Fn_J0_length_8abf5 := CON_ofF (by decide +kernel) rfl rfl (sa_J0_length_8abf5 l) vc_J0_length_8abf5
--tpl ⟨_, _, by assumption, by assumption, rfl⟩
def Pre_J0_checkIndex_df160 : PreT := fun _ as => ∃ a b : Int32, ¬ a < 0 ∧ a < b ∧ as = [vI a, vI b]
def Fn_J0_checkIndex_df160 : FnT := fun m _ => (none, m)
abbrev y_J0_checkIndex_df160 : MethodName := ⟨"java/lang/String", "checkIndex", "(II)V"⟩
def P_J0_checkIndex_df160 : List StpT := [s_iload 0, s_iload 1, s_ckI, s_no, s_no, s_vret]
def pc_J0_checkIndex_df160 : Nat → Nat := fun i => [0, 1, 2, 5, 8, 9].getD i 0
def dl_J0_checkIndex_df160 : List (Nat × Instr × Nat) := [(0, .iload_n 0, 1), (1, .iload_n 1, 1), (2, .getstatic 1053, 3), (5, .invokestatic 1059, 3), (8, .pop, 1), (9, .return_, 1)]
theorem dc_J0_checkIndex_df160 : DEC prog_17_method_155_code pc_J0_checkIndex_df160 dl_J0_checkIndex_df160 := DEC_of (by decide +kernel)
abbrev rm_J0_checkIndex_df160 : Room := { frames := 1, cells := 0, slots := 0, locals := 22 }
set_option maxRecDepth 20000 in
theorem sa_J0_checkIndex_df160 (l : Launch) : SNDALL l prog_17_method_155_code "java/lang/String" 2 none rm_J0_checkIndex_df160 P_J0_checkIndex_df160 pc_J0_checkIndex_df160 := fun p e s m args below meth c cells slots Q D dA ad A RR hC hR => by
  have hM := RTX_room (R := rm_J0_checkIndex_df160) hR
  exact ⟨st_iload_n hC (n := 0) (k := 0) (dc_J0_checkIndex_df160 0 (0, .iload_n 0, 1) rfl rfl) rfl rfl,
    st_iload_n hC (n := 1) (k := 1) (dc_J0_checkIndex_df160 1 (1, .iload_n 1, 1) rfl rfl) rfl rfl,
    st_ckI hC (n := 2) (dc_J0_checkIndex_df160 2 (2, .getstatic 1053, 3) rfl rfl) (dc_J0_checkIndex_df160 3 (5, .invokestatic 1059, 3) rfl rfl) (dc_J0_checkIndex_df160 4 (8, .pop, 1) rfl rfl) rfl rfl wd_205 wd_209 wd_147 wd_207 wd_208 ⟨by decide, by decide⟩ hM,
    st_no,
    st_no,
    st_vret hC (n := 5) hR (dc_J0_checkIndex_df160 5 (9, .return_, 1) rfl rfl), trivial⟩
set_option maxRecDepth 8000 in
theorem vc_J0_checkIndex_df160 : VC P_J0_checkIndex_df160 2 Pre_J0_checkIndex_df160 Fn_J0_checkIndex_df160 := by
  rintro mm as hom hoa ⟨a, b, h1, h2, rfl⟩
  refine ⟨Nat.le_of_ble_eq_true rfl, fun X h => ?_⟩
  show X 0 [some (vI a), some (vI b)] [] mm
  refine h (fun _ => false) 3000 0 _ _ _ ?_
  refine And.intro ⟨by assumption, by assumption⟩ ?_
  show ((none : Option MV), mm) = _
  exact rfl
theorem con_J0_checkIndex_df160 (l : Launch) : CON l y_J0_checkIndex_df160 prog_17_method_155_code 2 none rm_J0_checkIndex_df160 Pre_J0_checkIndex_df160 Fn_J0_checkIndex_df160 := CON_ofF (by decide +kernel) rfl rfl (sa_J0_checkIndex_df160 l) vc_J0_checkIndex_df160
--tpl ⟨_, _, by assumption, by assumption, rfl⟩ || sbyt {0} {1n}
def Pre_J1_charAt_3b067 : PreT := fun _ as => ∃ g k : Nat, g < 2 ∧ k < slen g ∧ as = [vR 73 g, vI (nI k)]
def Fn_J1_charAt_3b067 : FnT := fun m as => match as with
  | [Sum.inr (Sum.inr q), Sum.inl x] => (some (vI (sbyt q.2 x.toNatClampNeg)), m)
  | _ => (none, m)
abbrev y_J1_charAt_3b067 : MethodName := ⟨"java/lang/StringLatin1", "charAt", "([BI)C"⟩
def P_J1_charAt_3b067 : List StpT := [s_iload 1, s_aload 0, s_slen, s_callS 2 Pre_J0_checkIndex_df160 Fn_J0_checkIndex_df160, s_aload 0, s_iload 1, s_sbal, s_ic (255), s_iand, s_i2c, s_nret .char]
def pc_J1_charAt_3b067 : Nat → Nat := fun i => [0, 1, 2, 3, 6, 7, 8, 9, 12, 13, 14].getD i 0
def dl_J1_charAt_3b067 : List (Nat × Instr × Nat) := [(0, .iload_n 1, 1), (1, .aload_n 0, 1), (2, .arraylength, 1), (3, .invokestatic 9, 3), (6, .aload_n 0, 1), (7, .iload_n 1, 1), (8, .baload, 1), (9, .sipush 255, 3), (12, .iand, 1), (13, .i2c, 1), (14, .ireturn, 1)]
theorem dc_J1_charAt_3b067 : DEC prog_18_method_2_code pc_J1_charAt_3b067 dl_J1_charAt_3b067 := DEC_of (by decide +kernel)
abbrev rm_J1_charAt_3b067 : Room := { frames := 2, cells := 0, slots := 0, locals := 43 }
set_option maxRecDepth 20000 in
theorem sa_J1_charAt_3b067 (l : Launch) : SNDALL l prog_18_method_2_code "java/lang/StringLatin1" 2 (some .char) rm_J1_charAt_3b067 P_J1_charAt_3b067 pc_J1_charAt_3b067 := fun p e s m args below meth c cells slots Q D dA ad A RR hC hR => by
  have hM := RTX_room (R := rm_J1_charAt_3b067) hR
  exact ⟨st_iload_n hC (n := 0) (k := 1) (dc_J1_charAt_3b067 0 (0, .iload_n 1, 1) rfl rfl) rfl rfl,
    st_aload_n hC (n := 1) (k := 0) (dc_J1_charAt_3b067 1 (1, .aload_n 0, 1) rfl rfl) rfl rfl,
    st_slen hC (n := 2) (dc_J1_charAt_3b067 2 (2, .arraylength, 1) rfl rfl) rfl,
    st_callS hC (n := 3) (na := 2) (con_J0_checkIndex_df160 l) (dc_J1_charAt_3b067 3 (3, .invokestatic 9, 3) rfl rfl) rfl wd_204 wd_145 (by decide) ⟨rfl, rfl, by decide, by decide⟩ hM wd_202 wd_203,
    st_aload_n hC (n := 4) (k := 0) (dc_J1_charAt_3b067 4 (6, .aload_n 0, 1) rfl rfl) rfl rfl,
    st_iload_n hC (n := 5) (k := 1) (dc_J1_charAt_3b067 5 (7, .iload_n 1, 1) rfl rfl) rfl rfl,
    st_sbal hC (n := 6) (dc_J1_charAt_3b067 6 (8, .baload, 1) rfl rfl) rfl,
    st_sipush hC (n := 7) (x := 255) (dc_J1_charAt_3b067 7 (9, .sipush 255, 3) rfl rfl) rfl (by decide),
    st_iand hC (n := 8) (dc_J1_charAt_3b067 8 (12, .iand, 1) rfl rfl) rfl,
    st_i2c hC (n := 9) (dc_J1_charAt_3b067 9 (13, .i2c, 1) rfl rfl) rfl,
    st_nret hC (n := 10) hR (dc_J1_charAt_3b067 10 (14, .ireturn, 1) rfl rfl), trivial⟩
set_option maxRecDepth 8000 in
theorem vc_J1_charAt_3b067 : VC P_J1_charAt_3b067 2 Pre_J1_charAt_3b067 Fn_J1_charAt_3b067 := by
  rintro mm as hom hoa ⟨g, k, hg, hk, rfl⟩
  refine ⟨Nat.le_of_ble_eq_true rfl, fun X h => ?_⟩
  have hle := slen_le g hg
  have ek : (nI k).toNatClampNeg = k := nI_clamp (by omega)
  have h1 : ¬ nI k < 0 := nI_pos (by omega)
  have h2 : nI k < nI (slen g) := (nI_ltI (by omega) (by omega)).mpr hk
  have hb := sbyt_ok g hg k hk
  show X 0 [some (vR 73 g), some (vI (nI k))] [] mm
  refine h (fun _ => false) 3000 0 _ _ _ ?_
  refine And.intro (show Pre_J0_checkIndex_df160 mm [vI (nI k), vI (nI (slen g))] from ⟨_, _, by assumption, by assumption, rfl⟩) ?_
  refine And.intro (inb_nI (by omega) (by omega)) ?_
  refine And.intro (by show narrow .char (.int (((sbyt g (nI k).toNatClampNeg &&& 255).toUInt32 % 65536).toInt32)) = .int (((sbyt g (nI k).toNatClampNeg &&& 255).toUInt32 % 65536).toInt32); rw [ek, hb]; exact sbyt_nar (sbyt_a g hg k hk)) ?_
  show ((some (vI ((((sbyt g (nI k).toNatClampNeg) &&& 255).toUInt32 % 65536).toInt32)) : Option MV), mm) = _
  refine leaf ?_
  rw [ek, hb] 
  show _ = (some (vI (sbyt g (nI k).toNatClampNeg)), mm) 
  rw [ek]
theorem con_J1_charAt_3b067 (l : Launch) : CON l y_J1_charAt_3b067 prog_18_method_2_code 2 (some .char) rm_J1_charAt_3b067 Pre_J1_charAt_3b067 Fn_J1_charAt_3b067 := CON_ofF (by decide +kernel) rfl rfl (sa_J1_charAt_3b067 l) vc_J1_charAt_3b067
--tpl ⟨_, _, by assumption, by assumption, rfl⟩ || sbyt {0} {1n}
def Pre_J0_charAt_5068e : PreT := fun _ as => ∃ g k : Nat, g < 2 ∧ k < slen g ∧ as = [vR 72 g, vI (nI k)]
def Fn_J0_charAt_5068e : FnT := fun m as => match as with
  | [Sum.inr (Sum.inr q), Sum.inl x] => (some (vI (sbyt q.2 x.toNatClampNeg)), m)
  | _ => (none, m)
abbrev y_J0_charAt_5068e : MethodName := ⟨"java/lang/String", "charAt", "(I)C"⟩
def P_J0_charAt_5068e : List StpT := [s_aload 0, s_callT 0 Pre_J0_isLatin1_aae02 Fn_J0_isLatin1_aae02, s_ifeq 8, s_aload 0, s_sval, s_iload 1, s_callS 2 Pre_J1_charAt_3b067 Fn_J1_charAt_3b067, s_nret .char, s_aload 0, s_sval, s_iload 1, s_no, s_nret .char]
def pc_J0_charAt_5068e : Nat → Nat := fun i => [0, 1, 4, 7, 8, 11, 12, 15, 16, 17, 20, 21, 24].getD i 0
def dl_J0_charAt_5068e : List (Nat × Instr × Nat) := [(0, .aload_n 0, 1), (1, .invokevirtual 492, 3), (4, .ifCond .eq 12, 3), (7, .aload_n 0, 1), (8, .getfield 9, 3), (11, .iload_n 1, 1), (12, .invokestatic 495, 3), (15, .ireturn, 1), (16, .aload_n 0, 1), (17, .getfield 9, 3), (20, .iload_n 1, 1), (21, .invokestatic 498, 3), (24, .ireturn, 1)]
theorem dc_J0_charAt_5068e : DEC prog_17_method_56_code pc_J0_charAt_5068e dl_J0_charAt_5068e := DEC_of (by decide +kernel)
abbrev rm_J0_charAt_5068e : Room := { frames := 4, cells := 0, slots := 0, locals := 85 }
set_option maxRecDepth 20000 in
theorem sa_J0_charAt_5068e (l : Launch) : SNDALL l prog_17_method_56_code "java/lang/String" 2 (some .char) rm_J0_charAt_5068e P_J0_charAt_5068e pc_J0_charAt_5068e := fun p e s m args below meth c cells slots Q D dA ad A RR hC hR => by
  have hM := RTX_room (R := rm_J0_charAt_5068e) hR
  exact ⟨st_aload_n hC (n := 0) (k := 0) (dc_J0_charAt_5068e 0 (0, .aload_n 0, 1) rfl rfl) rfl rfl,
    st_callT hC (n := 1) (na := 0) (con_J0_isLatin1_aae02 l) (dc_J0_charAt_5068e 1 (1, .invokevirtual 492, 3) rfl rfl) rfl wd_198 wd_145 (by decide) ⟨rfl, rfl, by decide, by decide⟩ hM wd_195 wd_196 wd_197 rfl,
    st_ifeq hC (n := 2) (dc_J0_charAt_5068e 2 (4, .ifCond .eq 12, 3) rfl rfl) rfl (by decide),
    st_aload_n hC (n := 3) (k := 0) (dc_J0_charAt_5068e 3 (7, .aload_n 0, 1) rfl rfl) rfl rfl,
    st_sval hC (n := 4) (dc_J0_charAt_5068e 4 (8, .getfield 9, 3) rfl rfl) rfl rfl wd_2332,
    st_iload_n hC (n := 5) (k := 1) (dc_J0_charAt_5068e 5 (11, .iload_n 1, 1) rfl rfl) rfl rfl,
    st_callS hC (n := 6) (na := 2) (con_J1_charAt_3b067 l) (dc_J0_charAt_5068e 6 (12, .invokestatic 495, 3) rfl rfl) rfl wd_201 wd_146 (by decide) ⟨rfl, rfl, by decide, by decide⟩ hM wd_199 wd_200,
    st_nret hC (n := 7) hR (dc_J0_charAt_5068e 7 (15, .ireturn, 1) rfl rfl),
    st_aload_n hC (n := 8) (k := 0) (dc_J0_charAt_5068e 8 (16, .aload_n 0, 1) rfl rfl) rfl rfl,
    st_sval hC (n := 9) (dc_J0_charAt_5068e 9 (17, .getfield 9, 3) rfl rfl) rfl rfl wd_2332,
    st_iload_n hC (n := 10) (k := 1) (dc_J0_charAt_5068e 10 (20, .iload_n 1, 1) rfl rfl) rfl rfl,
    st_no,
    st_nret hC (n := 12) hR (dc_J0_charAt_5068e 12 (24, .ireturn, 1) rfl rfl), trivial⟩
set_option maxRecDepth 8000 in
theorem vc_J0_charAt_5068e : VC P_J0_charAt_5068e 2 Pre_J0_charAt_5068e Fn_J0_charAt_5068e := by
  rintro mm as hom hoa ⟨g, k, hg, hk, rfl⟩
  refine ⟨Nat.le_of_ble_eq_true rfl, fun X h => ?_⟩
  have hle := slen_le g hg
  have ek : (nI k).toNatClampNeg = k := nI_clamp (by omega)
  show X 0 [some (vR 72 g), some (vI (nI k))] [] mm
  refine h (fun _ => false) 3000 0 _ _ _ ?_
  refine And.intro (show Pre_J0_isLatin1_aae02 mm [vR 72 g] from ⟨_, by assumption, rfl⟩) ?_
  refine br_f (by decide) ?_
  refine And.intro (show Pre_J1_charAt_3b067 mm [vR 73 g, vI (nI k)] from ⟨g, k, hg, hk, rfl⟩) ?_
  refine And.intro (by show narrow .char (.int (sbyt g (nI k).toNatClampNeg)) = .int (sbyt g (nI k).toNatClampNeg); rw [ek]; exact sbyt_nar (sbyt_a g hg k hk)) ?_
  show ((some (vI (sbyt g (nI k).toNatClampNeg)) : Option MV), mm) = _
  exact rfl
theorem con_J0_charAt_5068e (l : Launch) : CON l y_J0_charAt_5068e prog_17_method_56_code 2 (some .char) rm_J0_charAt_5068e Pre_J0_charAt_5068e Fn_J0_charAt_5068e := CON_ofF (by decide +kernel) rfl rfl (sa_J0_charAt_5068e l) vc_J0_charAt_5068e
