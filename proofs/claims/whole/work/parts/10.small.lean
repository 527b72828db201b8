/-! PART 10: first methods -/

theorem Met_ofWF {l : Launch} {y : MethodName} {ws ws' : List Cond} {rm : Room} {Pc : Array Value → State → Prop} {Qc : Array Value → State → Outcome → State → Prop} {mc ms : Nat} {free : Addr → Prop} {cc : ByteArray} {maxL : Nat} {ret : Option FieldType}
    (hy : plainFor y = true) (hw : ws = Cond.code y cc maxL ret :: ws')
    (body : ∀ p e s m args below meth c s₁, BodyLoose p l y (headSpec ws rm) cc maxL ret e s m args below meth c s₁ → c.maxLocals = maxL → Pc args s →
      W p l e (headSpec ws rm).room s m args below meth c s.heap [] 0 0 (MQ below Qc args s mc ms free) (entryFrame m args maxL)) : Met l y ws rm Pc Qc mc ms free := by
  refine MetFree.of_bodySF (code := cc) (maxLocals := maxL) (ret := ret) hy ?_ ?_
  · intro args s m h hn
    obtain ⟨meth, c, h1, h2, h3, h4, h5, h6, -, -⟩ := Cond.code_spec hn (atoms_spec (ws := ws) h _ (by rw [hw]; exact List.mem_cons_self))
    exact ⟨meth, c, h1, h2, h3, h4, h5, h6⟩
  · intro p e s m args below meth c s₁ B hml hP _
    have hh0 : s₁.heap = s.heap := by rw [B.state]; rfl
    obtain ⟨t, a1, o, b1, b2, b3⟩ := body p e s m args below meth c s₁ B hml hP s₁ hh0 (Stand.of_body B)
    exact ⟨t, o, a1, b1, b2, ⟨b3.1, b3.2⟩⟩
theorem CON_ofF {l : Launch} {y : MethodName} {cc : ByteArray} {nL : Nat} {ret : Option FieldType} {rm : Room} {Pre : PreT} {Fn : FnT} {P : List StpT} {pcs : Nat → Nat} {own : String} (hy : plainFor y = true) (hown : y.cls = own) (hp0 : pcs 0 = 0) (hs : SNDALL l cc own nL ret rm P pcs) (hvc : VC P nL Pre Fn) : CON l y cc nL ret rm Pre Fn := by
  intro D dA ad mm as sz hom hoa hpre
  obtain ⟨hlen, hvc⟩ := hvc mm as hom hoa hpre
  refine Met_ofWF (cc := cc) (maxL := nL) (ret := ret) hy rfl ?_
  intro p e s m args below meth c s₁ B hml hv
  obtain ⟨rfl, hsz, hP, hK, hD0, hN, hE⟩ := hv
  subst hsz
  subst hown
  have hts := atoms_spec (ws := Cond.code y cc nL ret :: TBL) B.pre
  have hC : CX p s m (as.map (cv ad)).toArray c cc y.cls nL D dA ad (AW ad s.heap.size) := ⟨B.exec, B.bytes, hml, findClass_of_methodNamed B.named, fun w hw => hts w (List.mem_cons_of_mem _ hw), hK, hN, hE, fun _ h => h⟩
  have hX := hvc _ (RUN_of (hs p e s m _ below meth c 0 0 _ D dA ad (AW ad s.heap.size) (fun r m' => (r, m') = Fn mm as) hC ⟨rfl, rfl, rfl, rfl, B.returns, B.notSynchronized⟩))
  have hl := lv_entry (as.map (cv ad)) (n := nL) (by rw [lsA_len]; exact hlen)
  rw [lg_entry_eq]
  have hW := hX (by unfold lsOf; rw [List.length_append, List.length_replicate]; omega) (fun i v hv => lsA_ok _ as i v hoa hv) (fun v hv => by cases hv) hom s.heap [] _ hP (AW_D hD0) va_S.rf hl.1 ⟨hl.2.1, fun i v hv => by
    have h3 := lsA_at ad _ as 0 i v hv
    rw [Nat.zero_add] at h3
    exact hl.2.2 _ h3⟩
  rw [hp0] at hW
  exact hW
/-- a truth as an answer -/
def bI (p : Prop) [Decidable p] : Int32 := if p then 1 else 0
theorem bI_0 {p : Prop} [Decidable p] : bI p = 0 ↔ ¬ p := by
  unfold bI
  by_cases h : p
  · rw [if_pos h]; exact ⟨fun z => absurd z (by decide), fun z => absurd h z⟩
  · rw [if_neg h]; exact ⟨fun _ => h, fun _ => rfl⟩
theorem bI_n0 {p : Prop} [Decidable p] : ¬ bI p = 0 ↔ p := by rw [bI_0]; exact Decidable.not_not
theorem bI_in {p : Prop} [Decidable p] : bI p = 0 ∨ bI p = 1 := by
  unfold bI
  by_cases h : p
  · rw [if_pos h]; exact Or.inr rfl
  · rw [if_neg h]; exact Or.inl rfl
theorem bI_t {p : Prop} [Decidable p] (h : p) : bI p = 1 := if_pos h
theorem bI_f {p : Prop} [Decidable p] (h : ¬ p) : bI p = 0 := if_neg h
theorem ret_t {p : Prop} [Decidable p] {m : MM} (h : p) : ((some (Sum.inl 1) : Option MV), m) = (some (vI (bI p)), m) := by rw [bI_t h]
theorem ret_f {p : Prop} [Decidable p] {m : MM} (h : ¬ p) : ((some (Sum.inl 0) : Option MV), m) = (some (vI (bI p)), m) := by rw [bI_f h]
theorem leaf {a b : Option MV × MM} (h : a = b) : a = b := h
theorem li (n : Nat) : (OfNat.ofNat n : Int32) = nI n := rfl
theorem gu_m1 {n : Nat} (h : n < 2 ^ 31) : (nI n = -1) ↔ False := by
  refine ⟨fun e => ?_, False.elim⟩
  have := congrArg Int32.toInt e
  rw [nI_toInt h] at this
  have h2 : (-1 : Int32).toInt = -1 := by decide
  omega
theorem inb_o {i : Int32} {j k : Nat} (N : Nat) (hk : Nat.beq (alen k) N = true) (hN : Nat.ble N 1000000 = true) (hi : i = nI j) (hj : j < N) : inb i (alen k) = true := by
  have h1 := Nat.eq_of_beq_eq_true hk
  have h2 := Nat.le_of_ble_eq_true hN
  rw [h1, hi]
  exact inb_nI hj (by omega)
theorem brn_t {c A B : Prop} (h : ¬ c) (a : A) : (¬ c → A) ∧ (c → B) := ⟨fun _ => a, fun z => absurd z h⟩
theorem brn_f {c A B : Prop} (h : c) (b : B) : (¬ c → A) ∧ (c → B) := ⟨fun z => absurd h z, fun _ => b⟩
theorem brn_c {c A B : Prop} (a : ¬ c → A) (b : c → B) : (¬ c → A) ∧ (c → B) := ⟨a, b⟩
theorem up_ind {P : Nat → Prop} (n : Nat) (h0 : P n) (hs : ∀ t, t < n → P (t + 1) → P t) : ∀ t, t ≤ n → P t := by
  intro t ht
  have key : ∀ d t, t + d = n → P t := by
    intro d
    induction d with
    | zero => intro t e; rw [Nat.add_zero] at e; rw [e]; exact h0
    | succ d ih => intro t e; exact hs t (by omega) (ih (t + 1) (by omega))
  exact key (n - t) t (by omega)

def Pre_X11_isOut : PreT := fun _ as => ∃ a b : Int32, as = [vI a, vI b]
def Fn_X11_isOut : FnT := fun m as => match as with
  | [Sum.inl a, Sum.inl b] => (some (vI (bI (a < 0 ∨ b ≤ a))), m)
  | _ => (none, m)
abbrev y_X11_isOut : MethodName := ⟨"GivenUp", "isOut", "(II)Z"⟩
def P_X11_isOut : List StpT := [s_iload 0, s_iflt 5, s_iload 0, s_iload 1, s_iclt 7, s_ic (1), s_goto 8, s_ic (0), s_zret]
def pc_X11_isOut : Nat → Nat := fun i => [0, 1, 4, 5, 6, 9, 10, 13, 14].getD i 0
def dl_X11_isOut : List (Nat × Instr × Nat) := [(0, .iload_n 0, 1), (1, .ifCond .lt 8, 3), (4, .iload_n 0, 1), (5, .iload_n 1, 1), (6, .if_icmp .lt 7, 3), (9, .iconst 1, 1), (10, .goto 4, 3), (13, .iconst 0, 1), (14, .ireturn, 1)]
theorem dc_X11_isOut : DEC prog_1_method_69_code pc_X11_isOut dl_X11_isOut := DEC_of (by decide +kernel)
abbrev rm_X11_isOut : Room := { frames := 0, cells := 0, slots := 0, locals := 0 }
set_option maxRecDepth 20000 in
theorem sa_X11_isOut (l : Launch) : SNDALL l prog_1_method_69_code "GivenUp" 2 (some .boolean) rm_X11_isOut P_X11_isOut pc_X11_isOut := fun p e s m args below meth c cells slots Q D dA ad A RR hC hR => by
  have hM := RTX_room (R := rm_X11_isOut) hR
  exact ⟨st_iload_n hC (n := 0) (k := 0) (dc_X11_isOut 0 (0, .iload_n 0, 1) rfl rfl) rfl rfl,
    st_iflt hC (n := 1) (dc_X11_isOut 1 (1, .ifCond .lt 8, 3) rfl rfl) rfl (by decide),
    st_iload_n hC (n := 2) (k := 0) (dc_X11_isOut 2 (4, .iload_n 0, 1) rfl rfl) rfl rfl,
    st_iload_n hC (n := 3) (k := 1) (dc_X11_isOut 3 (5, .iload_n 1, 1) rfl rfl) rfl rfl,
    st_iclt hC (n := 4) (dc_X11_isOut 4 (6, .if_icmp .lt 7, 3) rfl rfl) rfl (by decide),
    st_iconst hC (n := 5) (x := 1) (dc_X11_isOut 5 (9, .iconst 1, 1) rfl rfl) rfl (by decide),
    st_goto hC (n := 6) (dc_X11_isOut 6 (10, .goto 4, 3) rfl rfl) (by decide),
    st_iconst hC (n := 7) (x := 0) (dc_X11_isOut 7 (13, .iconst 0, 1) rfl rfl) rfl (by decide),
    st_zret hC (n := 8) hR (dc_X11_isOut 8 (14, .ireturn, 1) rfl rfl), trivial⟩
theorem vc_X11_isOut : VC P_X11_isOut 2 Pre_X11_isOut Fn_X11_isOut := by
  rintro mm as hom hoa ⟨a, b, rfl⟩
  refine ⟨Nat.le_of_ble_eq_true rfl, fun X h => ?_⟩
  refine h (fun _ => false) 3000 0 _ _ _ ?_
  repeat' (first | refine And.intro ?_ ?_ | intro _)
  · exact Or.inr rfl
  · rename_i h1
    exact ret_t (Or.inl h1)
  · exact Or.inl rfl
  · rename_i h1 h2
    exact ret_f (fun z => z.elim h1 (fun z => Int32.not_le.mpr h2 z))
  · exact Or.inr rfl
  · rename_i h1 h2
    exact ret_t (Or.inr (Int32.not_lt.mp h2))
theorem con_X11_isOut (l : Launch) : CON l y_X11_isOut prog_1_method_69_code 2 (some .boolean) rm_X11_isOut Pre_X11_isOut Fn_X11_isOut := CON_of (by decide) rfl rfl (sa_X11_isOut l) vc_X11_isOut
