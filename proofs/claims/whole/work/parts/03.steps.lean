/-! PART 03: the steps of the small machine; each is sound over the kit's rows -/
def okv : MV → Prop
  | Sum.inl _ => True
  | Sum.inr (Sum.inl _) => True
  | Sum.inr (Sum.inr q) => q.2 < cnt q.1
def inb (i : Int32) (n : Nat) : Bool := decide (0 ≤ i.toInt) && decide (i.toInt < (n : Int))
theorem inb_of {i : Int32} {n : Nat} (h : inb i n = true) : vp_in i n := by
  unfold inb at h
  simp only [Bool.and_eq_true, decide_eq_true_eq] at h
  exact vp_in_iff.mpr h
theorem inb_nI {j n : Nat} (h : j < n) (hn : n < 2 ^ 31) : inb (nI j) n = true := by
  unfold inb
  rw [nI_toInt (by omega)]
  simp only [Bool.and_eq_true, decide_eq_true_eq]
  omega
theorem inb_iff {i : Int32} {n : Nat} : inb i n = true ↔ 0 ≤ i.toInt ∧ i.toInt < n := by
  unfold inb
  simp only [Bool.and_eq_true, decide_eq_true_eq]
def okl (ls : LsT) : Prop := ∀ i v, lg ls i = some v → okv v
def oks (st : List MV) : Prop := ∀ v ∈ st, okv v
def okm (m : MM) : Prop := m.2.2 0 < 5 ∧ m.2.2 1 < 5
theorem okl_lp {ls : LsT} {i : Nat} {v : Option MV} (h : okl ls) (hv : ∀ w, v = some w → okv w) : okl (lp ls i v) := by
  intro j w hw
  rw [lg_lp] at hw
  by_cases q : j = i ∧ i < ls.length
  · rw [if_pos q] at hw; exact hv w hw
  · rw [if_neg q] at hw; exact h j w hw
theorem oks_c {v : MV} {st : List MV} (h : okv v) (hs : oks st) : oks (v :: st) := fun w hw => by
  rcases List.mem_cons.mp hw with rfl | q
  · exact h
  · exact hs w q
theorem oks_t {v : MV} {st : List MV} (h : oks (v :: st)) : oks st := fun w hw => h w (List.mem_cons_of_mem _ hw)
theorem oks_h {v : MV} {st : List MV} (h : oks (v :: st)) : okv v := h v List.mem_cons_self
def LH (ad : Nat → Nat → Nat) (arr : Array Slot) (ls : LsT) : Prop := lv_wf arr ∧ ∀ i v, lg ls i = some v → arr[i]? = some (.val (cv ad v))
/-- links of nest mates -/
def NSL : List (String × Nat × MethodName × String) := [("GivenUp", 46, ⟨"GivenUp$Plan", "<init>", "()V"⟩, "GivenUp"), ("GivenUp", 62, ⟨"GivenUp$Courtship", "<init>", "()V"⟩, "GivenUp"), ("GivenUp", 69, ⟨"GivenUp$Life", "<init>", "()V"⟩, "GivenUp"), ("GivenUp$Valley", 48, ⟨"GivenUp$Deeds", "<init>", "()V"⟩, "GivenUp"), ("GivenUp$Valley", 55, ⟨"GivenUp$Years", "<init>", "()V"⟩, "GivenUp"), ("GivenUp", 114, ⟨"GivenUp$Tray", "<init>", "()V"⟩, "GivenUp"), ("GivenUp$Tray", 32, ⟨"GivenUp", "isOut", "(II)Z"⟩, "GivenUp"), ("GivenUp$Valley", 116, ⟨"GivenUp", "holds", "(II)Z"⟩, "GivenUp"), ("GivenUp$Plan", 115, ⟨"GivenUp", "holds", "(II)Z"⟩, "GivenUp"), ("GivenUp$Village", 68, ⟨"GivenUp", "holds", "(II)Z"⟩, "GivenUp"), ("GivenUp$Courtship", 50, ⟨"GivenUp", "holds", "(II)Z"⟩, "GivenUp"), ("GivenUp$Life", 124, ⟨"GivenUp", "holds", "(II)Z"⟩, "GivenUp")]
def NST (U : State) : Prop := ∀ q ∈ NSL, va_Nw (.methodLinkNest q.1 q.2.1 q.2.2.1 q.2.2.2) U
theorem NST.same {u U : State} (h : u.vm = U.vm) (hN : NST u) : NST U := fun q hq => (hN q hq).same rfl h
theorem NST.warm {s U : State} (h : s.WarmedH U.vm) (hN : NST s) : NST U := fun q hq => (hN q hq).warmM h
def KT0 : String := "suitor age cows maid bar rises mother thing of worth says to after likes weekly fair give any week wed with back feign when heard yes bare loop end stop "
def KT1 : String := " suitor maid thing says after likes weekly fair age cows bar rises mother of worth to give feign any back week wed with when loop end stop heard yes bare "
def KB (t : String) : List Int32 := t.toList.map (fun c => nI c.toNat)
/-- the two String constants, and the statics that their methods read -/
def EXT (ad : Nat → Nat → Nat) (A : Nat → Prop) (U : State) (H : Heap) : Prop :=
  vk_S 2 [153, 154] [KB KT0, KB KT1] (ad 72) (ad 73) A U H ∧ vk_R "GivenUp$Text" 48 KT0 (ad 72 0) U ∧ vk_R "GivenUpModel" 180 KT1 (ad 72 1) U ∧
  va_Z "java/lang/String" "COMPACT_STRINGS" "Z" (.int 1) A U H ∧ va_Zq "jdk/internal/util/Preconditions" "SIOOBE_FORMATTER" "Ljava/util/function/BiFunction;" A U H
theorem EXT.same {ad : Nat → Nat → Nat} {A : Nat → Prop} {u U : State} {H : Heap} (hv : u.vm = U.vm) (h : EXT ad A u H) : EXT ad A U H := by
  have ha : u.vm.Alike U.vm := by rw [hv]; exact Vm.Alike.refl _
  obtain ⟨h1, h2, h3, h4, h5⟩ := h
  refine ⟨h1.moved ha, h2.same hv.symm, h3.same hv.symm, h4.moved ha, ?_⟩
  rcases h5 with h5 | ⟨t, h5⟩
  · exact Or.inl (h5.moved ha)
  · exact Or.inr ⟨t, h5.moved ha⟩
theorem EXT.warm {ad : Nat → Nat → Nat} {A : Nat → Prop} {s U : State} {H : Heap} (hw : s.WarmedH U.vm) (h : EXT ad A s H) : EXT ad A U H := by
  obtain ⟨h1, h2, h3, h4, h5⟩ := h
  refine ⟨h1.moved hw.alike, h2.warm hw, h3.warm hw, h4.moved hw.alike, ?_⟩
  rcases h5 with h5 | ⟨t, h5⟩
  · exact Or.inl (h5.moved hw.alike)
  · exact Or.inr ⟨t, h5.moved hw.alike⟩
theorem EXT.kept {ad : Nat → Nat → Nat} {A B : Nat → Prop} {U : State} {H H1 : Heap} (h : EXT ad A U H) (hq : ∀ a : Nat, a < H.size → ¬ A a → H1[a]? = H[a]?) (hB : ∀ q, B q → A q) : EXT ad B U H1 := by
  obtain ⟨h1, h2, h3, h4, h5⟩ := h
  refine ⟨(h1.kept hq).narrow hB, h2, h3, (h4.kept hq).narrow hB, ?_⟩
  rcases h5 with h5 | ⟨t, h5⟩
  · exact Or.inl ((h5.kept hq).narrow hB)
  · exact Or.inr ⟨t, (h5.kept hq).narrow hB⟩
/-- the whole world, as a state holds it -/
def WLD (D : va_G) (dA : Nat → ClassId) (ad : Nat → Nat → Nat) (A : Nat → Prop) (mm : MM) (U : State) : Prop :=
  va_P D vwCl (WS dA ad mm) U.heap ∧ va_K D vwCl (TYS dA) U ∧ va_D (fun _ => True) (WS dA ad mm) ∧ NST U ∧ EXT ad A U U.heap
/-- the cells that may be written -/
def AW (ad : Nat → Nat → Nat) (sz : Nat) : Nat → Prop := fun q => (∃ c ∈ CELLS, q = ad c.1 c.2) ∨ sz ≤ q
theorem AW_D {dA : Nat → ClassId} {ad : Nat → Nat → Nat} {mm : MM} {sz : Nat} (h : va_D (fun _ => True) (WS dA ad mm)) : va_D (AW ad sz) (WS dA ad mm) := by
  refine ⟨h.1, fun k q hk => Or.inl ?_⟩
  unfold WS at hk
  rw [List.getElem?_map] at hk
  cases hc : CELLS[k]? with
  | none => rw [hc] at hk; cases hk
  | some r => rw [hc] at hk; cases hk; exact ⟨r, List.mem_of_getElem? hc, rfl⟩
def monoS (s : StpT) : Prop := ∀ (R : RetP) (K K' : KonT), (∀ i ls st m, K i ls st m → K' i ls st m) → ∀ n ls st m, s R K n ls st m → s R K' n ls st m
def SND (R : RetP) (X : KonT) (n : Nat) (s : StpT) : Prop := monoS s ∧ ∀ ls st m, s R X n ls st m → X n ls st m
section FW
variable {p : Program} {l : Launch} {e : Env} {R : Room} {s : State} {m : MethodId} {args : Array Value} {below : List Frame} {meth : Method} {c : Code} {cells slots : Nat} {Q : State → Prop} {nL : Nat} {D : va_G} {dA : Nat → ClassId} {ad : Nat → Nat → Nat} {A : Nat → Prop} {pcs : Nat → Nat} {cc : ByteArray} {own : String} {RR : RetP}
def XK (p : Program) (l : Launch) (e : Env) (R : Room) (s : State) (m : MethodId) (args : Array Value) (below : List Frame) (meth : Method) (c : Code) (cells slots : Nat) (Q : State → Prop) (nL : Nat) (D : va_G) (dA : Nat → ClassId) (ad : Nat → Nat → Nat) (A : Nat → Prop) (pcs : Nat → Nat) : KonT := fun i ls st mm =>
  ls.length = nL → okl ls → oks st → okm mm → ∀ (H : Heap) (locs : List Loc) (arr : Array Slot), va_P D vwCl (WS dA ad mm) H → va_D A (WS dA ad mm) → va_S A s.heap H locs → arr.size = nL → LH ad arr ls →
    W p l e R s m args below meth c H locs cells slots Q (F0 m (pcs i) arr (st.map (cv ad)))
def CX (p : Program) (s : State) (m : MethodId) (args : Array Value) (c : Code) (cc : ByteArray) (own : String) (nL : Nat) (D : va_G) (dA : Nat → ClassId) (ad : Nat → Nat → Nat) (A : Nat → Prop) : Prop :=
  p.tables.exec = Jvm.exec ∧ c.code = cc ∧ c.maxLocals = nL ∧ s.vm.findClass own = some m.cls ∧ (∀ w ∈ TBL, w.before args s = true) ∧ va_K D vwCl (TYS dA) s ∧ NST s ∧ EXT ad A s s.heap ∧ (∀ q, AW ad s.heap.size q → A q)

theorem LH_push {arr : Array Slot} {ls : LsT} {i : Nat} {v : MV} (h : LH ad arr ls) (hi : lg ls i = some v) : arr[i]? = some (.val (cv ad v)) := h.2 i v hi
/-- the listed locals, as the kit wants them -/
def lvl (ad : Nat → Nat → Nat) (ls : LsT) : List (Nat × Value) := (List.range ls.length).filterMap (fun j => (lg ls j).map (fun v => (j, cv ad v)))
theorem lvl_has {arr : Array Slot} {ls : LsT} (h : LH ad arr ls) (hn : arr.size = nL) : lv_has arr nL (lvl ad ls) := by
  refine ⟨hn, h.1, fun q hq => ?_⟩
  obtain ⟨j, -, hj⟩ := List.mem_filterMap.mp hq
  cases hl : lg ls j with
  | none => rw [hl] at hj; cases hj
  | some v => rw [hl] at hj; cases hj; exact h.2 j v hl
theorem lg_lt : ∀ {ls : LsT} {i : Nat} {v : MV}, lg ls i = some v → i < ls.length
  | [], _, _, h => by cases h
  | _ :: _, 0, _, _ => Nat.succ_pos _
  | _ :: t, n + 1, v, h => Nat.succ_lt_succ (lg_lt (ls := t) (i := n) (v := v) h)
theorem lvl_mem {ls : LsT} {i : Nat} {v : MV} (h : lg ls i = some v) : (i, cv ad v) ∈ lvl ad ls := List.mem_filterMap.mpr ⟨i, List.mem_range.mpr (lg_lt h), by rw [h]; rfl⟩
theorem LH_st1 {arr' : Array Slot} {ls : LsT} {i : Nat} {v : MV} (hc : cat v = 1) (hl : ls.length = nL) (hi : i < nL) (hp : ∀ w, lgp ls i = some w → cat w = 1) (h : lv_has arr' nL ((i, cv ad v) :: (lvl ad ls).filter (fun q => !(q.1 == i) && !(q.1 + 1 == i && q.2.category == 2)))) : LH ad arr' (lp ls i (some v)) := by
  refine ⟨h.2.1, fun j w hw => ?_⟩
  rw [lg_lp] at hw
  by_cases q : j = i ∧ i < ls.length
  · rw [if_pos q] at hw
    cases hw
    rw [q.1]
    exact h.2.2 (i, cv ad v) List.mem_cons_self
  · rw [if_neg q] at hw
    have hj : ¬ j = i := fun e => q ⟨e, by omega⟩
    refine h.2.2 (j, cv ad w) (List.mem_cons_of_mem _ (List.mem_filter.mpr ⟨lvl_mem hw, ?_⟩))
    simp only [cv_cat, Bool.and_eq_true, Bool.not_eq_true', beq_eq_false_iff_ne, ne_eq, Bool.and_eq_false_iff]
    refine ⟨hj, ?_⟩
    by_cases h1 : j + 1 = i
    · right
      subst h1
      have := hp w hw
      omega
    · left; exact h1
theorem LH_st2 {arr' : Array Slot} {ls : LsT} {i : Nat} {v : MV} (hl : ls.length = nL) (hi : i + 1 < nL) (hp : ∀ w, lgp ls i = some w → cat w = 1) (h : lv_has arr' nL ((i, cv ad v) :: (lvl ad ls).filter (fun q => !(q.1 == i) && (!(q.1 == i + 1) && !(q.1 + 1 == i && q.2.category == 2))))) : LH ad arr' (lp (lp ls i (some v)) (i + 1) none) := by
  refine ⟨h.2.1, fun j w hw => ?_⟩
  rw [lg_lp, lp_len] at hw
  by_cases q1 : j = i + 1 ∧ i + 1 < ls.length
  · rw [if_pos q1] at hw; cases hw
  rw [if_neg q1, lg_lp] at hw
  by_cases q : j = i ∧ i < ls.length
  · rw [if_pos q] at hw
    cases hw
    rw [q.1]
    exact h.2.2 (i, cv ad v) List.mem_cons_self
  · rw [if_neg q] at hw
    have hj : ¬ j = i := fun e => q ⟨e, by omega⟩
    have hj1 : ¬ j = i + 1 := fun e => q1 ⟨e, by omega⟩
    refine h.2.2 (j, cv ad w) (List.mem_cons_of_mem _ (List.mem_filter.mpr ⟨lvl_mem hw, ?_⟩))
    simp only [cv_cat, Bool.and_eq_true, Bool.not_eq_true', beq_eq_false_iff_ne, ne_eq, Bool.and_eq_false_iff]
    refine ⟨hj, hj1, ?_⟩
    by_cases h1 : j + 1 = i
    · right
      subst h1
      have := hp w hw
      omega
    · left; exact h1
def s_iload (i : Nat) : StpT := fun _ K n ls st m => match lg ls i with
  | some (Sum.inl x) => K (n + 1) ls (Sum.inl x :: st) m
  | _ => False
theorem mo_s_iload {i : Nat} : monoS (s_iload i) := by
  intro R K K' h n ls st m hs
  unfold s_iload at hs ⊢
  split at hs
  · exact h _ _ _ _ hs
  · exact hs
theorem st_iload (hC : CX p s m args c cc own nL D dA ad A) {n i : Nat} (hd : decode cc (pcs n) = .ok (.iload i, 2)) (hn : pcs (n + 1) = pcs n + 2) : SND RR (XK p l e R s m args below meth c cells slots Q nL D dA ad A pcs) n (s_iload i) := by
  refine ⟨mo_s_iload, fun ls st mm h => ?_⟩
  obtain ⟨hx, hb, hml, hown, hts, hK, hN, hE, hAW⟩ := hC
  intro hl hol hos hom H locs arr hP hD hS hz hL
  unfold s_iload at h
  split at h
  · rename_i x he
    have hv := hL.2 i _ he
    have k1 := h hl hol (oks_c (hol _ _ he) hos) hom H locs arr hP hD hS hz hL
    rw [hn] at k1
    exact lv_iload hx hb hd hv k1
  · exact h.elim
theorem st_iload_n (hC : CX p s m args c cc own nL D dA ad A) {n i : Nat} {k : Fin 4} (hd : decode cc (pcs n) = .ok (.iload_n k, 1)) (hn : pcs (n + 1) = pcs n + 1) (hk : (k : Nat) = i) : SND RR (XK p l e R s m args below meth c cells slots Q nL D dA ad A pcs) n (s_iload i) := by
  refine ⟨mo_s_iload, fun ls st mm h => ?_⟩
  obtain ⟨hx, hb, hml, hown, hts, hK, hN, hE, hAW⟩ := hC
  intro hl hol hos hom H locs arr hP hD hS hz hL
  unfold s_iload at h
  split at h
  · rename_i x he
    have hv := hL.2 i _ he
    have k1 := h hl hol (oks_c (hol _ _ he) hos) hom H locs arr hP hD hS hz hL
    rw [hn] at k1
    exact lv_iload_n hx hb hd hk hv k1
  · exact h.elim
def s_lload (i : Nat) : StpT := fun _ K n ls st m => match lg ls i with
  | some (Sum.inr (Sum.inl x)) => K (n + 1) ls (Sum.inr (Sum.inl x) :: st) m
  | _ => False
theorem mo_s_lload {i : Nat} : monoS (s_lload i) := by
  intro R K K' h n ls st m hs
  unfold s_lload at hs ⊢
  split at hs
  · exact h _ _ _ _ hs
  · exact hs
theorem st_lload (hC : CX p s m args c cc own nL D dA ad A) {n i : Nat} (hd : decode cc (pcs n) = .ok (.lload i, 2)) (hn : pcs (n + 1) = pcs n + 2) : SND RR (XK p l e R s m args below meth c cells slots Q nL D dA ad A pcs) n (s_lload i) := by
  refine ⟨mo_s_lload, fun ls st mm h => ?_⟩
  obtain ⟨hx, hb, hml, hown, hts, hK, hN, hE, hAW⟩ := hC
  intro hl hol hos hom H locs arr hP hD hS hz hL
  unfold s_lload at h
  split at h
  · rename_i x he
    have hv := hL.2 i _ he
    have k1 := h hl hol (oks_c (hol _ _ he) hos) hom H locs arr hP hD hS hz hL
    rw [hn] at k1
    exact lv_lload hx hb hd hv k1
  · exact h.elim
theorem st_lload_n (hC : CX p s m args c cc own nL D dA ad A) {n i : Nat} {k : Fin 4} (hd : decode cc (pcs n) = .ok (.lload_n k, 1)) (hn : pcs (n + 1) = pcs n + 1) (hk : (k : Nat) = i) : SND RR (XK p l e R s m args below meth c cells slots Q nL D dA ad A pcs) n (s_lload i) := by
  refine ⟨mo_s_lload, fun ls st mm h => ?_⟩
  obtain ⟨hx, hb, hml, hown, hts, hK, hN, hE, hAW⟩ := hC
  intro hl hol hos hom H locs arr hP hD hS hz hL
  unfold s_lload at h
  split at h
  · rename_i x he
    have hv := hL.2 i _ he
    have k1 := h hl hol (oks_c (hol _ _ he) hos) hom H locs arr hP hD hS hz hL
    rw [hn] at k1
    exact lv_lload_n hx hb hd hk hv k1
  · exact h.elim
def s_aload (i : Nat) : StpT := fun _ K n ls st m => match lg ls i with
  | some (Sum.inr (Sum.inr x)) => K (n + 1) ls (Sum.inr (Sum.inr x) :: st) m
  | _ => False
theorem mo_s_aload {i : Nat} : monoS (s_aload i) := by
  intro R K K' h n ls st m hs
  unfold s_aload at hs ⊢
  split at hs
  · exact h _ _ _ _ hs
  · exact hs
theorem st_aload (hC : CX p s m args c cc own nL D dA ad A) {n i : Nat} (hd : decode cc (pcs n) = .ok (.aload i, 2)) (hn : pcs (n + 1) = pcs n + 2) : SND RR (XK p l e R s m args below meth c cells slots Q nL D dA ad A pcs) n (s_aload i) := by
  refine ⟨mo_s_aload, fun ls st mm h => ?_⟩
  obtain ⟨hx, hb, hml, hown, hts, hK, hN, hE, hAW⟩ := hC
  intro hl hol hos hom H locs arr hP hD hS hz hL
  unfold s_aload at h
  split at h
  · rename_i x he
    have hv := hL.2 i _ he
    have k1 := h hl hol (oks_c (hol _ _ he) hos) hom H locs arr hP hD hS hz hL
    rw [hn] at k1
    exact lv_aload hx hb hd hv k1
  · exact h.elim
theorem st_aload_n (hC : CX p s m args c cc own nL D dA ad A) {n i : Nat} {k : Fin 4} (hd : decode cc (pcs n) = .ok (.aload_n k, 1)) (hn : pcs (n + 1) = pcs n + 1) (hk : (k : Nat) = i) : SND RR (XK p l e R s m args below meth c cells slots Q nL D dA ad A pcs) n (s_aload i) := by
  refine ⟨mo_s_aload, fun ls st mm h => ?_⟩
  obtain ⟨hx, hb, hml, hown, hts, hK, hN, hE, hAW⟩ := hC
  intro hl hol hos hom H locs arr hP hD hS hz hL
  unfold s_aload at h
  split at h
  · rename_i x he
    have hv := hL.2 i _ he
    have k1 := h hl hol (oks_c (hol _ _ he) hos) hom H locs arr hP hD hS hz hL
    rw [hn] at k1
    exact lv_aload_n hx hb hd hk hv k1
  · exact h.elim
def s_istore (i : Nat) : StpT := fun _ K n ls st m => match st with
  | Sum.inl x :: st' => (match lgp ls i with
    | some (Sum.inr (Sum.inl _)) => False
    | _ => K (n + 1) (lp ls i (some (Sum.inl x))) st' m)
  | _ => False
theorem mo_s_istore {i : Nat} : monoS (s_istore i) := by
  intro R K K' h n ls st m hs
  unfold s_istore at hs ⊢
  split at hs
  · split at hs
    · exact hs.elim
    · exact h _ _ _ _ hs
  · exact hs
theorem st_istore (hC : CX p s m args c cc own nL D dA ad A) {n i : Nat} (hd : decode cc (pcs n) = .ok (.istore i, 2)) (hn : pcs (n + 1) = pcs n + 2) (hin : i < nL) : SND RR (XK p l e R s m args below meth c cells slots Q nL D dA ad A pcs) n (s_istore i) := by
  refine ⟨mo_s_istore, fun ls st mm h => ?_⟩
  obtain ⟨hx, hb, hml, hown, hts, hK, hN, hE, hAW⟩ := hC
  intro hl hol hos hom H locs arr hP hD hS hz hL
  unfold s_istore at h
  split at h
  · rename_i x st'
    split at h
    · exact h.elim
    · rename_i hne
      refine lv_istore hx hb hd (lvl_has hL hz) hin rfl (fun arr' ha => ?_)
      have k1 := h (by rw [lp_len]; exact hl) (okl_lp hol (fun w hw => by cases hw; exact oks_h hos)) (oks_t hos) hom H locs arr' hP hD hS ha.1 (LH_st1 rfl hl hin (fun w hw => by
        rcases w with w | w | w
        · rfl
        · exact absurd hw (hne w)
        · rfl) ha)
      rw [hn] at k1
      exact k1
  · exact h.elim
theorem st_istore_n (hC : CX p s m args c cc own nL D dA ad A) {n i : Nat} {k : Fin 4} (hd : decode cc (pcs n) = .ok (.istore_n k, 1)) (hn : pcs (n + 1) = pcs n + 1) (hk : (k : Nat) = i) (hin : i < nL) : SND RR (XK p l e R s m args below meth c cells slots Q nL D dA ad A pcs) n (s_istore i) := by
  refine ⟨mo_s_istore, fun ls st mm h => ?_⟩
  obtain ⟨hx, hb, hml, hown, hts, hK, hN, hE, hAW⟩ := hC
  intro hl hol hos hom H locs arr hP hD hS hz hL
  unfold s_istore at h
  split at h
  · rename_i x st'
    split at h
    · exact h.elim
    · rename_i hne
      refine lv_istore_n hx hb hd hk (lvl_has hL hz) hin rfl (fun arr' ha => ?_)
      have k1 := h (by rw [lp_len]; exact hl) (okl_lp hol (fun w hw => by cases hw; exact oks_h hos)) (oks_t hos) hom H locs arr' hP hD hS ha.1 (LH_st1 rfl hl hin (fun w hw => by
        rcases w with w | w | w
        · rfl
        · exact absurd hw (hne w)
        · rfl) ha)
      rw [hn] at k1
      exact k1
  · exact h.elim
def s_astore (i : Nat) : StpT := fun _ K n ls st m => match st with
  | Sum.inr (Sum.inr x) :: st' => (match lgp ls i with
    | some (Sum.inr (Sum.inl _)) => False
    | _ => K (n + 1) (lp ls i (some (Sum.inr (Sum.inr x)))) st' m)
  | _ => False
theorem mo_s_astore {i : Nat} : monoS (s_astore i) := by
  intro R K K' h n ls st m hs
  unfold s_astore at hs ⊢
  split at hs
  · split at hs
    · exact hs.elim
    · exact h _ _ _ _ hs
  · exact hs
theorem st_astore (hC : CX p s m args c cc own nL D dA ad A) {n i : Nat} (hd : decode cc (pcs n) = .ok (.astore i, 2)) (hn : pcs (n + 1) = pcs n + 2) (hin : i < nL) : SND RR (XK p l e R s m args below meth c cells slots Q nL D dA ad A pcs) n (s_astore i) := by
  refine ⟨mo_s_astore, fun ls st mm h => ?_⟩
  obtain ⟨hx, hb, hml, hown, hts, hK, hN, hE, hAW⟩ := hC
  intro hl hol hos hom H locs arr hP hD hS hz hL
  unfold s_astore at h
  split at h
  · rename_i x st'
    split at h
    · exact h.elim
    · rename_i hne
      refine lv_astore hx hb hd (lvl_has hL hz) hin rfl (fun arr' ha => ?_)
      have k1 := h (by rw [lp_len]; exact hl) (okl_lp hol (fun w hw => by cases hw; exact oks_h hos)) (oks_t hos) hom H locs arr' hP hD hS ha.1 (LH_st1 rfl hl hin (fun w hw => by
        rcases w with w | w | w
        · rfl
        · exact absurd hw (hne w)
        · rfl) ha)
      rw [hn] at k1
      exact k1
  · exact h.elim
theorem st_astore_n (hC : CX p s m args c cc own nL D dA ad A) {n i : Nat} {k : Fin 4} (hd : decode cc (pcs n) = .ok (.astore_n k, 1)) (hn : pcs (n + 1) = pcs n + 1) (hk : (k : Nat) = i) (hin : i < nL) : SND RR (XK p l e R s m args below meth c cells slots Q nL D dA ad A pcs) n (s_astore i) := by
  refine ⟨mo_s_astore, fun ls st mm h => ?_⟩
  obtain ⟨hx, hb, hml, hown, hts, hK, hN, hE, hAW⟩ := hC
  intro hl hol hos hom H locs arr hP hD hS hz hL
  unfold s_astore at h
  split at h
  · rename_i x st'
    split at h
    · exact h.elim
    · rename_i hne
      refine lv_astore_n hx hb hd hk (lvl_has hL hz) hin rfl (fun arr' ha => ?_)
      have k1 := h (by rw [lp_len]; exact hl) (okl_lp hol (fun w hw => by cases hw; exact oks_h hos)) (oks_t hos) hom H locs arr' hP hD hS ha.1 (LH_st1 rfl hl hin (fun w hw => by
        rcases w with w | w | w
        · rfl
        · exact absurd hw (hne w)
        · rfl) ha)
      rw [hn] at k1
      exact k1
  · exact h.elim
def s_lstore (i : Nat) : StpT := fun _ K n ls st m => match st with
  | Sum.inr (Sum.inl x) :: st' => (match lgp ls i with
    | some (Sum.inr (Sum.inl _)) => False
    | _ => K (n + 1) (lp (lp ls i (some (Sum.inr (Sum.inl x)))) (i + 1) none) st' m)
  | _ => False
theorem mo_s_lstore {i : Nat} : monoS (s_lstore i) := by
  intro R K K' h n ls st m hs
  unfold s_lstore at hs ⊢
  split at hs
  · split at hs
    · exact hs.elim
    · exact h _ _ _ _ hs
  · exact hs
theorem st_lstore (hC : CX p s m args c cc own nL D dA ad A) {n i : Nat} (hd : decode cc (pcs n) = .ok (.lstore i, 2)) (hn : pcs (n + 1) = pcs n + 2) (hin : i + 1 < nL) : SND RR (XK p l e R s m args below meth c cells slots Q nL D dA ad A pcs) n (s_lstore i) := by
  refine ⟨mo_s_lstore, fun ls st mm h => ?_⟩
  obtain ⟨hx, hb, hml, hown, hts, hK, hN, hE, hAW⟩ := hC
  intro hl hol hos hom H locs arr hP hD hS hz hL
  unfold s_lstore at h
  split at h
  · rename_i x st'
    split at h
    · exact h.elim
    · rename_i hne
      refine lv_lstore hx hb hd (lvl_has hL hz) hin rfl (fun arr' ha => ?_)
      have k1 := h (by rw [lp_len, lp_len]; exact hl) (okl_lp (okl_lp hol (fun w hw => by cases hw; exact oks_h hos)) (fun w hw => by cases hw)) (oks_t hos) hom H locs arr' hP hD hS ha.1 (LH_st2 (v := Sum.inr (Sum.inl x)) hl hin (fun w hw => by
        rcases w with w | w | w
        · rfl
        · exact absurd hw (hne w)
        · rfl) ha)
      rw [hn] at k1
      exact k1
  · exact h.elim
theorem st_lstore_n (hC : CX p s m args c cc own nL D dA ad A) {n i : Nat} {k : Fin 4} (hd : decode cc (pcs n) = .ok (.lstore_n k, 1)) (hn : pcs (n + 1) = pcs n + 1) (hk : (k : Nat) = i) (hin : i + 1 < nL) : SND RR (XK p l e R s m args below meth c cells slots Q nL D dA ad A pcs) n (s_lstore i) := by
  refine ⟨mo_s_lstore, fun ls st mm h => ?_⟩
  obtain ⟨hx, hb, hml, hown, hts, hK, hN, hE, hAW⟩ := hC
  intro hl hol hos hom H locs arr hP hD hS hz hL
  unfold s_lstore at h
  split at h
  · rename_i x st'
    split at h
    · exact h.elim
    · rename_i hne
      refine lv_lstore_n hx hb hd hk (lvl_has hL hz) hin rfl (fun arr' ha => ?_)
      have k1 := h (by rw [lp_len, lp_len]; exact hl) (okl_lp (okl_lp hol (fun w hw => by cases hw; exact oks_h hos)) (fun w hw => by cases hw)) (oks_t hos) hom H locs arr' hP hD hS ha.1 (LH_st2 (v := Sum.inr (Sum.inl x)) hl hin (fun w hw => by
        rcases w with w | w | w
        · rfl
        · exact absurd hw (hne w)
        · rfl) ha)
      rw [hn] at k1
      exact k1
  · exact h.elim
def s_iinc (i : Nat) (x : Int32) : StpT := fun _ K n ls st m => match lg ls i with
  | some (Sum.inl y) => (match lgp ls i with
    | some (Sum.inr (Sum.inl _)) => False
    | _ => K (n + 1) (lp ls i (some (Sum.inl (y + x)))) st m)
  | _ => False
theorem mo_s_iinc {i : Nat} {x : Int32} : monoS (s_iinc i x) := by
  intro R K K' h n ls st m hs
  unfold s_iinc at hs ⊢
  split at hs
  · split at hs
    · exact hs.elim
    · exact h _ _ _ _ hs
  · exact hs
theorem st_iinc (hC : CX p s m args c cc own nL D dA ad A) {n i : Nat} {z : Int} {x : Int32} (hd : decode cc (pcs n) = .ok (.iinc i z, 3)) (hn : pcs (n + 1) = pcs n + 3) (hv : Int32.ofInt z = x) (hin : i < nL) : SND RR (XK p l e R s m args below meth c cells slots Q nL D dA ad A pcs) n (s_iinc i x) := by
  refine ⟨mo_s_iinc, fun ls st mm h => ?_⟩
  obtain ⟨hx, hb, hml, hown, hts, hK, hN, hE, hAW⟩ := hC
  intro hl hol hos hom H locs arr hP hD hS hz hL
  unfold s_iinc at h
  split at h
  · rename_i y he
    split at h
    · exact h.elim
    · rename_i hne
      obtain ⟨k, hk⟩ := List.getElem?_of_mem (lvl_mem (ad := ad) he)
      refine lv_iinc (v := y + x) hx hb hd (lvl_has hL hz) (k := k) hk (by rw [hv]) hin rfl (fun arr' ha => ?_)
      have k1 := h (by rw [lp_len]; exact hl) (okl_lp hol (fun w hw => by cases hw; exact trivial)) hos hom H locs arr' hP hD hS ha.1 (LH_st1 rfl hl hin (fun w hw => by
        rcases w with w | w | w
        · rfl
        · exact absurd hw (hne w)
        · rfl) ha)
      rw [hn] at k1
      exact k1
  · exact h.elim
def s_ic (x : Int32) : StpT := fun _ K n ls st m => K (n + 1) ls (Sum.inl x :: st) m
theorem mo_s_ic {x : Int32} : monoS (s_ic x) := by
  intro R K K' h n ls st m hs
  unfold s_ic at hs ⊢
  exact h _ _ _ _ hs
theorem st_iconst (hC : CX p s m args c cc own nL D dA ad A) {n : Nat} {z : Int} {x : Int32} (hd : decode cc (pcs n) = .ok (.iconst z, 1)) (hn : pcs (n + 1) = pcs n + 1) (hv : Int32.ofInt z = x) : SND RR (XK p l e R s m args below meth c cells slots Q nL D dA ad A pcs) n (s_ic x) := by
  refine ⟨mo_s_ic, fun ls st mm h => ?_⟩
  obtain ⟨hx, hb, hml, hown, hts, hK, hN, hE, hAW⟩ := hC
  intro hl hol hos hom H locs arr hP hD hS hz hL
  have k1 := h hl hol (oks_c (v := Sum.inl x) trivial hos) hom H locs arr hP hD hS hz hL
  rw [hn] at k1
  exact lv_iconst hx hb hd hv k1
theorem st_bipush (hC : CX p s m args c cc own nL D dA ad A) {n : Nat} {z : Int} {x : Int32} (hd : decode cc (pcs n) = .ok (.bipush z, 2)) (hn : pcs (n + 1) = pcs n + 2) (hv : (Int8.ofInt z).toInt32 = x) : SND RR (XK p l e R s m args below meth c cells slots Q nL D dA ad A pcs) n (s_ic x) := by
  refine ⟨mo_s_ic, fun ls st mm h => ?_⟩
  obtain ⟨hx, hb, hml, hown, hts, hK, hN, hE, hAW⟩ := hC
  intro hl hol hos hom H locs arr hP hD hS hz hL
  have k1 := h hl hol (oks_c (v := Sum.inl x) trivial hos) hom H locs arr hP hD hS hz hL
  rw [hn] at k1
  exact lv_bipush hx hb hd hv k1
theorem st_sipush (hC : CX p s m args c cc own nL D dA ad A) {n : Nat} {z : Int} {x : Int32} (hd : decode cc (pcs n) = .ok (.sipush z, 3)) (hn : pcs (n + 1) = pcs n + 3) (hv : (Int16.ofInt z).toInt32 = x) : SND RR (XK p l e R s m args below meth c cells slots Q nL D dA ad A pcs) n (s_ic x) := by
  refine ⟨mo_s_ic, fun ls st mm h => ?_⟩
  obtain ⟨hx, hb, hml, hown, hts, hK, hN, hE, hAW⟩ := hC
  intro hl hol hos hom H locs arr hP hD hS hz hL
  have k1 := h hl hol (oks_c (v := Sum.inl x) trivial hos) hom H locs arr hP hD hS hz hL
  rw [hn] at k1
  exact lv_sipush hx hb hd hv k1
theorem st_ldc (hC : CX p s m args c cc own nL D dA ad A) {n idx : Nat} {x : Int32} (hd : decode cc (pcs n) = .ok (.ldc idx, 2)) (hn : pcs (n + 1) = pcs n + 2) (hw : Cond.constant own idx x ∈ TBL) : SND RR (XK p l e R s m args below meth c cells slots Q nL D dA ad A pcs) n (s_ic x) := by
  refine ⟨mo_s_ic, fun ls st mm h => ?_⟩
  obtain ⟨hx, hb, hml, hown, hts, hK, hN, hE, hAW⟩ := hC
  intro hl hol hos hom H locs arr hP hD hS hz hL
  have k1 := h hl hol (oks_c (v := Sum.inl x) trivial hos) hom H locs arr hP hD hS hz hL
  rw [hn] at k1
  exact lv_ldc hx hb hown (hts _ hw) hd k1
theorem st_ldcw (hC : CX p s m args c cc own nL D dA ad A) {n idx : Nat} {x : Int32} (hd : decode cc (pcs n) = .ok (.ldc_w idx, 3)) (hn : pcs (n + 1) = pcs n + 3) (hw : Cond.constant own idx x ∈ TBL) : SND RR (XK p l e R s m args below meth c cells slots Q nL D dA ad A pcs) n (s_ic x) := by
  refine ⟨mo_s_ic, fun ls st mm h => ?_⟩
  obtain ⟨hx, hb, hml, hown, hts, hK, hN, hE, hAW⟩ := hC
  intro hl hol hos hom H locs arr hP hD hS hz hL
  have k1 := h hl hol (oks_c (v := Sum.inl x) trivial hos) hom H locs arr hP hD hS hz hL
  rw [hn] at k1
  exact lv_ldcw hx hb hown (hts _ hw) hd k1
def s_lc (x : Int64) : StpT := fun _ K n ls st m => K (n + 1) ls (Sum.inr (Sum.inl x) :: st) m
theorem mo_s_lc {x : Int64} : monoS (s_lc x) := by
  intro R K K' h n ls st m hs
  unfold s_lc at hs ⊢
  exact h _ _ _ _ hs
theorem st_lconst (hC : CX p s m args c cc own nL D dA ad A) {n : Nat} {z : Fin 2} {x : Int64} (hd : decode cc (pcs n) = .ok (.lconst z, 1)) (hn : pcs (n + 1) = pcs n + 1) (hv : Int64.ofNat (z : Nat) = x) : SND RR (XK p l e R s m args below meth c cells slots Q nL D dA ad A pcs) n (s_lc x) := by
  refine ⟨mo_s_lc, fun ls st mm h => ?_⟩
  obtain ⟨hx, hb, hml, hown, hts, hK, hN, hE, hAW⟩ := hC
  intro hl hol hos hom H locs arr hP hD hS hz hL
  have k1 := h hl hol (oks_c (v := Sum.inr (Sum.inl x)) trivial hos) hom H locs arr hP hD hS hz hL
  rw [hn] at k1
  exact lv_lconst hx hb hd hv k1
theorem st_ldc2 (hC : CX p s m args c cc own nL D dA ad A) {n idx : Nat} {x : Int64} (hd : decode cc (pcs n) = .ok (.ldc2_w idx, 3)) (hn : pcs (n + 1) = pcs n + 3) (hw : Cond.constantLong own idx x ∈ TBL) : SND RR (XK p l e R s m args below meth c cells slots Q nL D dA ad A pcs) n (s_lc x) := by
  refine ⟨mo_s_lc, fun ls st mm h => ?_⟩
  obtain ⟨hx, hb, hml, hown, hts, hK, hN, hE, hAW⟩ := hC
  intro hl hol hos hom H locs arr hP hD hS hz hL
  have k1 := h hl hol (oks_c (v := Sum.inr (Sum.inl x)) trivial hos) hom H locs arr hP hD hS hz hL
  rw [hn] at k1
  exact lv_ldc2 hx hb hown (hts _ hw) hd k1
def s_iadd : StpT := fun _ K n ls st m => match st with
  | Sum.inl y :: Sum.inl x :: st' => K (n + 1) ls (Sum.inl (x + y) :: st') m
  | _ => False
theorem mo_s_iadd : monoS (s_iadd ) := by
  intro R K K' h n ls st m hs
  unfold s_iadd at hs ⊢
  split at hs
  · exact h _ _ _ _ hs
  · exact hs
theorem st_iadd (hC : CX p s m args c cc own nL D dA ad A) {n : Nat} (hd : decode cc (pcs n) = .ok (.iadd, 1)) (hn : pcs (n + 1) = pcs n + 1) : SND RR (XK p l e R s m args below meth c cells slots Q nL D dA ad A pcs) n s_iadd := by
  refine ⟨mo_s_iadd, fun ls st mm h => ?_⟩
  obtain ⟨hx, hb, hml, hown, hts, hK, hN, hE, hAW⟩ := hC
  intro hl hol hos hom H locs arr hP hD hS hz hL
  unfold s_iadd at h
  split at h
  · have k1 := h hl hol (oks_c (v := _) trivial (oks_t (oks_t hos))) hom H locs arr hP hD hS hz hL
    rw [hn] at k1
    exact lv_iadd hx hb hd  k1
  · exact h.elim
def s_isub : StpT := fun _ K n ls st m => match st with
  | Sum.inl y :: Sum.inl x :: st' => K (n + 1) ls (Sum.inl (x - y) :: st') m
  | _ => False
theorem mo_s_isub : monoS (s_isub ) := by
  intro R K K' h n ls st m hs
  unfold s_isub at hs ⊢
  split at hs
  · exact h _ _ _ _ hs
  · exact hs
theorem st_isub (hC : CX p s m args c cc own nL D dA ad A) {n : Nat} (hd : decode cc (pcs n) = .ok (.isub, 1)) (hn : pcs (n + 1) = pcs n + 1) : SND RR (XK p l e R s m args below meth c cells slots Q nL D dA ad A pcs) n s_isub := by
  refine ⟨mo_s_isub, fun ls st mm h => ?_⟩
  obtain ⟨hx, hb, hml, hown, hts, hK, hN, hE, hAW⟩ := hC
  intro hl hol hos hom H locs arr hP hD hS hz hL
  unfold s_isub at h
  split at h
  · have k1 := h hl hol (oks_c (v := _) trivial (oks_t (oks_t hos))) hom H locs arr hP hD hS hz hL
    rw [hn] at k1
    exact lv_isub hx hb hd  k1
  · exact h.elim
def s_imul : StpT := fun _ K n ls st m => match st with
  | Sum.inl y :: Sum.inl x :: st' => K (n + 1) ls (Sum.inl (x * y) :: st') m
  | _ => False
theorem mo_s_imul : monoS (s_imul ) := by
  intro R K K' h n ls st m hs
  unfold s_imul at hs ⊢
  split at hs
  · exact h _ _ _ _ hs
  · exact hs
theorem st_imul (hC : CX p s m args c cc own nL D dA ad A) {n : Nat} (hd : decode cc (pcs n) = .ok (.imul, 1)) (hn : pcs (n + 1) = pcs n + 1) : SND RR (XK p l e R s m args below meth c cells slots Q nL D dA ad A pcs) n s_imul := by
  refine ⟨mo_s_imul, fun ls st mm h => ?_⟩
  obtain ⟨hx, hb, hml, hown, hts, hK, hN, hE, hAW⟩ := hC
  intro hl hol hos hom H locs arr hP hD hS hz hL
  unfold s_imul at h
  split at h
  · have k1 := h hl hol (oks_c (v := _) trivial (oks_t (oks_t hos))) hom H locs arr hP hD hS hz hL
    rw [hn] at k1
    exact lv_imul hx hb hd  k1
  · exact h.elim
def s_iand : StpT := fun _ K n ls st m => match st with
  | Sum.inl y :: Sum.inl x :: st' => K (n + 1) ls (Sum.inl (x &&& y) :: st') m
  | _ => False
theorem mo_s_iand : monoS (s_iand ) := by
  intro R K K' h n ls st m hs
  unfold s_iand at hs ⊢
  split at hs
  · exact h _ _ _ _ hs
  · exact hs
theorem st_iand (hC : CX p s m args c cc own nL D dA ad A) {n : Nat} (hd : decode cc (pcs n) = .ok (.iand, 1)) (hn : pcs (n + 1) = pcs n + 1) : SND RR (XK p l e R s m args below meth c cells slots Q nL D dA ad A pcs) n s_iand := by
  refine ⟨mo_s_iand, fun ls st mm h => ?_⟩
  obtain ⟨hx, hb, hml, hown, hts, hK, hN, hE, hAW⟩ := hC
  intro hl hol hos hom H locs arr hP hD hS hz hL
  unfold s_iand at h
  split at h
  · have k1 := h hl hol (oks_c (v := _) trivial (oks_t (oks_t hos))) hom H locs arr hP hD hS hz hL
    rw [hn] at k1
    exact lv_iand hx hb hd  k1
  · exact h.elim
def s_ior : StpT := fun _ K n ls st m => match st with
  | Sum.inl y :: Sum.inl x :: st' => K (n + 1) ls (Sum.inl (x ||| y) :: st') m
  | _ => False
theorem mo_s_ior : monoS (s_ior ) := by
  intro R K K' h n ls st m hs
  unfold s_ior at hs ⊢
  split at hs
  · exact h _ _ _ _ hs
  · exact hs
theorem st_ior (hC : CX p s m args c cc own nL D dA ad A) {n : Nat} (hd : decode cc (pcs n) = .ok (.ior, 1)) (hn : pcs (n + 1) = pcs n + 1) : SND RR (XK p l e R s m args below meth c cells slots Q nL D dA ad A pcs) n s_ior := by
  refine ⟨mo_s_ior, fun ls st mm h => ?_⟩
  obtain ⟨hx, hb, hml, hown, hts, hK, hN, hE, hAW⟩ := hC
  intro hl hol hos hom H locs arr hP hD hS hz hL
  unfold s_ior at h
  split at h
  · have k1 := h hl hol (oks_c (v := _) trivial (oks_t (oks_t hos))) hom H locs arr hP hD hS hz hL
    rw [hn] at k1
    exact lv_ior hx hb hd  k1
  · exact h.elim
def s_ixor : StpT := fun _ K n ls st m => match st with
  | Sum.inl y :: Sum.inl x :: st' => K (n + 1) ls (Sum.inl (x ^^^ y) :: st') m
  | _ => False
theorem mo_s_ixor : monoS (s_ixor ) := by
  intro R K K' h n ls st m hs
  unfold s_ixor at hs ⊢
  split at hs
  · exact h _ _ _ _ hs
  · exact hs
theorem st_ixor (hC : CX p s m args c cc own nL D dA ad A) {n : Nat} (hd : decode cc (pcs n) = .ok (.ixor, 1)) (hn : pcs (n + 1) = pcs n + 1) : SND RR (XK p l e R s m args below meth c cells slots Q nL D dA ad A pcs) n s_ixor := by
  refine ⟨mo_s_ixor, fun ls st mm h => ?_⟩
  obtain ⟨hx, hb, hml, hown, hts, hK, hN, hE, hAW⟩ := hC
  intro hl hol hos hom H locs arr hP hD hS hz hL
  unfold s_ixor at h
  split at h
  · have k1 := h hl hol (oks_c (v := _) trivial (oks_t (oks_t hos))) hom H locs arr hP hD hS hz hL
    rw [hn] at k1
    exact lv_ixor hx hb hd  k1
  · exact h.elim
def s_ishl : StpT := fun _ K n ls st m => match st with
  | Sum.inl y :: Sum.inl x :: st' => K (n + 1) ls (Sum.inl (x <<< (y &&& 31)) :: st') m
  | _ => False
theorem mo_s_ishl : monoS (s_ishl ) := by
  intro R K K' h n ls st m hs
  unfold s_ishl at hs ⊢
  split at hs
  · exact h _ _ _ _ hs
  · exact hs
theorem st_ishl (hC : CX p s m args c cc own nL D dA ad A) {n : Nat} (hd : decode cc (pcs n) = .ok (.ishl, 1)) (hn : pcs (n + 1) = pcs n + 1) : SND RR (XK p l e R s m args below meth c cells slots Q nL D dA ad A pcs) n s_ishl := by
  refine ⟨mo_s_ishl, fun ls st mm h => ?_⟩
  obtain ⟨hx, hb, hml, hown, hts, hK, hN, hE, hAW⟩ := hC
  intro hl hol hos hom H locs arr hP hD hS hz hL
  unfold s_ishl at h
  split at h
  · have k1 := h hl hol (oks_c (v := _) trivial (oks_t (oks_t hos))) hom H locs arr hP hD hS hz hL
    rw [hn] at k1
    exact lv_ishl hx hb hd  k1
  · exact h.elim
def s_ishr : StpT := fun _ K n ls st m => match st with
  | Sum.inl y :: Sum.inl x :: st' => K (n + 1) ls (Sum.inl (x >>> (y &&& 31)) :: st') m
  | _ => False
theorem mo_s_ishr : monoS (s_ishr ) := by
  intro R K K' h n ls st m hs
  unfold s_ishr at hs ⊢
  split at hs
  · exact h _ _ _ _ hs
  · exact hs
theorem st_ishr (hC : CX p s m args c cc own nL D dA ad A) {n : Nat} (hd : decode cc (pcs n) = .ok (.ishr, 1)) (hn : pcs (n + 1) = pcs n + 1) : SND RR (XK p l e R s m args below meth c cells slots Q nL D dA ad A pcs) n s_ishr := by
  refine ⟨mo_s_ishr, fun ls st mm h => ?_⟩
  obtain ⟨hx, hb, hml, hown, hts, hK, hN, hE, hAW⟩ := hC
  intro hl hol hos hom H locs arr hP hD hS hz hL
  unfold s_ishr at h
  split at h
  · have k1 := h hl hol (oks_c (v := _) trivial (oks_t (oks_t hos))) hom H locs arr hP hD hS hz hL
    rw [hn] at k1
    exact lv_ishr hx hb hd  k1
  · exact h.elim
def s_idiv : StpT := fun _ K n ls st m => match st with
  | Sum.inl y :: Sum.inl x :: st' => ¬ y = 0 ∧ K (n + 1) ls (Sum.inl (x / y) :: st') m
  | _ => False
theorem mo_s_idiv : monoS (s_idiv ) := by
  intro R K K' h n ls st m hs
  unfold s_idiv at hs ⊢
  split at hs
  · exact ⟨hs.1, h _ _ _ _ hs.2⟩
  · exact hs
theorem st_idiv (hC : CX p s m args c cc own nL D dA ad A) {n : Nat} (hd : decode cc (pcs n) = .ok (.idiv, 1)) (hn : pcs (n + 1) = pcs n + 1) : SND RR (XK p l e R s m args below meth c cells slots Q nL D dA ad A pcs) n s_idiv := by
  refine ⟨mo_s_idiv, fun ls st mm h => ?_⟩
  obtain ⟨hx, hb, hml, hown, hts, hK, hN, hE, hAW⟩ := hC
  intro hl hol hos hom H locs arr hP hD hS hz hL
  unfold s_idiv at h
  split at h
  · obtain ⟨hpre, h⟩ := h
    have k1 := h hl hol (oks_c (v := _) trivial (oks_t (oks_t hos))) hom H locs arr hP hD hS hz hL
    rw [hn] at k1
    exact lv_idiv hx hb hd hpre k1
  · exact h.elim
def s_irem : StpT := fun _ K n ls st m => match st with
  | Sum.inl y :: Sum.inl x :: st' => ¬ y = 0 ∧ K (n + 1) ls (Sum.inl (x - x / y * y) :: st') m
  | _ => False
theorem mo_s_irem : monoS (s_irem ) := by
  intro R K K' h n ls st m hs
  unfold s_irem at hs ⊢
  split at hs
  · exact ⟨hs.1, h _ _ _ _ hs.2⟩
  · exact hs
theorem st_irem (hC : CX p s m args c cc own nL D dA ad A) {n : Nat} (hd : decode cc (pcs n) = .ok (.irem, 1)) (hn : pcs (n + 1) = pcs n + 1) : SND RR (XK p l e R s m args below meth c cells slots Q nL D dA ad A pcs) n s_irem := by
  refine ⟨mo_s_irem, fun ls st mm h => ?_⟩
  obtain ⟨hx, hb, hml, hown, hts, hK, hN, hE, hAW⟩ := hC
  intro hl hol hos hom H locs arr hP hD hS hz hL
  unfold s_irem at h
  split at h
  · obtain ⟨hpre, h⟩ := h
    have k1 := h hl hol (oks_c (v := _) trivial (oks_t (oks_t hos))) hom H locs arr hP hD hS hz hL
    rw [hn] at k1
    exact lv_irem hx hb hd hpre k1
  · exact h.elim
def s_ladd : StpT := fun _ K n ls st m => match st with
  | Sum.inr (Sum.inl y) :: Sum.inr (Sum.inl x) :: st' => K (n + 1) ls (Sum.inr (Sum.inl (x + y)) :: st') m
  | _ => False
theorem mo_s_ladd : monoS (s_ladd ) := by
  intro R K K' h n ls st m hs
  unfold s_ladd at hs ⊢
  split at hs
  · exact h _ _ _ _ hs
  · exact hs
theorem st_ladd (hC : CX p s m args c cc own nL D dA ad A) {n : Nat} (hd : decode cc (pcs n) = .ok (.ladd, 1)) (hn : pcs (n + 1) = pcs n + 1) : SND RR (XK p l e R s m args below meth c cells slots Q nL D dA ad A pcs) n s_ladd := by
  refine ⟨mo_s_ladd, fun ls st mm h => ?_⟩
  obtain ⟨hx, hb, hml, hown, hts, hK, hN, hE, hAW⟩ := hC
  intro hl hol hos hom H locs arr hP hD hS hz hL
  unfold s_ladd at h
  split at h
  · have k1 := h hl hol (oks_c (v := _) trivial (oks_t (oks_t hos))) hom H locs arr hP hD hS hz hL
    rw [hn] at k1
    exact lv_ladd hx hb hd  k1
  · exact h.elim
def s_lsub : StpT := fun _ K n ls st m => match st with
  | Sum.inr (Sum.inl y) :: Sum.inr (Sum.inl x) :: st' => K (n + 1) ls (Sum.inr (Sum.inl (x - y)) :: st') m
  | _ => False
theorem mo_s_lsub : monoS (s_lsub ) := by
  intro R K K' h n ls st m hs
  unfold s_lsub at hs ⊢
  split at hs
  · exact h _ _ _ _ hs
  · exact hs
theorem st_lsub (hC : CX p s m args c cc own nL D dA ad A) {n : Nat} (hd : decode cc (pcs n) = .ok (.lsub, 1)) (hn : pcs (n + 1) = pcs n + 1) : SND RR (XK p l e R s m args below meth c cells slots Q nL D dA ad A pcs) n s_lsub := by
  refine ⟨mo_s_lsub, fun ls st mm h => ?_⟩
  obtain ⟨hx, hb, hml, hown, hts, hK, hN, hE, hAW⟩ := hC
  intro hl hol hos hom H locs arr hP hD hS hz hL
  unfold s_lsub at h
  split at h
  · have k1 := h hl hol (oks_c (v := _) trivial (oks_t (oks_t hos))) hom H locs arr hP hD hS hz hL
    rw [hn] at k1
    exact lv_lsub hx hb hd  k1
  · exact h.elim
def s_lmul : StpT := fun _ K n ls st m => match st with
  | Sum.inr (Sum.inl y) :: Sum.inr (Sum.inl x) :: st' => K (n + 1) ls (Sum.inr (Sum.inl (x * y)) :: st') m
  | _ => False
theorem mo_s_lmul : monoS (s_lmul ) := by
  intro R K K' h n ls st m hs
  unfold s_lmul at hs ⊢
  split at hs
  · exact h _ _ _ _ hs
  · exact hs
theorem st_lmul (hC : CX p s m args c cc own nL D dA ad A) {n : Nat} (hd : decode cc (pcs n) = .ok (.lmul, 1)) (hn : pcs (n + 1) = pcs n + 1) : SND RR (XK p l e R s m args below meth c cells slots Q nL D dA ad A pcs) n s_lmul := by
  refine ⟨mo_s_lmul, fun ls st mm h => ?_⟩
  obtain ⟨hx, hb, hml, hown, hts, hK, hN, hE, hAW⟩ := hC
  intro hl hol hos hom H locs arr hP hD hS hz hL
  unfold s_lmul at h
  split at h
  · have k1 := h hl hol (oks_c (v := _) trivial (oks_t (oks_t hos))) hom H locs arr hP hD hS hz hL
    rw [hn] at k1
    exact lv_lmul hx hb hd  k1
  · exact h.elim
def s_land : StpT := fun _ K n ls st m => match st with
  | Sum.inr (Sum.inl y) :: Sum.inr (Sum.inl x) :: st' => K (n + 1) ls (Sum.inr (Sum.inl (x &&& y)) :: st') m
  | _ => False
theorem mo_s_land : monoS (s_land ) := by
  intro R K K' h n ls st m hs
  unfold s_land at hs ⊢
  split at hs
  · exact h _ _ _ _ hs
  · exact hs
theorem st_land (hC : CX p s m args c cc own nL D dA ad A) {n : Nat} (hd : decode cc (pcs n) = .ok (.land, 1)) (hn : pcs (n + 1) = pcs n + 1) : SND RR (XK p l e R s m args below meth c cells slots Q nL D dA ad A pcs) n s_land := by
  refine ⟨mo_s_land, fun ls st mm h => ?_⟩
  obtain ⟨hx, hb, hml, hown, hts, hK, hN, hE, hAW⟩ := hC
  intro hl hol hos hom H locs arr hP hD hS hz hL
  unfold s_land at h
  split at h
  · have k1 := h hl hol (oks_c (v := _) trivial (oks_t (oks_t hos))) hom H locs arr hP hD hS hz hL
    rw [hn] at k1
    exact lv_land hx hb hd  k1
  · exact h.elim
def s_lor : StpT := fun _ K n ls st m => match st with
  | Sum.inr (Sum.inl y) :: Sum.inr (Sum.inl x) :: st' => K (n + 1) ls (Sum.inr (Sum.inl (x ||| y)) :: st') m
  | _ => False
theorem mo_s_lor : monoS (s_lor ) := by
  intro R K K' h n ls st m hs
  unfold s_lor at hs ⊢
  split at hs
  · exact h _ _ _ _ hs
  · exact hs
theorem st_lor (hC : CX p s m args c cc own nL D dA ad A) {n : Nat} (hd : decode cc (pcs n) = .ok (.lor, 1)) (hn : pcs (n + 1) = pcs n + 1) : SND RR (XK p l e R s m args below meth c cells slots Q nL D dA ad A pcs) n s_lor := by
  refine ⟨mo_s_lor, fun ls st mm h => ?_⟩
  obtain ⟨hx, hb, hml, hown, hts, hK, hN, hE, hAW⟩ := hC
  intro hl hol hos hom H locs arr hP hD hS hz hL
  unfold s_lor at h
  split at h
  · have k1 := h hl hol (oks_c (v := _) trivial (oks_t (oks_t hos))) hom H locs arr hP hD hS hz hL
    rw [hn] at k1
    exact lv_lor hx hb hd  k1
  · exact h.elim
def s_ldiv : StpT := fun _ K n ls st m => match st with
  | Sum.inr (Sum.inl y) :: Sum.inr (Sum.inl x) :: st' => ¬ y = 0 ∧ K (n + 1) ls (Sum.inr (Sum.inl (x / y)) :: st') m
  | _ => False
theorem mo_s_ldiv : monoS (s_ldiv ) := by
  intro R K K' h n ls st m hs
  unfold s_ldiv at hs ⊢
  split at hs
  · exact ⟨hs.1, h _ _ _ _ hs.2⟩
  · exact hs
theorem st_ldiv (hC : CX p s m args c cc own nL D dA ad A) {n : Nat} (hd : decode cc (pcs n) = .ok (.ldiv, 1)) (hn : pcs (n + 1) = pcs n + 1) : SND RR (XK p l e R s m args below meth c cells slots Q nL D dA ad A pcs) n s_ldiv := by
  refine ⟨mo_s_ldiv, fun ls st mm h => ?_⟩
  obtain ⟨hx, hb, hml, hown, hts, hK, hN, hE, hAW⟩ := hC
  intro hl hol hos hom H locs arr hP hD hS hz hL
  unfold s_ldiv at h
  split at h
  · obtain ⟨hpre, h⟩ := h
    have k1 := h hl hol (oks_c (v := _) trivial (oks_t (oks_t hos))) hom H locs arr hP hD hS hz hL
    rw [hn] at k1
    exact lv_ldiv hx hb hd hpre k1
  · exact h.elim
def s_lrem : StpT := fun _ K n ls st m => match st with
  | Sum.inr (Sum.inl y) :: Sum.inr (Sum.inl x) :: st' => ¬ y = 0 ∧ K (n + 1) ls (Sum.inr (Sum.inl (x - x / y * y)) :: st') m
  | _ => False
theorem mo_s_lrem : monoS (s_lrem ) := by
  intro R K K' h n ls st m hs
  unfold s_lrem at hs ⊢
  split at hs
  · exact ⟨hs.1, h _ _ _ _ hs.2⟩
  · exact hs
theorem st_lrem (hC : CX p s m args c cc own nL D dA ad A) {n : Nat} (hd : decode cc (pcs n) = .ok (.lrem, 1)) (hn : pcs (n + 1) = pcs n + 1) : SND RR (XK p l e R s m args below meth c cells slots Q nL D dA ad A pcs) n s_lrem := by
  refine ⟨mo_s_lrem, fun ls st mm h => ?_⟩
  obtain ⟨hx, hb, hml, hown, hts, hK, hN, hE, hAW⟩ := hC
  intro hl hol hos hom H locs arr hP hD hS hz hL
  unfold s_lrem at h
  split at h
  · obtain ⟨hpre, h⟩ := h
    have k1 := h hl hol (oks_c (v := _) trivial (oks_t (oks_t hos))) hom H locs arr hP hD hS hz hL
    rw [hn] at k1
    exact lv_lrem hx hb hd hpre k1
  · exact h.elim
def s_lcmp : StpT := fun _ K n ls st m => match st with
  | Sum.inr (Sum.inl y) :: Sum.inr (Sum.inl x) :: st' => K (n + 1) ls (Sum.inl (lg_cmp x y) :: st') m
  | _ => False
theorem mo_s_lcmp : monoS (s_lcmp ) := by
  intro R K K' h n ls st m hs
  unfold s_lcmp at hs ⊢
  split at hs
  · exact h _ _ _ _ hs
  · exact hs
theorem st_lcmp (hC : CX p s m args c cc own nL D dA ad A) {n : Nat} (hd : decode cc (pcs n) = .ok (.lcmp, 1)) (hn : pcs (n + 1) = pcs n + 1) : SND RR (XK p l e R s m args below meth c cells slots Q nL D dA ad A pcs) n s_lcmp := by
  refine ⟨mo_s_lcmp, fun ls st mm h => ?_⟩
  obtain ⟨hx, hb, hml, hown, hts, hK, hN, hE, hAW⟩ := hC
  intro hl hol hos hom H locs arr hP hD hS hz hL
  unfold s_lcmp at h
  split at h
  · have k1 := h hl hol (oks_c (v := _) trivial (oks_t (oks_t hos))) hom H locs arr hP hD hS hz hL
    rw [hn] at k1
    exact W.lcmp hx hb hd  k1
  · exact h.elim
def s_i2l : StpT := fun _ K n ls st m => match st with
  | Sum.inl x :: st' => K (n + 1) ls (Sum.inr (Sum.inl x.toInt64) :: st') m
  | _ => False
theorem mo_s_i2l : monoS (s_i2l ) := by
  intro R K K' h n ls st m hs
  unfold s_i2l at hs ⊢
  split at hs
  · exact h _ _ _ _ hs
  · exact hs
theorem st_i2l (hC : CX p s m args c cc own nL D dA ad A) {n : Nat} (hd : decode cc (pcs n) = .ok (.i2l, 1)) (hn : pcs (n + 1) = pcs n + 1) : SND RR (XK p l e R s m args below meth c cells slots Q nL D dA ad A pcs) n s_i2l := by
  refine ⟨mo_s_i2l, fun ls st mm h => ?_⟩
  obtain ⟨hx, hb, hml, hown, hts, hK, hN, hE, hAW⟩ := hC
  intro hl hol hos hom H locs arr hP hD hS hz hL
  unfold s_i2l at h
  split at h
  · have k1 := h hl hol (oks_c (v := _) trivial (oks_t hos)) hom H locs arr hP hD hS hz hL
    rw [hn] at k1
    exact lv_i2l hx hb hd rfl k1
  · exact h.elim
def s_l2i : StpT := fun _ K n ls st m => match st with
  | Sum.inr (Sum.inl x) :: st' => K (n + 1) ls (Sum.inl x.toInt32 :: st') m
  | _ => False
theorem mo_s_l2i : monoS (s_l2i ) := by
  intro R K K' h n ls st m hs
  unfold s_l2i at hs ⊢
  split at hs
  · exact h _ _ _ _ hs
  · exact hs
theorem st_l2i (hC : CX p s m args c cc own nL D dA ad A) {n : Nat} (hd : decode cc (pcs n) = .ok (.l2i, 1)) (hn : pcs (n + 1) = pcs n + 1) : SND RR (XK p l e R s m args below meth c cells slots Q nL D dA ad A pcs) n s_l2i := by
  refine ⟨mo_s_l2i, fun ls st mm h => ?_⟩
  obtain ⟨hx, hb, hml, hown, hts, hK, hN, hE, hAW⟩ := hC
  intro hl hol hos hom H locs arr hP hD hS hz hL
  unfold s_l2i at h
  split at h
  · have k1 := h hl hol (oks_c (v := _) trivial (oks_t hos)) hom H locs arr hP hD hS hz hL
    rw [hn] at k1
    exact lv_l2i hx hb hd rfl k1
  · exact h.elim
def s_i2b : StpT := fun _ K n ls st m => match st with
  | Sum.inl x :: st' => K (n + 1) ls (Sum.inl x.toInt8.toInt32 :: st') m
  | _ => False
theorem mo_s_i2b : monoS (s_i2b ) := by
  intro R K K' h n ls st m hs
  unfold s_i2b at hs ⊢
  split at hs
  · exact h _ _ _ _ hs
  · exact hs
theorem st_i2b (hC : CX p s m args c cc own nL D dA ad A) {n : Nat} (hd : decode cc (pcs n) = .ok (.i2b, 1)) (hn : pcs (n + 1) = pcs n + 1) : SND RR (XK p l e R s m args below meth c cells slots Q nL D dA ad A pcs) n s_i2b := by
  refine ⟨mo_s_i2b, fun ls st mm h => ?_⟩
  obtain ⟨hx, hb, hml, hown, hts, hK, hN, hE, hAW⟩ := hC
  intro hl hol hos hom H locs arr hP hD hS hz hL
  unfold s_i2b at h
  split at h
  · have k1 := h hl hol (oks_c (v := _) trivial (oks_t hos)) hom H locs arr hP hD hS hz hL
    rw [hn] at k1
    exact lv_i2b hx hb hd rfl k1
  · exact h.elim
def s_i2s : StpT := fun _ K n ls st m => match st with
  | Sum.inl x :: st' => K (n + 1) ls (Sum.inl x.toInt16.toInt32 :: st') m
  | _ => False
theorem mo_s_i2s : monoS (s_i2s ) := by
  intro R K K' h n ls st m hs
  unfold s_i2s at hs ⊢
  split at hs
  · exact h _ _ _ _ hs
  · exact hs
theorem st_i2s (hC : CX p s m args c cc own nL D dA ad A) {n : Nat} (hd : decode cc (pcs n) = .ok (.i2s, 1)) (hn : pcs (n + 1) = pcs n + 1) : SND RR (XK p l e R s m args below meth c cells slots Q nL D dA ad A pcs) n s_i2s := by
  refine ⟨mo_s_i2s, fun ls st mm h => ?_⟩
  obtain ⟨hx, hb, hml, hown, hts, hK, hN, hE, hAW⟩ := hC
  intro hl hol hos hom H locs arr hP hD hS hz hL
  unfold s_i2s at h
  split at h
  · have k1 := h hl hol (oks_c (v := _) trivial (oks_t hos)) hom H locs arr hP hD hS hz hL
    rw [hn] at k1
    exact lv_i2s hx hb hd rfl k1
  · exact h.elim
def s_lshl : StpT := fun _ K n ls st m => match st with
  | Sum.inl y :: Sum.inr (Sum.inl x) :: st' => K (n + 1) ls (Sum.inr (Sum.inl (x <<< (y.toInt64 &&& 63))) :: st') m
  | _ => False
theorem mo_s_lshl : monoS (s_lshl ) := by
  intro R K K' h n ls st m hs
  unfold s_lshl at hs ⊢
  split at hs
  · exact h _ _ _ _ hs
  · exact hs
theorem st_lshl (hC : CX p s m args c cc own nL D dA ad A) {n : Nat} (hd : decode cc (pcs n) = .ok (.lshl, 1)) (hn : pcs (n + 1) = pcs n + 1) : SND RR (XK p l e R s m args below meth c cells slots Q nL D dA ad A pcs) n s_lshl := by
  refine ⟨mo_s_lshl, fun ls st mm h => ?_⟩
  obtain ⟨hx, hb, hml, hown, hts, hK, hN, hE, hAW⟩ := hC
  intro hl hol hos hom H locs arr hP hD hS hz hL
  unfold s_lshl at h
  split at h
  · have k1 := h hl hol (oks_c (v := _) trivial (oks_t (oks_t hos))) hom H locs arr hP hD hS hz hL
    rw [hn] at k1
    exact lv_lshl hx hb hd rfl k1
  · exact h.elim
def s_iushr : StpT := fun _ K n ls st m => match st with
  | Sum.inl y :: Sum.inl x :: st' => K (n + 1) ls (Sum.inl ((x.toUInt32 >>> (y.toUInt32 &&& Int32.toUInt32 31)).toInt32) :: st') m
  | _ => False
theorem mo_s_iushr : monoS (s_iushr ) := by
  intro R K K' h n ls st m hs
  unfold s_iushr at hs ⊢
  split at hs
  · exact h _ _ _ _ hs
  · exact hs
theorem st_iushr (hC : CX p s m args c cc own nL D dA ad A) {n : Nat} (hd : decode cc (pcs n) = .ok (.iushr, 1)) (hn : pcs (n + 1) = pcs n + 1) : SND RR (XK p l e R s m args below meth c cells slots Q nL D dA ad A pcs) n s_iushr := by
  refine ⟨mo_s_iushr, fun ls st mm h => ?_⟩
  obtain ⟨hx, hb, hml, hown, hts, hK, hN, hE, hAW⟩ := hC
  intro hl hol hos hom H locs arr hP hD hS hz hL
  unfold s_iushr at h
  split at h
  · have k1 := h hl hol (oks_c (v := _) trivial (oks_t (oks_t hos))) hom H locs arr hP hD hS hz hL
    rw [hn] at k1
    exact lv_iushr hx hb hd rfl k1
  · exact h.elim
def s_dup : StpT := fun _ K n ls st m => match st with
  | v :: st' => cond (Nat.beq (cat v) 1) (K (n + 1) ls (v :: v :: st') m) False
  | _ => False
theorem mo_s_dup : monoS (s_dup ) := by
  intro R K K' h n ls st m hs
  unfold s_dup at hs ⊢
  split at hs
  · cases q : Nat.beq (cat _) 1 <;> rw [q] at hs
    · exact hs
    · exact h _ _ _ _ hs
  · exact hs
def s_pop : StpT := fun _ K n ls st m => match st with
  | v :: st' => cond (Nat.beq (cat v) 1) (K (n + 1) ls st' m) False
  | _ => False
theorem mo_s_pop : monoS (s_pop ) := by
  intro R K K' h n ls st m hs
  unfold s_pop at hs ⊢
  split at hs
  · cases q : Nat.beq (cat _) 1 <;> rw [q] at hs
    · exact hs
    · exact h _ _ _ _ hs
  · exact hs
def s_dup2 : StpT := fun _ K n ls st m => match st with
  | v :: w :: st' => cond (Nat.beq (cat v + cat w) 2) (K (n + 1) ls (v :: w :: v :: w :: st') m) False
  | _ => False
theorem mo_s_dup2 : monoS (s_dup2 ) := by
  intro R K K' h n ls st m hs
  unfold s_dup2 at hs ⊢
  split at hs
  · cases q : Nat.beq (cat _ + cat _) 2 <;> rw [q] at hs
    · exact hs
    · exact h _ _ _ _ hs
  · exact hs
theorem cat_in (v : MV) : cat v = 1 ∨ cat v = 2 := by rcases v with v | v | v <;> simp [cat]
theorem st_dup (hC : CX p s m args c cc own nL D dA ad A) {n : Nat} (hd : decode cc (pcs n) = .ok (.dup, 1)) (hn : pcs (n + 1) = pcs n + 1) : SND RR (XK p l e R s m args below meth c cells slots Q nL D dA ad A pcs) n s_dup := by
  refine ⟨mo_s_dup, fun ls st mm h => ?_⟩
  obtain ⟨hx, hb, hml, hown, hts, hK, hN, hE, hAW⟩ := hC
  intro hl hol hos hom H locs arr hP hD hS hz hL
  unfold s_dup at h
  split at h
  · rename_i v st'
    cases q : Nat.beq (cat v) 1 <;> rw [q] at h
    · exact h.elim
    · have k1 := h hl hol (oks_c (oks_h hos) hos) hom H locs arr hP hD hS hz hL
      rw [hn] at k1
      exact lv_dup hx hb hd (by rw [cv_cat]; exact Nat.eq_of_beq_eq_true q) k1
  · exact h.elim
theorem st_pop (hC : CX p s m args c cc own nL D dA ad A) {n : Nat} (hd : decode cc (pcs n) = .ok (.pop, 1)) (hn : pcs (n + 1) = pcs n + 1) : SND RR (XK p l e R s m args below meth c cells slots Q nL D dA ad A pcs) n s_pop := by
  refine ⟨mo_s_pop, fun ls st mm h => ?_⟩
  obtain ⟨hx, hb, hml, hown, hts, hK, hN, hE, hAW⟩ := hC
  intro hl hol hos hom H locs arr hP hD hS hz hL
  unfold s_pop at h
  split at h
  · rename_i v st'
    cases q : Nat.beq (cat v) 1 <;> rw [q] at h
    · exact h.elim
    · have k1 := h hl hol (oks_t hos) hom H locs arr hP hD hS hz hL
      rw [hn] at k1
      exact lv_pop hx hb hd (by rw [cv_cat]; exact Nat.eq_of_beq_eq_true q) k1
  · exact h.elim
theorem st_dup2 (hC : CX p s m args c cc own nL D dA ad A) {n : Nat} (hd : decode cc (pcs n) = .ok (.dup2, 1)) (hn : pcs (n + 1) = pcs n + 1) : SND RR (XK p l e R s m args below meth c cells slots Q nL D dA ad A pcs) n s_dup2 := by
  refine ⟨mo_s_dup2, fun ls st mm h => ?_⟩
  obtain ⟨hx, hb, hml, hown, hts, hK, hN, hE, hAW⟩ := hC
  intro hl hol hos hom H locs arr hP hD hS hz hL
  unfold s_dup2 at h
  split at h
  · rename_i v w st'
    cases q : Nat.beq (cat v + cat w) 2 <;> rw [q] at h
    · exact h.elim
    · have q2 := Nat.eq_of_beq_eq_true q
      have c1 := cat_in v
      have c2 := cat_in w
      have k1 := h hl hol (oks_c (oks_h hos) (oks_c (oks_h (oks_t hos)) hos)) hom H locs arr hP hD hS hz hL
      rw [hn] at k1
      exact lv_dup2_11 hx hb hd (by rw [cv_cat]; omega) (by rw [cv_cat]; omega) k1
  · exact h.elim
def s_ifeq (t : Nat) : StpT := fun _ K n ls st m => match st with
  | Sum.inl x :: st' => (x = 0 → K t ls st' m) ∧ (¬ x = 0 → K (n + 1) ls st' m)
  | _ => False
theorem mo_s_ifeq {t : Nat} : monoS (s_ifeq t) := by
  intro R K K' h n ls st m hs
  unfold s_ifeq at hs ⊢
  split at hs
  · exact ⟨fun z => h _ _ _ _ (hs.1 z), fun z => h _ _ _ _ (hs.2 z)⟩
  · exact hs
theorem st_ifeq (hC : CX p s m args c cc own nL D dA ad A) {n t : Nat} {off : Int} (hd : decode cc (pcs n) = .ok (.ifCond .eq off, 3)) (hn : pcs (n + 1) = pcs n + 3) (ht : (pcs n : Int) + off = (pcs t : Int)) : SND RR (XK p l e R s m args below meth c cells slots Q nL D dA ad A pcs) n (s_ifeq t) := by
  refine ⟨mo_s_ifeq, fun ls st mm h => ?_⟩
  obtain ⟨hx, hb, hml, hown, hts, hK, hN, hE, hAW⟩ := hC
  intro hl hol hos hom H locs arr hP hD hS hz hL
  unfold s_ifeq at h
  split at h
  · refine lv_if_eq hx hb hd ht (fun z => h.1 z hl hol (oks_t hos) hom H locs arr hP hD hS hz hL) (fun z => ?_)
    have k1 := h.2 z hl hol (oks_t hos) hom H locs arr hP hD hS hz hL
    rw [hn] at k1
    exact k1
  · exact h.elim
def s_iceq (t : Nat) : StpT := fun _ K n ls st m => match st with
  | Sum.inl y :: Sum.inl x :: st' => (x = y → K t ls st' m) ∧ (¬ x = y → K (n + 1) ls st' m)
  | _ => False
theorem mo_s_iceq {t : Nat} : monoS (s_iceq t) := by
  intro R K K' h n ls st m hs
  unfold s_iceq at hs ⊢
  split at hs
  · exact ⟨fun z => h _ _ _ _ (hs.1 z), fun z => h _ _ _ _ (hs.2 z)⟩
  · exact hs
theorem st_iceq (hC : CX p s m args c cc own nL D dA ad A) {n t : Nat} {off : Int} (hd : decode cc (pcs n) = .ok (.if_icmp .eq off, 3)) (hn : pcs (n + 1) = pcs n + 3) (ht : (pcs n : Int) + off = (pcs t : Int)) : SND RR (XK p l e R s m args below meth c cells slots Q nL D dA ad A pcs) n (s_iceq t) := by
  refine ⟨mo_s_iceq, fun ls st mm h => ?_⟩
  obtain ⟨hx, hb, hml, hown, hts, hK, hN, hE, hAW⟩ := hC
  intro hl hol hos hom H locs arr hP hD hS hz hL
  unfold s_iceq at h
  split at h
  · refine lv_icmp_eq hx hb hd ht (fun z => h.1 z hl hol (oks_t (oks_t hos)) hom H locs arr hP hD hS hz hL) (fun z => ?_)
    have k1 := h.2 z hl hol (oks_t (oks_t hos)) hom H locs arr hP hD hS hz hL
    rw [hn] at k1
    exact k1
  · exact h.elim
def s_ifne (t : Nat) : StpT := fun _ K n ls st m => match st with
  | Sum.inl x :: st' => (¬ x = 0 → K t ls st' m) ∧ (x = 0 → K (n + 1) ls st' m)
  | _ => False
theorem mo_s_ifne {t : Nat} : monoS (s_ifne t) := by
  intro R K K' h n ls st m hs
  unfold s_ifne at hs ⊢
  split at hs
  · exact ⟨fun z => h _ _ _ _ (hs.1 z), fun z => h _ _ _ _ (hs.2 z)⟩
  · exact hs
theorem st_ifne (hC : CX p s m args c cc own nL D dA ad A) {n t : Nat} {off : Int} (hd : decode cc (pcs n) = .ok (.ifCond .ne off, 3)) (hn : pcs (n + 1) = pcs n + 3) (ht : (pcs n : Int) + off = (pcs t : Int)) : SND RR (XK p l e R s m args below meth c cells slots Q nL D dA ad A pcs) n (s_ifne t) := by
  refine ⟨mo_s_ifne, fun ls st mm h => ?_⟩
  obtain ⟨hx, hb, hml, hown, hts, hK, hN, hE, hAW⟩ := hC
  intro hl hol hos hom H locs arr hP hD hS hz hL
  unfold s_ifne at h
  split at h
  · refine lv_if_ne hx hb hd ht (fun z => h.1 z hl hol (oks_t hos) hom H locs arr hP hD hS hz hL) (fun z => ?_)
    have k1 := h.2 z hl hol (oks_t hos) hom H locs arr hP hD hS hz hL
    rw [hn] at k1
    exact k1
  · exact h.elim
def s_icne (t : Nat) : StpT := fun _ K n ls st m => match st with
  | Sum.inl y :: Sum.inl x :: st' => (¬ x = y → K t ls st' m) ∧ (x = y → K (n + 1) ls st' m)
  | _ => False
theorem mo_s_icne {t : Nat} : monoS (s_icne t) := by
  intro R K K' h n ls st m hs
  unfold s_icne at hs ⊢
  split at hs
  · exact ⟨fun z => h _ _ _ _ (hs.1 z), fun z => h _ _ _ _ (hs.2 z)⟩
  · exact hs
theorem st_icne (hC : CX p s m args c cc own nL D dA ad A) {n t : Nat} {off : Int} (hd : decode cc (pcs n) = .ok (.if_icmp .ne off, 3)) (hn : pcs (n + 1) = pcs n + 3) (ht : (pcs n : Int) + off = (pcs t : Int)) : SND RR (XK p l e R s m args below meth c cells slots Q nL D dA ad A pcs) n (s_icne t) := by
  refine ⟨mo_s_icne, fun ls st mm h => ?_⟩
  obtain ⟨hx, hb, hml, hown, hts, hK, hN, hE, hAW⟩ := hC
  intro hl hol hos hom H locs arr hP hD hS hz hL
  unfold s_icne at h
  split at h
  · refine lv_icmp_ne hx hb hd ht (fun z => h.1 z hl hol (oks_t (oks_t hos)) hom H locs arr hP hD hS hz hL) (fun z => ?_)
    have k1 := h.2 z hl hol (oks_t (oks_t hos)) hom H locs arr hP hD hS hz hL
    rw [hn] at k1
    exact k1
  · exact h.elim
def s_iflt (t : Nat) : StpT := fun _ K n ls st m => match st with
  | Sum.inl x :: st' => (x < 0 → K t ls st' m) ∧ (¬ x < 0 → K (n + 1) ls st' m)
  | _ => False
theorem mo_s_iflt {t : Nat} : monoS (s_iflt t) := by
  intro R K K' h n ls st m hs
  unfold s_iflt at hs ⊢
  split at hs
  · exact ⟨fun z => h _ _ _ _ (hs.1 z), fun z => h _ _ _ _ (hs.2 z)⟩
  · exact hs
theorem st_iflt (hC : CX p s m args c cc own nL D dA ad A) {n t : Nat} {off : Int} (hd : decode cc (pcs n) = .ok (.ifCond .lt off, 3)) (hn : pcs (n + 1) = pcs n + 3) (ht : (pcs n : Int) + off = (pcs t : Int)) : SND RR (XK p l e R s m args below meth c cells slots Q nL D dA ad A pcs) n (s_iflt t) := by
  refine ⟨mo_s_iflt, fun ls st mm h => ?_⟩
  obtain ⟨hx, hb, hml, hown, hts, hK, hN, hE, hAW⟩ := hC
  intro hl hol hos hom H locs arr hP hD hS hz hL
  unfold s_iflt at h
  split at h
  · refine lv_if_lt hx hb hd ht (fun z => h.1 z hl hol (oks_t hos) hom H locs arr hP hD hS hz hL) (fun z => ?_)
    have k1 := h.2 z hl hol (oks_t hos) hom H locs arr hP hD hS hz hL
    rw [hn] at k1
    exact k1
  · exact h.elim
def s_iclt (t : Nat) : StpT := fun _ K n ls st m => match st with
  | Sum.inl y :: Sum.inl x :: st' => (x < y → K t ls st' m) ∧ (¬ x < y → K (n + 1) ls st' m)
  | _ => False
theorem mo_s_iclt {t : Nat} : monoS (s_iclt t) := by
  intro R K K' h n ls st m hs
  unfold s_iclt at hs ⊢
  split at hs
  · exact ⟨fun z => h _ _ _ _ (hs.1 z), fun z => h _ _ _ _ (hs.2 z)⟩
  · exact hs
theorem st_iclt (hC : CX p s m args c cc own nL D dA ad A) {n t : Nat} {off : Int} (hd : decode cc (pcs n) = .ok (.if_icmp .lt off, 3)) (hn : pcs (n + 1) = pcs n + 3) (ht : (pcs n : Int) + off = (pcs t : Int)) : SND RR (XK p l e R s m args below meth c cells slots Q nL D dA ad A pcs) n (s_iclt t) := by
  refine ⟨mo_s_iclt, fun ls st mm h => ?_⟩
  obtain ⟨hx, hb, hml, hown, hts, hK, hN, hE, hAW⟩ := hC
  intro hl hol hos hom H locs arr hP hD hS hz hL
  unfold s_iclt at h
  split at h
  · refine lv_icmp_lt hx hb hd ht (fun z => h.1 z hl hol (oks_t (oks_t hos)) hom H locs arr hP hD hS hz hL) (fun z => ?_)
    have k1 := h.2 z hl hol (oks_t (oks_t hos)) hom H locs arr hP hD hS hz hL
    rw [hn] at k1
    exact k1
  · exact h.elim
def s_ifge (t : Nat) : StpT := fun _ K n ls st m => match st with
  | Sum.inl x :: st' => (0 ≤ x → K t ls st' m) ∧ (¬ 0 ≤ x → K (n + 1) ls st' m)
  | _ => False
theorem mo_s_ifge {t : Nat} : monoS (s_ifge t) := by
  intro R K K' h n ls st m hs
  unfold s_ifge at hs ⊢
  split at hs
  · exact ⟨fun z => h _ _ _ _ (hs.1 z), fun z => h _ _ _ _ (hs.2 z)⟩
  · exact hs
theorem st_ifge (hC : CX p s m args c cc own nL D dA ad A) {n t : Nat} {off : Int} (hd : decode cc (pcs n) = .ok (.ifCond .ge off, 3)) (hn : pcs (n + 1) = pcs n + 3) (ht : (pcs n : Int) + off = (pcs t : Int)) : SND RR (XK p l e R s m args below meth c cells slots Q nL D dA ad A pcs) n (s_ifge t) := by
  refine ⟨mo_s_ifge, fun ls st mm h => ?_⟩
  obtain ⟨hx, hb, hml, hown, hts, hK, hN, hE, hAW⟩ := hC
  intro hl hol hos hom H locs arr hP hD hS hz hL
  unfold s_ifge at h
  split at h
  · refine lv_if_ge hx hb hd ht (fun z => h.1 z hl hol (oks_t hos) hom H locs arr hP hD hS hz hL) (fun z => ?_)
    have k1 := h.2 z hl hol (oks_t hos) hom H locs arr hP hD hS hz hL
    rw [hn] at k1
    exact k1
  · exact h.elim
def s_icge (t : Nat) : StpT := fun _ K n ls st m => match st with
  | Sum.inl y :: Sum.inl x :: st' => (y ≤ x → K t ls st' m) ∧ (¬ y ≤ x → K (n + 1) ls st' m)
  | _ => False
theorem mo_s_icge {t : Nat} : monoS (s_icge t) := by
  intro R K K' h n ls st m hs
  unfold s_icge at hs ⊢
  split at hs
  · exact ⟨fun z => h _ _ _ _ (hs.1 z), fun z => h _ _ _ _ (hs.2 z)⟩
  · exact hs
theorem st_icge (hC : CX p s m args c cc own nL D dA ad A) {n t : Nat} {off : Int} (hd : decode cc (pcs n) = .ok (.if_icmp .ge off, 3)) (hn : pcs (n + 1) = pcs n + 3) (ht : (pcs n : Int) + off = (pcs t : Int)) : SND RR (XK p l e R s m args below meth c cells slots Q nL D dA ad A pcs) n (s_icge t) := by
  refine ⟨mo_s_icge, fun ls st mm h => ?_⟩
  obtain ⟨hx, hb, hml, hown, hts, hK, hN, hE, hAW⟩ := hC
  intro hl hol hos hom H locs arr hP hD hS hz hL
  unfold s_icge at h
  split at h
  · refine lv_icmp_ge hx hb hd ht (fun z => h.1 z hl hol (oks_t (oks_t hos)) hom H locs arr hP hD hS hz hL) (fun z => ?_)
    have k1 := h.2 z hl hol (oks_t (oks_t hos)) hom H locs arr hP hD hS hz hL
    rw [hn] at k1
    exact k1
  · exact h.elim
def s_ifgt (t : Nat) : StpT := fun _ K n ls st m => match st with
  | Sum.inl x :: st' => (0 < x → K t ls st' m) ∧ (¬ 0 < x → K (n + 1) ls st' m)
  | _ => False
theorem mo_s_ifgt {t : Nat} : monoS (s_ifgt t) := by
  intro R K K' h n ls st m hs
  unfold s_ifgt at hs ⊢
  split at hs
  · exact ⟨fun z => h _ _ _ _ (hs.1 z), fun z => h _ _ _ _ (hs.2 z)⟩
  · exact hs
theorem st_ifgt (hC : CX p s m args c cc own nL D dA ad A) {n t : Nat} {off : Int} (hd : decode cc (pcs n) = .ok (.ifCond .gt off, 3)) (hn : pcs (n + 1) = pcs n + 3) (ht : (pcs n : Int) + off = (pcs t : Int)) : SND RR (XK p l e R s m args below meth c cells slots Q nL D dA ad A pcs) n (s_ifgt t) := by
  refine ⟨mo_s_ifgt, fun ls st mm h => ?_⟩
  obtain ⟨hx, hb, hml, hown, hts, hK, hN, hE, hAW⟩ := hC
  intro hl hol hos hom H locs arr hP hD hS hz hL
  unfold s_ifgt at h
  split at h
  · refine lv_if_gt hx hb hd ht (fun z => h.1 z hl hol (oks_t hos) hom H locs arr hP hD hS hz hL) (fun z => ?_)
    have k1 := h.2 z hl hol (oks_t hos) hom H locs arr hP hD hS hz hL
    rw [hn] at k1
    exact k1
  · exact h.elim
def s_icgt (t : Nat) : StpT := fun _ K n ls st m => match st with
  | Sum.inl y :: Sum.inl x :: st' => (y < x → K t ls st' m) ∧ (¬ y < x → K (n + 1) ls st' m)
  | _ => False
theorem mo_s_icgt {t : Nat} : monoS (s_icgt t) := by
  intro R K K' h n ls st m hs
  unfold s_icgt at hs ⊢
  split at hs
  · exact ⟨fun z => h _ _ _ _ (hs.1 z), fun z => h _ _ _ _ (hs.2 z)⟩
  · exact hs
theorem st_icgt (hC : CX p s m args c cc own nL D dA ad A) {n t : Nat} {off : Int} (hd : decode cc (pcs n) = .ok (.if_icmp .gt off, 3)) (hn : pcs (n + 1) = pcs n + 3) (ht : (pcs n : Int) + off = (pcs t : Int)) : SND RR (XK p l e R s m args below meth c cells slots Q nL D dA ad A pcs) n (s_icgt t) := by
  refine ⟨mo_s_icgt, fun ls st mm h => ?_⟩
  obtain ⟨hx, hb, hml, hown, hts, hK, hN, hE, hAW⟩ := hC
  intro hl hol hos hom H locs arr hP hD hS hz hL
  unfold s_icgt at h
  split at h
  · refine lv_icmp_gt hx hb hd ht (fun z => h.1 z hl hol (oks_t (oks_t hos)) hom H locs arr hP hD hS hz hL) (fun z => ?_)
    have k1 := h.2 z hl hol (oks_t (oks_t hos)) hom H locs arr hP hD hS hz hL
    rw [hn] at k1
    exact k1
  · exact h.elim
def s_ifle (t : Nat) : StpT := fun _ K n ls st m => match st with
  | Sum.inl x :: st' => (x ≤ 0 → K t ls st' m) ∧ (¬ x ≤ 0 → K (n + 1) ls st' m)
  | _ => False
theorem mo_s_ifle {t : Nat} : monoS (s_ifle t) := by
  intro R K K' h n ls st m hs
  unfold s_ifle at hs ⊢
  split at hs
  · exact ⟨fun z => h _ _ _ _ (hs.1 z), fun z => h _ _ _ _ (hs.2 z)⟩
  · exact hs
theorem st_ifle (hC : CX p s m args c cc own nL D dA ad A) {n t : Nat} {off : Int} (hd : decode cc (pcs n) = .ok (.ifCond .le off, 3)) (hn : pcs (n + 1) = pcs n + 3) (ht : (pcs n : Int) + off = (pcs t : Int)) : SND RR (XK p l e R s m args below meth c cells slots Q nL D dA ad A pcs) n (s_ifle t) := by
  refine ⟨mo_s_ifle, fun ls st mm h => ?_⟩
  obtain ⟨hx, hb, hml, hown, hts, hK, hN, hE, hAW⟩ := hC
  intro hl hol hos hom H locs arr hP hD hS hz hL
  unfold s_ifle at h
  split at h
  · refine lv_if_le hx hb hd ht (fun z => h.1 z hl hol (oks_t hos) hom H locs arr hP hD hS hz hL) (fun z => ?_)
    have k1 := h.2 z hl hol (oks_t hos) hom H locs arr hP hD hS hz hL
    rw [hn] at k1
    exact k1
  · exact h.elim
def s_icle (t : Nat) : StpT := fun _ K n ls st m => match st with
  | Sum.inl y :: Sum.inl x :: st' => (x ≤ y → K t ls st' m) ∧ (¬ x ≤ y → K (n + 1) ls st' m)
  | _ => False
theorem mo_s_icle {t : Nat} : monoS (s_icle t) := by
  intro R K K' h n ls st m hs
  unfold s_icle at hs ⊢
  split at hs
  · exact ⟨fun z => h _ _ _ _ (hs.1 z), fun z => h _ _ _ _ (hs.2 z)⟩
  · exact hs
theorem st_icle (hC : CX p s m args c cc own nL D dA ad A) {n t : Nat} {off : Int} (hd : decode cc (pcs n) = .ok (.if_icmp .le off, 3)) (hn : pcs (n + 1) = pcs n + 3) (ht : (pcs n : Int) + off = (pcs t : Int)) : SND RR (XK p l e R s m args below meth c cells slots Q nL D dA ad A pcs) n (s_icle t) := by
  refine ⟨mo_s_icle, fun ls st mm h => ?_⟩
  obtain ⟨hx, hb, hml, hown, hts, hK, hN, hE, hAW⟩ := hC
  intro hl hol hos hom H locs arr hP hD hS hz hL
  unfold s_icle at h
  split at h
  · refine lv_icmp_le hx hb hd ht (fun z => h.1 z hl hol (oks_t (oks_t hos)) hom H locs arr hP hD hS hz hL) (fun z => ?_)
    have k1 := h.2 z hl hol (oks_t (oks_t hos)) hom H locs arr hP hD hS hz hL
    rw [hn] at k1
    exact k1
  · exact h.elim
def s_goto (t : Nat) : StpT := fun _ K _ ls st m => K t ls st m
theorem mo_s_goto {t : Nat} : monoS (s_goto t) := by
  intro R K K' h n ls st m hs
  unfold s_goto at hs ⊢
  exact h _ _ _ _ hs
theorem st_goto (hC : CX p s m args c cc own nL D dA ad A) {n t : Nat} {off : Int} (hd : decode cc (pcs n) = .ok (.goto off, 3)) (ht : (pcs n : Int) + off = (pcs t : Int)) : SND RR (XK p l e R s m args below meth c cells slots Q nL D dA ad A pcs) n (s_goto t) := by
  refine ⟨mo_s_goto, fun ls st mm h => ?_⟩
  obtain ⟨hx, hb, hml, hown, hts, hK, hN, hE, hAW⟩ := hC
  intro hl hol hos hom H locs arr hP hD hS hz hL
  exact lv_goto hx hb hd ht (h hl hol hos hom H locs arr hP hD hS hz hL)
def swc (x : Int32) : List (Int32 × Nat) → (Nat → Prop) → Prop
  | [], _ => True
  | (c, t) :: r, F => (x = c → F t) ∧ swc x r F
theorem swc_at {x : Int32} {F : Nat → Prop} : ∀ {cs : List (Int32 × Nat)} {t : Nat}, swc x cs F → (x, t) ∈ cs → F t
  | [], _, _, h => absurd h List.not_mem_nil
  | (c, u) :: r, t, h, hm => by
    rcases List.mem_cons.mp hm with e | e
    · cases e; exact h.1 rfl
    · exact swc_at h.2 e
theorem swc_mono {x : Int32} {F G : Nat → Prop} (hFG : ∀ t, F t → G t) : ∀ {cs : List (Int32 × Nat)}, swc x cs F → swc x cs G
  | [], _ => trivial
  | (_, _) :: _, h => ⟨fun z => hFG _ (h.1 z), swc_mono hFG h.2⟩

def s_sw (cs : List (Int32 × Nat)) (d : Nat) : StpT := fun _ K _ ls st m => match st with
  | Sum.inl x :: st' => swc x cs (fun t => K t ls st' m) ∧ ((∀ q ∈ cs, ¬ x = q.1) → K d ls st' m)
  | _ => False
theorem mo_s_sw {cs : List (Int32 × Nat)} {d : Nat} : monoS (s_sw cs d) := by
  intro R K K' h n ls st m hs
  unfold s_sw at hs ⊢
  split at hs
  · exact ⟨swc_mono (fun t q => h _ _ _ _ q) hs.1, fun z => h _ _ _ _ (hs.2 z)⟩
  · exact hs
/-- a table's case list: lo, lo + 1 .. -/
def tsw (lo : Int) (ts : List Nat) : List (Int32 × Nat) := ts.zipIdx.map (fun q => (Int32.ofInt (lo + q.2), q.1))
theorem st_table (hC : CX p s m args c cc own nL D dA ad A) {n d : Nat} {dflt lo hi : Int} {offs : Array Int} {ts : List Nat} {len : Nat} (hd : decode cc (pcs n) = .ok (.tableswitch dflt lo hi offs, len)) (hdt : (pcs n : Int) + dflt = (pcs d : Int)) (hlen : lo + ts.length = hi + 1) (hlo : -2147483648 ≤ lo) (hhi : hi < 2147483648) (hts' : ∀ i : Nat, i < ts.length → ∃ off : Int, offs[i]? = some off ∧ ∃ t : Nat, ts[i]? = some t ∧ (pcs n : Int) + off = (pcs t : Int)) : SND RR (XK p l e R s m args below meth c cells slots Q nL D dA ad A pcs) n (s_sw (tsw lo ts) d) := by
  refine ⟨mo_s_sw, fun ls st mm h => ?_⟩
  obtain ⟨hx, hb, hml, hown, hts, hK, hN, hE, hAW⟩ := hC
  intro hl hol hos hom H locs arr hP hD hS hz hL
  unfold s_sw at h
  split at h
  · rename_i x st'
    by_cases hr : x.toInt < lo ∨ hi < x.toInt
    · refine lv_tableOut hx hb hd hr hdt (h.2 (fun q hq => ?_) hl hol (oks_t hos) hom H locs arr hP hD hS hz hL)
      obtain ⟨⟨t, i⟩, hm, rfl⟩ := List.mem_map.mp hq
      have hi' : i < ts.length := by
        have := (List.getElem?_eq_some_iff.mp (List.mem_zipIdx_iff_getElem?.mp hm)).1
        exact this
      intro e
      have e2 : x.toInt = lo + i := by
        rw [e]
        exact Int32.toInt_ofInt_of_le (by show -2147483648 ≤ lo + (i : Int); omega) (by show lo + (i : Int) < 2147483648; omega)
      rcases hr with hr | hr <;> omega
    · have h1 : ¬ x.toInt < lo := fun z => hr (Or.inl z)
      have h2 : ¬ hi < x.toInt := fun z => hr (Or.inr z)
      have hi' : (x.toInt - lo).toNat < ts.length := by omega
      obtain ⟨off, ho, t, htt, ht⟩ := hts' _ hi'
      refine lv_tableIn hx hb hd h1 h2 ho ht (swc_at (t := t) h.1 ?_ hl hol (oks_t hos) hom H locs arr hP hD hS hz hL)
      refine List.mem_map.mpr ⟨(t, (x.toInt - lo).toNat), ?_, ?_⟩
      · exact List.mem_zipIdx_iff_getElem?.mpr htt
      · show (Int32.ofInt (lo + ((x.toInt - lo).toNat : Nat)), t) = (x, t)
        rw [show lo + (((x.toInt - lo).toNat : Nat) : Int) = x.toInt by omega, Int32.ofInt_toInt]
  · exact h.elim
theorem st_lookup (hC : CX p s m args c cc own nL D dA ad A) {n d : Nat} {dflt : Int} {ps : Array (Int × Int)} {cs : List (Int32 × Nat)} {len : Nat} (hd : decode cc (pcs n) = .ok (.lookupswitch dflt ps, len)) (hp : (ps.toList.zip (ps.toList.drop 1)).all (fun (a, next) => a.1 < next.1) = true) (hdt : (pcs n : Int) + dflt = (pcs d : Int)) (hcs : ∀ x : Int32, (∃ t, (x, t) ∈ cs ∧ (pcs n : Int) + Op.lookupswitch.offset ps.toList dflt x.toInt = (pcs t : Int)) ∨ ((∀ q ∈ cs, ¬ x = q.1) ∧ Op.lookupswitch.offset ps.toList dflt x.toInt = dflt)) : SND RR (XK p l e R s m args below meth c cells slots Q nL D dA ad A pcs) n (s_sw cs d) := by
  refine ⟨mo_s_sw, fun ls st mm h => ?_⟩
  obtain ⟨hx, hb, hml, hown, hts, hK, hN, hE, hAW⟩ := hC
  intro hl hol hos hom H locs arr hP hD hS hz hL
  unfold s_sw at h
  split at h
  · rename_i x st'
    rcases hcs x with ⟨t, hm, ht⟩ | ⟨hno, ho⟩
    · exact lv_lookup hx hb hd hp rfl ht (swc_at (t := t) h.1 hm hl hol (oks_t hos) hom H locs arr hP hD hS hz hL)
    · exact lv_lookup hx hb hd hp ho hdt (h.2 hno hl hol (oks_t hos) hom H locs arr hP hD hS hz hL)
  · exact h.elim
/-- a kind of objects, its class, its fields -/
def CLF (k : Nat) (C : String) (T : u_T) (N : Nat) (ty0 : Nat → FieldType) : Prop := (sh k).1 = 0 ∧ vwCl[alen k]? = some (C, T, N) ∧ nf k = N ∧ (∀ w ∈ u_ws C T N, w ∈ TBL) ∧ (∀ j, j < N → parseFieldDescriptor (T j).2.2.1 = some (ty0 j)) ∧ (∀ a, a < N → ∀ b, b < N → a ≠ b → (T a).2.1 ≠ (T b).2.1) ∧ ∀ j, j < N → (T j).1 = C
theorem cE_obj {k g : Nat} {mm : MM} (h : (sh k).1 = 0) : cE dA ad mm (k, g) = .inr (alen k, (List.range (nf k)).map (fv ad mm k g)) := by
  unfold cE
  rw [h]
  rfl
theorem cE_int {k g : Nat} {mm : MM} (h : (sh k).1 = 1) : cE dA ad mm (k, g) = .inl (dA 0, alen k, .inl (mm.1 k g)) := by
  unfold cE
  rw [h]
  rfl
theorem cE_long {k g : Nat} {mm : MM} (h : (sh k).1 = 2) : cE dA ad mm (k, g) = .inl (dA 1, alen k, .inr (.inl (mm.2.1 k g))) := by
  unfold cE
  rw [h]
  rfl
theorem cE_byte {k g : Nat} {mm : MM} (h : (sh k).1 = 3) : cE dA ad mm (k, g) = .inl (dA 2, alen k, .inl (mm.1 k g)) := by
  unfold cE
  rw [h]
  rfl
theorem cE_r4 {k g : Nat} {mm : MM} (h : (sh k).1 = 4) : cE dA ad mm (k, g) = .inl (dA 3, alen k, .inr (.inr (.inr (.inr (fun j => some (ad (ft k 0).2.1 ((ft k 0).2.2 + j))))))) := by
  unfold cE
  rw [h]
  rfl
theorem cE_r5 {k g : Nat} {mm : MM} (h : (sh k).1 = 5) : cE dA ad mm (k, g) = .inl (dA 4, alen k, .inr (.inr (.inr (.inr (fun j => some (ad (ft k 0).2.1 ((ft k 0).2.2 + j))))))) := by
  unfold cE
  rw [h]
  rfl

theorem dyn_ok {t d : Nat} {mm : MM} (hct : cnt t = 5 ∧ (d = 0 ∨ d = 1)) (hom : okm mm) : mm.2.2 d < cnt t := by
  rw [hct.1]
  rcases hct.2 with q | q
  · rw [q]; exact hom.1
  · rw [q]; exact hom.2
def s_getI (k j : Nat) : StpT := fun _ K n ls st m => match st with
  | Sum.inr (Sum.inr (k', g)) :: st' => cond (Nat.beq k' k) (K (n + 1) ls (Sum.inl (m.1 k g j) :: st') m) False
  | _ => False
theorem mo_s_getI {k j : Nat} : monoS (s_getI k j ) := by
  intro R K K' h n ls st m hs
  unfold s_getI at hs ⊢
  split at hs
  · cases q : Nat.beq _ k <;> rw [q] at hs
    · exact hs
    · exact h _ _ _ _ hs
  · exact hs
theorem st_getI (hC : CX p s m args c cc own nL D dA ad A) {n k j a0 b0 idx N : Nat} {C : String} {T : u_T} {ty0 : Nat → FieldType} (hd : decode cc (pcs n) = .ok (.getfield idx, 3)) (hn : pcs (n + 1) = pcs n + 3) (hk : CLF k C T N ty0) (hj : j < N) (hf : ft k j = (0, a0, b0)) (hw : Cond.fieldLink own idx C (T j).2.1 (T j).2.2.1 ∈ TBL) : SND RR (XK p l e R s m args below meth c cells slots Q nL D dA ad A pcs) n (s_getI k j ) := by
  refine ⟨mo_s_getI, fun ls st mm h => ?_⟩
  obtain ⟨hx, hb, hml, hown, hts, hK, hN, hE, hAW⟩ := hC
  intro hl hol hos hom H locs arr hP hD hS hz hL
  unfold s_getI at h
  split at h
  · rename_i k' g st'
    cases q : Nat.beq k' k <;> rw [q] at h
    · exact h.elim
    · have e := Nat.eq_of_beq_eq_true q
      subst e
      obtain ⟨hso, hcl, hnf, hin, hty, hnm, hcn⟩ := hk
      obtain ⟨q0, hq0⟩ := CELLS_mem (oks_h hos) (by rw [hso]; exact Nat.zero_le 5)
      have he := WS_at (dA := dA) (ad := ad) (mm := mm) hq0
      rw [cE_obj hso] at he
      have k1 := h hl hol (oks_c trivial (oks_t hos)) hom H locs arr hP hD hS hz hL
      rw [hn] at k1
      refine va_get (D := D) (ref := C) hx hb hts hin hown hK hP q0 he hcl j hj (hts _ hw) (fun x hx' => by rw [hcn j hj] at hx'; exact hx') (v := fv ad mm k' g j) (range_at (by rw [hnf]; exact hj)) hd ?_
      rw [fv_int hf]
      exact k1
  · exact h.elim
def s_getL (k j : Nat) : StpT := fun _ K n ls st m => match st with
  | Sum.inr (Sum.inr (k', g)) :: st' => cond (Nat.beq k' k) (K (n + 1) ls (Sum.inr (Sum.inl (m.2.1 k g j)) :: st') m) False
  | _ => False
theorem mo_s_getL {k j : Nat} : monoS (s_getL k j ) := by
  intro R K K' h n ls st m hs
  unfold s_getL at hs ⊢
  split at hs
  · cases q : Nat.beq _ k <;> rw [q] at hs
    · exact hs
    · exact h _ _ _ _ hs
  · exact hs
theorem st_getL (hC : CX p s m args c cc own nL D dA ad A) {n k j a0 b0 idx N : Nat} {C : String} {T : u_T} {ty0 : Nat → FieldType} (hd : decode cc (pcs n) = .ok (.getfield idx, 3)) (hn : pcs (n + 1) = pcs n + 3) (hk : CLF k C T N ty0) (hj : j < N) (hf : ft k j = (1, a0, b0)) (hw : Cond.fieldLink own idx C (T j).2.1 (T j).2.2.1 ∈ TBL) : SND RR (XK p l e R s m args below meth c cells slots Q nL D dA ad A pcs) n (s_getL k j ) := by
  refine ⟨mo_s_getL, fun ls st mm h => ?_⟩
  obtain ⟨hx, hb, hml, hown, hts, hK, hN, hE, hAW⟩ := hC
  intro hl hol hos hom H locs arr hP hD hS hz hL
  unfold s_getL at h
  split at h
  · rename_i k' g st'
    cases q : Nat.beq k' k <;> rw [q] at h
    · exact h.elim
    · have e := Nat.eq_of_beq_eq_true q
      subst e
      obtain ⟨hso, hcl, hnf, hin, hty, hnm, hcn⟩ := hk
      obtain ⟨q0, hq0⟩ := CELLS_mem (oks_h hos) (by rw [hso]; exact Nat.zero_le 5)
      have he := WS_at (dA := dA) (ad := ad) (mm := mm) hq0
      rw [cE_obj hso] at he
      have k1 := h hl hol (oks_c trivial (oks_t hos)) hom H locs arr hP hD hS hz hL
      rw [hn] at k1
      refine va_get (D := D) (ref := C) hx hb hts hin hown hK hP q0 he hcl j hj (hts _ hw) (fun x hx' => by rw [hcn j hj] at hx'; exact hx') (v := fv ad mm k' g j) (range_at (by rw [hnf]; exact hj)) hd ?_
      rw [fv_long hf]
      exact k1
  · exact h.elim
def s_getR (k j t : Nat) : StpT := fun _ K n ls st m => match st with
  | Sum.inr (Sum.inr (k', g)) :: st' => cond (Nat.beq k' k) (K (n + 1) ls (Sum.inr (Sum.inr (t, g)) :: st') m) False
  | _ => False
theorem mo_s_getR {k j t : Nat} : monoS (s_getR k j t) := by
  intro R K K' h n ls st m hs
  unfold s_getR at hs ⊢
  split at hs
  · cases q : Nat.beq _ k <;> rw [q] at hs
    · exact hs
    · exact h _ _ _ _ hs
  · exact hs
theorem st_getR (hC : CX p s m args c cc own nL D dA ad A) {n k j t b0 idx N : Nat} {C : String} {T : u_T} {ty0 : Nat → FieldType} (hd : decode cc (pcs n) = .ok (.getfield idx, 3)) (hn : pcs (n + 1) = pcs n + 3) (hk : CLF k C T N ty0) (hj : j < N) (hf : ft k j = (2, t, b0)) (hct : cnt k ≤ cnt t) (hw : Cond.fieldLink own idx C (T j).2.1 (T j).2.2.1 ∈ TBL) : SND RR (XK p l e R s m args below meth c cells slots Q nL D dA ad A pcs) n (s_getR k j t) := by
  refine ⟨mo_s_getR, fun ls st mm h => ?_⟩
  obtain ⟨hx, hb, hml, hown, hts, hK, hN, hE, hAW⟩ := hC
  intro hl hol hos hom H locs arr hP hD hS hz hL
  unfold s_getR at h
  split at h
  · rename_i k' g st'
    cases q : Nat.beq k' k <;> rw [q] at h
    · exact h.elim
    · have e := Nat.eq_of_beq_eq_true q
      subst e
      obtain ⟨hso, hcl, hnf, hin, hty, hnm, hcn⟩ := hk
      obtain ⟨q0, hq0⟩ := CELLS_mem (oks_h hos) (by rw [hso]; exact Nat.zero_le 5)
      have he := WS_at (dA := dA) (ad := ad) (mm := mm) hq0
      rw [cE_obj hso] at he
      have k1 := h hl hol (oks_c (show okv (Sum.inr (Sum.inr (t, g))) from Nat.lt_of_lt_of_le (oks_h hos) hct) (oks_t hos)) hom H locs arr hP hD hS hz hL
      rw [hn] at k1
      refine va_get (D := D) (ref := C) hx hb hts hin hown hK hP q0 he hcl j hj (hts _ hw) (fun x hx' => by rw [hcn j hj] at hx'; exact hx') (v := fv ad mm k' g j) (range_at (by rw [hnf]; exact hj)) hd ?_
      rw [fv_same hf]
      exact k1
  · exact h.elim
def s_getC (k j t c0 : Nat) : StpT := fun _ K n ls st m => match st with
  | Sum.inr (Sum.inr (k', g)) :: st' => cond (Nat.beq k' k) (K (n + 1) ls (Sum.inr (Sum.inr (t, c0)) :: st') m) False
  | _ => False
theorem mo_s_getC {k j t c0 : Nat} : monoS (s_getC k j t c0) := by
  intro R K K' h n ls st m hs
  unfold s_getC at hs ⊢
  split at hs
  · cases q : Nat.beq _ k <;> rw [q] at hs
    · exact hs
    · exact h _ _ _ _ hs
  · exact hs
theorem st_getC (hC : CX p s m args c cc own nL D dA ad A) {n k j t c0 idx N : Nat} {C : String} {T : u_T} {ty0 : Nat → FieldType} (hd : decode cc (pcs n) = .ok (.getfield idx, 3)) (hn : pcs (n + 1) = pcs n + 3) (hk : CLF k C T N ty0) (hj : j < N) (hf : ft k j = (3, t, c0)) (hct : c0 < cnt t) (hw : Cond.fieldLink own idx C (T j).2.1 (T j).2.2.1 ∈ TBL) : SND RR (XK p l e R s m args below meth c cells slots Q nL D dA ad A pcs) n (s_getC k j t c0) := by
  refine ⟨mo_s_getC, fun ls st mm h => ?_⟩
  obtain ⟨hx, hb, hml, hown, hts, hK, hN, hE, hAW⟩ := hC
  intro hl hol hos hom H locs arr hP hD hS hz hL
  unfold s_getC at h
  split at h
  · rename_i k' g st'
    cases q : Nat.beq k' k <;> rw [q] at h
    · exact h.elim
    · have e := Nat.eq_of_beq_eq_true q
      subst e
      obtain ⟨hso, hcl, hnf, hin, hty, hnm, hcn⟩ := hk
      obtain ⟨q0, hq0⟩ := CELLS_mem (oks_h hos) (by rw [hso]; exact Nat.zero_le 5)
      have he := WS_at (dA := dA) (ad := ad) (mm := mm) hq0
      rw [cE_obj hso] at he
      have k1 := h hl hol (oks_c (show okv (Sum.inr (Sum.inr (t, c0))) from hct) (oks_t hos)) hom H locs arr hP hD hS hz hL
      rw [hn] at k1
      refine va_get (D := D) (ref := C) hx hb hts hin hown hK hP q0 he hcl j hj (hts _ hw) (fun x hx' => by rw [hcn j hj] at hx'; exact hx') (v := fv ad mm k' g j) (range_at (by rw [hnf]; exact hj)) hd ?_
      rw [fv_const hf]
      exact k1
  · exact h.elim
def s_getD (k j t d : Nat) : StpT := fun _ K n ls st m => match st with
  | Sum.inr (Sum.inr (k', g)) :: st' => cond (Nat.beq k' k) (K (n + 1) ls (Sum.inr (Sum.inr (t, m.2.2 d)) :: st') m) False
  | _ => False
theorem mo_s_getD {k j t d : Nat} : monoS (s_getD k j t d) := by
  intro R K K' h n ls st m hs
  unfold s_getD at hs ⊢
  split at hs
  · cases q : Nat.beq _ k <;> rw [q] at hs
    · exact hs
    · exact h _ _ _ _ hs
  · exact hs
theorem st_getD (hC : CX p s m args c cc own nL D dA ad A) {n k j t d idx N : Nat} {C : String} {T : u_T} {ty0 : Nat → FieldType} (hd : decode cc (pcs n) = .ok (.getfield idx, 3)) (hn : pcs (n + 1) = pcs n + 3) (hk : CLF k C T N ty0) (hj : j < N) (hf : ft k j = (4, t, d)) (hct : cnt t = 5 ∧ (d = 0 ∨ d = 1)) (hw : Cond.fieldLink own idx C (T j).2.1 (T j).2.2.1 ∈ TBL) : SND RR (XK p l e R s m args below meth c cells slots Q nL D dA ad A pcs) n (s_getD k j t d) := by
  refine ⟨mo_s_getD, fun ls st mm h => ?_⟩
  obtain ⟨hx, hb, hml, hown, hts, hK, hN, hE, hAW⟩ := hC
  intro hl hol hos hom H locs arr hP hD hS hz hL
  unfold s_getD at h
  split at h
  · rename_i k' g st'
    cases q : Nat.beq k' k <;> rw [q] at h
    · exact h.elim
    · have e := Nat.eq_of_beq_eq_true q
      subst e
      obtain ⟨hso, hcl, hnf, hin, hty, hnm, hcn⟩ := hk
      obtain ⟨q0, hq0⟩ := CELLS_mem (oks_h hos) (by rw [hso]; exact Nat.zero_le 5)
      have he := WS_at (dA := dA) (ad := ad) (mm := mm) hq0
      rw [cE_obj hso] at he
      have k1 := h hl hol (oks_c (show okv (Sum.inr (Sum.inr (t, mm.2.2 d))) from dyn_ok hct hom) (oks_t hos)) hom H locs arr hP hD hS hz hL
      rw [hn] at k1
      refine va_get (D := D) (ref := C) hx hb hts hin hown hK hP q0 he hcl j hj (hts _ hw) (fun x hx' => by rw [hcn j hj] at hx'; exact hx') (v := fv ad mm k' g j) (range_at (by rw [hnf]; exact hj)) hd ?_
      rw [fv_dyn hf]
      exact k1
  · exact h.elim
def s_putI (k j : Nat) : StpT := fun _ K n ls st m => match st with
  | Sum.inl x :: Sum.inr (Sum.inr (k', g)) :: st' => cond (Nat.beq k' k) (K (n + 1) ls st' (mI m k g j x)) False
  | _ => False
theorem mo_s_putI {k j : Nat} : monoS (s_putI k j) := by
  intro R K K' h n ls st m hs
  unfold s_putI at hs ⊢
  split at hs
  · cases q : Nat.beq _ k <;> rw [q] at hs
    · exact hs
    · exact h _ _ _ _ hs
  · exact hs
theorem st_putI (hC : CX p s m args c cc own nL D dA ad A) {n k j a0 b0 idx N : Nat} {C : String} {T : u_T} {ty0 : Nat → FieldType} (hd : decode cc (pcs n) = .ok (.putfield idx, 3)) (hn : pcs (n + 1) = pcs n + 3) (hk : CLF k C T N ty0) (hj : j < N) (hf : ft k j = (0, a0, b0)) (hfin : (T j).2.2.2 = false) (htj : ty0 j = .int) (hw : Cond.fieldLink own idx C (T j).2.1 (T j).2.2.1 ∈ TBL) : SND RR (XK p l e R s m args below meth c cells slots Q nL D dA ad A pcs) n (s_putI k j) := by
  refine ⟨mo_s_putI, fun ls st mm h => ?_⟩
  obtain ⟨hx, hb, hml, hown, hts, hK, hN, hE, hAW⟩ := hC
  intro hl hol hos hom H locs arr hP hD hS hz hL
  unfold s_putI at h
  split at h
  · rename_i x k' g st'
    cases q : Nat.beq k' k <;> rw [q] at h
    · exact h.elim
    · have e := Nat.eq_of_beq_eq_true q
      subst e
      obtain ⟨hso, hcl, hnf, hin, hty, hnm, hcn⟩ := hk
      obtain ⟨q0, hq0⟩ := CELLS_mem (oks_h (oks_t hos)) (by rw [hso]; exact Nat.zero_le 5)
      have he := WS_at (dA := dA) (ad := ad) (mm := mm) hq0
      rw [cE_obj hso] at he
      refine va_put (D := D) (ref := C) (ty := .int) (v := .int x) hx hb hts hin ty0 hty hnm hown hK hP hD hS q0 he hcl j hj (hts _ hw) (fun x hx' => by rw [hcn j hj] at hx'; exact hx') hfin (by rw [hty j hj, htj]) (vp_nar_int x) rfl (by simpa [hnf] using hj) hd (fun H1 locs1 hP1 hD1 hS1 => ?_)
      have hws : (WS dA ad mm).set q0 (ad k' g, .inr (alen k', ((List.range (nf k')).map (fv ad mm k' g)).set j (.int x))) = WS dA ad (mI mm k' g j x) := by
        have e1 : fv ad (mI mm k' g j x) k' g j = .int x := by
          rw [fv_int hf]
          simp [mI, mL, mRow_row, upd, vp_updL]
        have e2 := range_set (f := fv ad mm k' g) (f' := fv ad (mI mm k' g j x) k' g) (n := nf k') (by rw [hnf]; exact hj) (fun i _ hi => fv_mI hi)
        rw [e1] at e2
        rw [e2, ← cE_obj (dA := dA) hso]
        exact WS_set hq0 (fun r _ hr => mRow_other r hr)
      have k1 := h hl hol (oks_t (oks_t hos)) hom H1 locs1 arr (by rw [← hws]; exact hP1) (by rw [← hws]; exact hD1) hS1 hz hL
      rw [hn] at k1
      exact k1
  · exact h.elim
def s_putZ (k j : Nat) : StpT := fun _ K n ls st m => match st with
  | Sum.inl x :: Sum.inr (Sum.inr (k', g)) :: st' => cond (Nat.beq k' k) ((x = 0 ∨ x = 1) ∧ K (n + 1) ls st' (mI m k g j x)) False
  | _ => False
theorem mo_s_putZ {k j : Nat} : monoS (s_putZ k j) := by
  intro R K K' h n ls st m hs
  unfold s_putZ at hs ⊢
  split at hs
  · cases q : Nat.beq _ k <;> rw [q] at hs
    · exact hs
    · exact ⟨hs.1, h _ _ _ _ hs.2⟩
  · exact hs
theorem st_putZ (hC : CX p s m args c cc own nL D dA ad A) {n k j a0 b0 idx N : Nat} {C : String} {T : u_T} {ty0 : Nat → FieldType} (hd : decode cc (pcs n) = .ok (.putfield idx, 3)) (hn : pcs (n + 1) = pcs n + 3) (hk : CLF k C T N ty0) (hj : j < N) (hf : ft k j = (0, a0, b0)) (hfin : (T j).2.2.2 = false) (htj : ty0 j = .boolean) (hw : Cond.fieldLink own idx C (T j).2.1 (T j).2.2.1 ∈ TBL) : SND RR (XK p l e R s m args below meth c cells slots Q nL D dA ad A pcs) n (s_putZ k j) := by
  refine ⟨mo_s_putZ, fun ls st mm h => ?_⟩
  obtain ⟨hx, hb, hml, hown, hts, hK, hN, hE, hAW⟩ := hC
  intro hl hol hos hom H locs arr hP hD hS hz hL
  unfold s_putZ at h
  split at h
  · rename_i x k' g st'
    cases q : Nat.beq k' k <;> rw [q] at h
    · exact h.elim
    · have e := Nat.eq_of_beq_eq_true q
      subst e
      obtain ⟨hpre, h⟩ := h
      obtain ⟨hso, hcl, hnf, hin, hty, hnm, hcn⟩ := hk
      obtain ⟨q0, hq0⟩ := CELLS_mem (oks_h (oks_t hos)) (by rw [hso]; exact Nat.zero_le 5)
      have he := WS_at (dA := dA) (ad := ad) (mm := mm) hq0
      rw [cE_obj hso] at he
      refine va_put (D := D) (ref := C) (ty := .boolean) (v := .int x) hx hb hts hin ty0 hty hnm hown hK hP hD hS q0 he hcl j hj (hts _ hw) (fun x hx' => by rw [hcn j hj] at hx'; exact hx') hfin (by rw [hty j hj, htj]) (by rcases hpre with z | z <;> rw [z] <;> rfl) (by rcases hpre with z | z <;> rw [z] <;> rfl) (by simpa [hnf] using hj) hd (fun H1 locs1 hP1 hD1 hS1 => ?_)
      have hws : (WS dA ad mm).set q0 (ad k' g, .inr (alen k', ((List.range (nf k')).map (fv ad mm k' g)).set j (.int x))) = WS dA ad (mI mm k' g j x) := by
        have e1 : fv ad (mI mm k' g j x) k' g j = .int x := by
          rw [fv_int hf]
          simp [mI, mL, mRow_row, upd, vp_updL]
        have e2 := range_set (f := fv ad mm k' g) (f' := fv ad (mI mm k' g j x) k' g) (n := nf k') (by rw [hnf]; exact hj) (fun i _ hi => fv_mI hi)
        rw [e1] at e2
        rw [e2, ← cE_obj (dA := dA) hso]
        exact WS_set hq0 (fun r _ hr => mRow_other r hr)
      have k1 := h hl hol (oks_t (oks_t hos)) hom H1 locs1 arr (by rw [← hws]; exact hP1) (by rw [← hws]; exact hD1) hS1 hz hL
      rw [hn] at k1
      exact k1
  · exact h.elim
def s_putL (k j : Nat) : StpT := fun _ K n ls st m => match st with
  | Sum.inr (Sum.inl x) :: Sum.inr (Sum.inr (k', g)) :: st' => cond (Nat.beq k' k) (K (n + 1) ls st' (mL m k g j x)) False
  | _ => False
theorem mo_s_putL {k j : Nat} : monoS (s_putL k j) := by
  intro R K K' h n ls st m hs
  unfold s_putL at hs ⊢
  split at hs
  · cases q : Nat.beq _ k <;> rw [q] at hs
    · exact hs
    · exact h _ _ _ _ hs
  · exact hs
theorem st_putL (hC : CX p s m args c cc own nL D dA ad A) {n k j a0 b0 idx N : Nat} {C : String} {T : u_T} {ty0 : Nat → FieldType} (hd : decode cc (pcs n) = .ok (.putfield idx, 3)) (hn : pcs (n + 1) = pcs n + 3) (hk : CLF k C T N ty0) (hj : j < N) (hf : ft k j = (1, a0, b0)) (hfin : (T j).2.2.2 = false) (htj : ty0 j = .long) (hw : Cond.fieldLink own idx C (T j).2.1 (T j).2.2.1 ∈ TBL) : SND RR (XK p l e R s m args below meth c cells slots Q nL D dA ad A pcs) n (s_putL k j) := by
  refine ⟨mo_s_putL, fun ls st mm h => ?_⟩
  obtain ⟨hx, hb, hml, hown, hts, hK, hN, hE, hAW⟩ := hC
  intro hl hol hos hom H locs arr hP hD hS hz hL
  unfold s_putL at h
  split at h
  · rename_i x k' g st'
    cases q : Nat.beq k' k <;> rw [q] at h
    · exact h.elim
    · have e := Nat.eq_of_beq_eq_true q
      subst e
      obtain ⟨hso, hcl, hnf, hin, hty, hnm, hcn⟩ := hk
      obtain ⟨q0, hq0⟩ := CELLS_mem (oks_h (oks_t hos)) (by rw [hso]; exact Nat.zero_le 5)
      have he := WS_at (dA := dA) (ad := ad) (mm := mm) hq0
      rw [cE_obj hso] at he
      refine va_put (D := D) (ref := C) (ty := .long) (v := .long x) hx hb hts hin ty0 hty hnm hown hK hP hD hS q0 he hcl j hj (hts _ hw) (fun x hx' => by rw [hcn j hj] at hx'; exact hx') hfin (by rw [hty j hj, htj]) rfl rfl (by simpa [hnf] using hj) hd (fun H1 locs1 hP1 hD1 hS1 => ?_)
      have hws : (WS dA ad mm).set q0 (ad k' g, .inr (alen k', ((List.range (nf k')).map (fv ad mm k' g)).set j (.long x))) = WS dA ad (mL mm k' g j x) := by
        have e1 : fv ad (mL mm k' g j x) k' g j = .long x := by
          rw [fv_long hf]
          simp [mI, mL, mRowL_row, upd, vp_updL]
        have e2 := range_set (f := fv ad mm k' g) (f' := fv ad (mL mm k' g j x) k' g) (n := nf k') (by rw [hnf]; exact hj) (fun i _ hi => fv_mL hi)
        rw [e1] at e2
        rw [e2, ← cE_obj (dA := dA) hso]
        exact WS_set hq0 (fun r _ hr => mRowL_other r hr)
      have k1 := h hl hol (oks_t (oks_t hos)) hom H1 locs1 arr (by rw [← hws]; exact hP1) (by rw [← hws]; exact hD1) hS1 hz hL
      rw [hn] at k1
      exact k1
  · exact h.elim
def s_putD (j t d : Nat) : StpT := fun _ K n ls st m => match st with
  | Sum.inr (Sum.inr (t', i)) :: Sum.inr (Sum.inr (k', _)) :: st' => cond (Nat.beq k' 11 && Nat.beq t' t) (K (n + 1) ls st' (mDyn m d i)) False
  | _ => False
theorem mo_s_putD {j t d : Nat} : monoS (s_putD j t d) := by
  intro R K K' h n ls st m hs
  unfold s_putD at hs ⊢
  split at hs
  · cases q : (Nat.beq _ 11 && Nat.beq _ t) <;> rw [q] at hs
    · exact hs
    · exact h _ _ _ _ hs
  · exact hs
theorem dyn_alone : ∀ r ∈ CELLS, r ≠ (11, 0) → (sh r.1).1 = 0 → ∀ i, i < nf r.1 → (ft r.1 i).1 < 4 := by decide +kernel
theorem mDyn_other {mm : MM} {d x : Nat} (r : Nat × Nat) (hm : r ∈ CELLS) (h : r ≠ (11, 0)) : cE dA ad (mDyn mm d x) r = cE dA ad mm r := by
  have e : (sh r.1).1 = 0 → (List.range (nf r.1)).map (fv ad (mDyn mm d x) r.1 r.2) = (List.range (nf r.1)).map (fv ad mm r.1 r.2) := by
    intro h0
    refine List.map_congr_left (fun i hi => ?_)
    have h4 := dyn_alone r hm h h0 i (List.mem_range.mp hi)
    unfold fv
    generalize hz : ft r.1 i = z at h4
    obtain ⟨a, b, c⟩ := z
    match a, h4 with
    | 0, _ => rfl
    | 1, _ => rfl
    | 2, _ => rfl
    | 3, _ => rfl
  unfold cE
  split
  · rename_i h0
    rw [e h0]
  · rfl
  · rfl
  · rfl
  · rfl
  · rfl
theorem st_putD (hC : CX p s m args c cc own nL D dA ad A) {n j t d idx N : Nat} {C : String} {T : u_T} {ty0 : Nat → FieldType} {E : String} (hd : decode cc (pcs n) = .ok (.putfield idx, 3)) (hn : pcs (n + 1) = pcs n + 3) (hk : CLF 11 C T N ty0) (hc1 : cnt 11 = 1) (hj : j < N) (hf : ft 11 j = (4, t, d)) (hct : cnt t = 5 ∧ (d = 0 ∨ d = 1)) (hdj : ∀ i, i < N → i ≠ j → ft 11 i ≠ (4, t, d)) (hd4 : ∀ i, i < N → (ft 11 i).1 ≤ 4 ∧ ((ft 11 i).1 = 4 → (ft 11 i).2.1 = t)) (hfin : (T j).2.2.2 = false) (htj : ty0 j = .object E) (hw : Cond.fieldLink own idx C (T j).2.1 (T j).2.2.1 ∈ TBL) : SND RR (XK p l e R s m args below meth c cells slots Q nL D dA ad A pcs) n (s_putD j t d) := by
  refine ⟨mo_s_putD, fun ls st mm h => ?_⟩
  obtain ⟨hx, hb, hml, hown, hts, hK, hN, hE, hAW⟩ := hC
  intro hl hol hos hom H locs arr hP hD hS hz hL
  unfold s_putD at h
  split at h
  · rename_i t' x k' g st'
    cases q : (Nat.beq k' 11 && Nat.beq t' t) <;> rw [q] at h
    · exact h.elim
    · obtain ⟨q1, q2⟩ := Bool.and_eq_true_iff.mp q
      have e := Nat.eq_of_beq_eq_true q1
      subst e
      have e2 := Nat.eq_of_beq_eq_true q2
      subst e2
      obtain ⟨hso, hcl, hnf, hin, hty, hnm, hcn⟩ := hk
      have hg0 : g < cnt 11 := oks_h (oks_t hos)
      have hg : g = 0 := by omega
      subst hg
      have hx5 : x < cnt t' := oks_h hos
      obtain ⟨q0, hq0⟩ := CELLS_mem hg0 (by rw [hso]; exact Nat.zero_le 5)
      have he := WS_at (dA := dA) (ad := ad) (mm := mm) hq0
      rw [cE_obj hso] at he
      refine va_put (D := D) (ref := C) (ty := .object E) (v := .ref (ad t' x)) hx hb hts hin ty0 hty hnm hown hK hP hD hS q0 he hcl j hj (hts _ hw) (fun x hx' => by rw [hcn j hj] at hx'; exact hx') hfin (by rw [hty j hj, htj]) rfl rfl (by simpa [hnf] using hj) hd (fun H1 locs1 hP1 hD1 hS1 => ?_)
      have hws : (WS dA ad mm).set q0 (ad 11 0, .inr (alen 11, ((List.range (nf 11)).map (fv ad mm 11 0)).set j (.ref (ad t' x)))) = WS dA ad (mDyn mm d x) := by
        have e1 : fv ad (mDyn mm d x) 11 0 j = .ref (ad t' x) := by
          rw [fv_dyn hf]
          simp [mDyn]
        have e2 := range_set (f := fv ad mm 11 0) (f' := fv ad (mDyn mm d x) 11 0) (n := nf 11) (by rw [hnf]; exact hj) (fun i hi hij => by
          rw [hnf] at hi
          have a1 := hdj i hi hij
          have a2 := hd4 i hi
          unfold fv
          generalize hz : ft 11 i = z at a1 a2
          obtain ⟨a, b, c⟩ := z
          match a with
          | 0 => rfl
          | 1 => rfl
          | 2 => rfl
          | 3 => rfl
          | 4 =>
            have hbt := a2.2 rfl
            simp only at hbt
            subst hbt
            have hcd : ¬ c = d := fun z => a1 (by rw [z])
            simp [mDyn, hcd]
          | a + 5 => exact absurd a2.1 (by simp only; omega))
        rw [e1] at e2
        rw [e2, ← cE_obj (dA := dA) hso]
        exact WS_set hq0 (fun r hm hr => mDyn_other r hm hr)
      have hom' : okm (mDyn mm d x) := by
        rw [hct.1] at hx5
        unfold okm mDyn
        simp only
        constructor
        · split
          · exact hx5
          · exact hom.1
        · split
          · exact hx5
          · exact hom.2
      have k1 := h hl hol (oks_t (oks_t hos)) hom' H1 locs1 arr (by rw [← hws]; exact hP1) (by rw [← hws]; exact hD1) hS1 hz hL
      rw [hn] at k1
      exact k1
  · exact h.elim
def s_iald : StpT := fun _ K n ls st m => match st with
  | Sum.inl i :: Sum.inr (Sum.inr (k, g)) :: st' => cond (Nat.beq (sh k).1 1) (inb i (alen k) = true ∧ K (n + 1) ls (Sum.inl (m.1 k g i.toNatClampNeg) :: st') m) False
  | _ => False
theorem mo_s_iald : monoS (s_iald ) := by
  intro R K K' h n ls st m hs
  unfold s_iald at hs ⊢
  split at hs
  · cases q : Nat.beq _ 1 <;> rw [q] at hs
    · exact hs
    · exact ⟨hs.1, h _ _ _ _ hs.2⟩
  · exact hs
theorem st_iald (hC : CX p s m args c cc own nL D dA ad A) {n : Nat} (hd : decode cc (pcs n) = .ok (.iaload, 1)) (hn : pcs (n + 1) = pcs n + 1) : SND RR (XK p l e R s m args below meth c cells slots Q nL D dA ad A pcs) n s_iald := by
  refine ⟨mo_s_iald, fun ls st mm h => ?_⟩
  obtain ⟨hx, hb, hml, hown, hts, hK, hN, hE, hAW⟩ := hC
  intro hl hol hos hom H locs arr hP hD hS hz hL
  unfold s_iald at h
  split at h
  · rename_i i k g st'
    cases q : Nat.beq (sh k).1 1 <;> rw [q] at h
    · exact h.elim
    · have hso := Nat.eq_of_beq_eq_true q
      obtain ⟨hin, h⟩ := h
      have hin := inb_of hin
      obtain ⟨q0, hq0⟩ := CELLS_mem (oks_h (oks_t hos)) (by rw [hso]; decide)
      have he := WS_at (dA := dA) (ad := ad) (mm := mm) hq0
      rw [cE_int hso] at he
      have k1 := h hl hol (oks_c trivial (oks_t (oks_t hos))) hom H locs arr hP hD hS hz hL
      rw [hn] at k1
      exact va_iald hx hb hK hP q0 0 he rfl hin hd k1
  · exact h.elim
def s_bald : StpT := fun _ K n ls st m => match st with
  | Sum.inl i :: Sum.inr (Sum.inr (k, g)) :: st' => cond (Nat.beq (sh k).1 3) (inb i (alen k) = true ∧ K (n + 1) ls (Sum.inl (m.1 k g i.toNatClampNeg) :: st') m) False
  | _ => False
theorem mo_s_bald : monoS (s_bald ) := by
  intro R K K' h n ls st m hs
  unfold s_bald at hs ⊢
  split at hs
  · cases q : Nat.beq _ 3 <;> rw [q] at hs
    · exact hs
    · exact ⟨hs.1, h _ _ _ _ hs.2⟩
  · exact hs
theorem st_bald (hC : CX p s m args c cc own nL D dA ad A) {n : Nat} (hd : decode cc (pcs n) = .ok (.baload, 1)) (hn : pcs (n + 1) = pcs n + 1) : SND RR (XK p l e R s m args below meth c cells slots Q nL D dA ad A pcs) n s_bald := by
  refine ⟨mo_s_bald, fun ls st mm h => ?_⟩
  obtain ⟨hx, hb, hml, hown, hts, hK, hN, hE, hAW⟩ := hC
  intro hl hol hos hom H locs arr hP hD hS hz hL
  unfold s_bald at h
  split at h
  · rename_i i k g st'
    cases q : Nat.beq (sh k).1 3 <;> rw [q] at h
    · exact h.elim
    · have hso := Nat.eq_of_beq_eq_true q
      obtain ⟨hin, h⟩ := h
      have hin := inb_of hin
      obtain ⟨q0, hq0⟩ := CELLS_mem (oks_h (oks_t hos)) (by rw [hso]; decide)
      have he := WS_at (dA := dA) (ad := ad) (mm := mm) hq0
      rw [cE_byte hso] at he
      have k1 := h hl hol (oks_c trivial (oks_t (oks_t hos))) hom H locs arr hP hD hS hz hL
      rw [hn] at k1
      exact va_bald hx hb hK hP q0 2 he rfl hin hd k1
  · exact h.elim
def s_lald : StpT := fun _ K n ls st m => match st with
  | Sum.inl i :: Sum.inr (Sum.inr (k, g)) :: st' => cond (Nat.beq (sh k).1 2) (inb i (alen k) = true ∧ K (n + 1) ls (Sum.inr (Sum.inl (m.2.1 k g i.toNatClampNeg)) :: st') m) False
  | _ => False
theorem mo_s_lald : monoS (s_lald ) := by
  intro R K K' h n ls st m hs
  unfold s_lald at hs ⊢
  split at hs
  · cases q : Nat.beq _ 2 <;> rw [q] at hs
    · exact hs
    · exact ⟨hs.1, h _ _ _ _ hs.2⟩
  · exact hs
theorem st_lald (hC : CX p s m args c cc own nL D dA ad A) {n : Nat} (hd : decode cc (pcs n) = .ok (.laload, 1)) (hn : pcs (n + 1) = pcs n + 1) : SND RR (XK p l e R s m args below meth c cells slots Q nL D dA ad A pcs) n s_lald := by
  refine ⟨mo_s_lald, fun ls st mm h => ?_⟩
  obtain ⟨hx, hb, hml, hown, hts, hK, hN, hE, hAW⟩ := hC
  intro hl hol hos hom H locs arr hP hD hS hz hL
  unfold s_lald at h
  split at h
  · rename_i i k g st'
    cases q : Nat.beq (sh k).1 2 <;> rw [q] at h
    · exact h.elim
    · have hso := Nat.eq_of_beq_eq_true q
      obtain ⟨hin, h⟩ := h
      have hin := inb_of hin
      obtain ⟨q0, hq0⟩ := CELLS_mem (oks_h (oks_t hos)) (by rw [hso]; decide)
      have he := WS_at (dA := dA) (ad := ad) (mm := mm) hq0
      rw [cE_long hso] at he
      have k1 := h hl hol (oks_c trivial (oks_t (oks_t hos))) hom H locs arr hP hD hS hz hL
      rw [hn] at k1
      exact va_lald hx hb hK hP q0 1 he rfl hin hd k1
  · exact h.elim
def s_iast : StpT := fun _ K n ls st m => match st with
  | Sum.inl x :: Sum.inl i :: Sum.inr (Sum.inr (k, g)) :: st' => cond (Nat.beq (sh k).1 1) (inb i (alen k) = true ∧ K (n + 1) ls st' (mRow m k g (upd (m.1 k g) i.toNatClampNeg x))) False
  | _ => False
theorem mo_s_iast : monoS (s_iast ) := by
  intro R K K' h n ls st m hs
  unfold s_iast at hs ⊢
  split at hs
  · cases q : Nat.beq _ 1 <;> rw [q] at hs
    · exact hs
    · exact ⟨hs.1, h _ _ _ _ hs.2⟩
  · exact hs
theorem st_iast (hC : CX p s m args c cc own nL D dA ad A) {n : Nat} (hd : decode cc (pcs n) = .ok (.iastore, 1)) (hn : pcs (n + 1) = pcs n + 1) : SND RR (XK p l e R s m args below meth c cells slots Q nL D dA ad A pcs) n s_iast := by
  refine ⟨mo_s_iast, fun ls st mm h => ?_⟩
  obtain ⟨hx, hb, hml, hown, hts, hK, hN, hE, hAW⟩ := hC
  intro hl hol hos hom H locs arr hP hD hS hz hL
  unfold s_iast at h
  split at h
  · rename_i x i k g st'
    cases q : Nat.beq (sh k).1 1 <;> rw [q] at h
    · exact h.elim
    · have hso := Nat.eq_of_beq_eq_true q
      obtain ⟨hin, h⟩ := h
      have hin := inb_of hin
      obtain ⟨q0, hq0⟩ := CELLS_mem (oks_h (oks_t (oks_t hos))) (by rw [hso]; decide)
      have he := WS_at (dA := dA) (ad := ad) (mm := mm) hq0
      rw [cE_int hso] at he
      refine va_iast hx hb hK hP hD hS q0 0 he rfl hin hd (fun H1 locs1 hP1 hD1 hS1 => ?_)
      have hws := WS_set (dA := dA) (ad := ad) (mm := mm) (mm' := mRow mm k g (upd (mm.1 k g) i.toNatClampNeg x)) hq0 (fun r _ hr => mRow_other r hr)
      rw [cE_int hso, mRow_row] at hws
      have k1 := h hl hol (oks_t (oks_t (oks_t hos))) hom H1 locs1 arr (by rw [← hws]; exact hP1) (by rw [← hws]; exact hD1) hS1 hz hL
      rw [hn] at k1
      exact k1
  · exact h.elim
def s_bast : StpT := fun _ K n ls st m => match st with
  | Sum.inl x :: Sum.inl i :: Sum.inr (Sum.inr (k, g)) :: st' => cond (Nat.beq (sh k).1 3) (inb i (alen k) = true ∧ K (n + 1) ls st' (mRow m k g (upd (m.1 k g) i.toNatClampNeg (vp_nar .byte x)))) False
  | _ => False
theorem mo_s_bast : monoS (s_bast ) := by
  intro R K K' h n ls st m hs
  unfold s_bast at hs ⊢
  split at hs
  · cases q : Nat.beq _ 3 <;> rw [q] at hs
    · exact hs
    · exact ⟨hs.1, h _ _ _ _ hs.2⟩
  · exact hs
theorem st_bast (hC : CX p s m args c cc own nL D dA ad A) {n : Nat} (hd : decode cc (pcs n) = .ok (.bastore, 1)) (hn : pcs (n + 1) = pcs n + 1) : SND RR (XK p l e R s m args below meth c cells slots Q nL D dA ad A pcs) n s_bast := by
  refine ⟨mo_s_bast, fun ls st mm h => ?_⟩
  obtain ⟨hx, hb, hml, hown, hts, hK, hN, hE, hAW⟩ := hC
  intro hl hol hos hom H locs arr hP hD hS hz hL
  unfold s_bast at h
  split at h
  · rename_i x i k g st'
    cases q : Nat.beq (sh k).1 3 <;> rw [q] at h
    · exact h.elim
    · have hso := Nat.eq_of_beq_eq_true q
      obtain ⟨hin, h⟩ := h
      have hin := inb_of hin
      obtain ⟨q0, hq0⟩ := CELLS_mem (oks_h (oks_t (oks_t hos))) (by rw [hso]; decide)
      have he := WS_at (dA := dA) (ad := ad) (mm := mm) hq0
      rw [cE_byte hso] at he
      refine va_bast hx hb hK hP hD hS q0 2 he rfl hin hd (fun H1 locs1 hP1 hD1 hS1 => ?_)
      have hws := WS_set (dA := dA) (ad := ad) (mm := mm) (mm' := mRow mm k g (upd (mm.1 k g) i.toNatClampNeg (vp_nar .byte x))) hq0 (fun r _ hr => mRow_other r hr)
      rw [cE_byte hso, mRow_row] at hws
      have k1 := h hl hol (oks_t (oks_t (oks_t hos))) hom H1 locs1 arr (by rw [← hws]; exact hP1) (by rw [← hws]; exact hD1) hS1 hz hL
      rw [hn] at k1
      exact k1
  · exact h.elim
def s_last : StpT := fun _ K n ls st m => match st with
  | Sum.inr (Sum.inl x) :: Sum.inl i :: Sum.inr (Sum.inr (k, g)) :: st' => cond (Nat.beq (sh k).1 2) (inb i (alen k) = true ∧ K (n + 1) ls st' (mRowL m k g (vp_updL (m.2.1 k g) i.toNatClampNeg x))) False
  | _ => False
theorem mo_s_last : monoS (s_last ) := by
  intro R K K' h n ls st m hs
  unfold s_last at hs ⊢
  split at hs
  · cases q : Nat.beq _ 2 <;> rw [q] at hs
    · exact hs
    · exact ⟨hs.1, h _ _ _ _ hs.2⟩
  · exact hs
theorem st_last (hC : CX p s m args c cc own nL D dA ad A) {n : Nat} (hd : decode cc (pcs n) = .ok (.lastore, 1)) (hn : pcs (n + 1) = pcs n + 1) : SND RR (XK p l e R s m args below meth c cells slots Q nL D dA ad A pcs) n s_last := by
  refine ⟨mo_s_last, fun ls st mm h => ?_⟩
  obtain ⟨hx, hb, hml, hown, hts, hK, hN, hE, hAW⟩ := hC
  intro hl hol hos hom H locs arr hP hD hS hz hL
  unfold s_last at h
  split at h
  · rename_i x i k g st'
    cases q : Nat.beq (sh k).1 2 <;> rw [q] at h
    · exact h.elim
    · have hso := Nat.eq_of_beq_eq_true q
      obtain ⟨hin, h⟩ := h
      have hin := inb_of hin
      obtain ⟨q0, hq0⟩ := CELLS_mem (oks_h (oks_t (oks_t hos))) (by rw [hso]; decide)
      have he := WS_at (dA := dA) (ad := ad) (mm := mm) hq0
      rw [cE_long hso] at he
      refine va_last hx hb hK hP hD hS q0 1 he rfl hin hd (fun H1 locs1 hP1 hD1 hS1 => ?_)
      have hws := WS_set (dA := dA) (ad := ad) (mm := mm) (mm' := mRowL mm k g (vp_updL (mm.2.1 k g) i.toNatClampNeg x)) hq0 (fun r _ hr => mRowL_other r hr)
      rw [cE_long hso, mRowL_row] at hws
      have k1 := h hl hol (oks_t (oks_t (oks_t hos))) hom H1 locs1 arr (by rw [← hws]; exact hP1) (by rw [← hws]; exact hD1) hS1 hz hL
      rw [hn] at k1
      exact k1
  · exact h.elim
def s_aald4 (t b : Nat) : StpT := fun _ K n ls st m => match st with
  | Sum.inl i :: Sum.inr (Sum.inr (k, _)) :: st' => cond (Nat.beq (sh k).1 4) (inb i (alen k) = true ∧ K (n + 1) ls (Sum.inr (Sum.inr (t, b + i.toNatClampNeg)) :: st') m) False
  | _ => False
theorem mo_s_aald4 {t b : Nat} : monoS (s_aald4 t b) := by
  intro R K K' h n ls st m hs
  unfold s_aald4 at hs ⊢
  split at hs
  · cases q : Nat.beq _ 4 <;> rw [q] at hs
    · exact hs
    · exact ⟨hs.1, h _ _ _ _ hs.2⟩
  · exact hs
theorem st_aald4 (hC : CX p s m args c cc own nL D dA ad A) {n t b : Nat} (hd : decode cc (pcs n) = .ok (.aaload, 1)) (hn : pcs (n + 1) = pcs n + 1) (hall : ∀ k, k < SHT.length → (sh k).1 = 4 → (ft k 0).2 = (t, b) ∧ b + alen k ≤ cnt t) : SND RR (XK p l e R s m args below meth c cells slots Q nL D dA ad A pcs) n (s_aald4 t b) := by
  refine ⟨mo_s_aald4, fun ls st mm h => ?_⟩
  obtain ⟨hx, hb, hml, hown, hts, hK, hN, hE, hAW⟩ := hC
  intro hl hol hos hom H locs arr hP hD hS hz hL
  unfold s_aald4 at h
  split at h
  · rename_i i k g st'
    cases q : Nat.beq (sh k).1 4 <;> rw [q] at h
    · exact h.elim
    · have hso := Nat.eq_of_beq_eq_true q
      obtain ⟨hin, h⟩ := h
      have hin := inb_of hin
      have hg : g < cnt k := oks_h (oks_t hos)
      obtain ⟨q0, hq0⟩ := CELLS_mem hg (by rw [hso]; decide)
      obtain ⟨hft, hle⟩ := hall k (sh_in (by omega)) hso
      have he := WS_at (dA := dA) (ad := ad) (mm := mm) hq0
      rw [cE_r4 hso, hft] at he
      have hlt : i.toNatClampNeg < alen k := Nat.not_le.mp fun q => hin (Or.inr q)
      have k1 := h hl hol (oks_c (v := Sum.inr (Sum.inr (t, b + i.toNatClampNeg))) (show b + i.toNatClampNeg < cnt t by omega) (oks_t (oks_t hos))) hom H locs arr hP hD hS hz hL
      rw [hn] at k1
      exact va_aldq hx hb hK hP q0 3 he rfl hin hd k1
  · exact h.elim
def s_aald5 (t b : Nat) : StpT := fun _ K n ls st m => match st with
  | Sum.inl i :: Sum.inr (Sum.inr (k, _)) :: st' => cond (Nat.beq (sh k).1 5) (inb i (alen k) = true ∧ K (n + 1) ls (Sum.inr (Sum.inr (t, b + i.toNatClampNeg)) :: st') m) False
  | _ => False
theorem mo_s_aald5 {t b : Nat} : monoS (s_aald5 t b) := by
  intro R K K' h n ls st m hs
  unfold s_aald5 at hs ⊢
  split at hs
  · cases q : Nat.beq _ 5 <;> rw [q] at hs
    · exact hs
    · exact ⟨hs.1, h _ _ _ _ hs.2⟩
  · exact hs
theorem st_aald5 (hC : CX p s m args c cc own nL D dA ad A) {n t b : Nat} (hd : decode cc (pcs n) = .ok (.aaload, 1)) (hn : pcs (n + 1) = pcs n + 1) (hall : ∀ k, k < SHT.length → (sh k).1 = 5 → (ft k 0).2 = (t, b) ∧ b + alen k ≤ cnt t) : SND RR (XK p l e R s m args below meth c cells slots Q nL D dA ad A pcs) n (s_aald5 t b) := by
  refine ⟨mo_s_aald5, fun ls st mm h => ?_⟩
  obtain ⟨hx, hb, hml, hown, hts, hK, hN, hE, hAW⟩ := hC
  intro hl hol hos hom H locs arr hP hD hS hz hL
  unfold s_aald5 at h
  split at h
  · rename_i i k g st'
    cases q : Nat.beq (sh k).1 5 <;> rw [q] at h
    · exact h.elim
    · have hso := Nat.eq_of_beq_eq_true q
      obtain ⟨hin, h⟩ := h
      have hin := inb_of hin
      have hg : g < cnt k := oks_h (oks_t hos)
      obtain ⟨q0, hq0⟩ := CELLS_mem hg (by rw [hso]; decide)
      obtain ⟨hft, hle⟩ := hall k (sh_in (by omega)) hso
      have he := WS_at (dA := dA) (ad := ad) (mm := mm) hq0
      rw [cE_r5 hso, hft] at he
      have hlt : i.toNatClampNeg < alen k := Nat.not_le.mp fun q => hin (Or.inr q)
      have k1 := h hl hol (oks_c (v := Sum.inr (Sum.inr (t, b + i.toNatClampNeg))) (show b + i.toNatClampNeg < cnt t by omega) (oks_t (oks_t hos))) hom H locs arr hP hD hS hz hL
      rw [hn] at k1
      exact va_aldq hx hb hK hP q0 4 he rfl hin hd k1
  · exact h.elim
def s_alen : StpT := fun _ K n ls st m => match st with
  | Sum.inr (Sum.inr (k, _)) :: st' => cond (Nat.ble 1 (sh k).1 && Nat.ble (sh k).1 3) (K (n + 1) ls (Sum.inl (Int32.ofNat (alen k)) :: st') m) False
  | _ => False
theorem mo_s_alen : monoS (s_alen ) := by
  intro R K K' h n ls st m hs
  unfold s_alen at hs ⊢
  split at hs
  · cases q : (Nat.ble 1 _ && Nat.ble _ 3) <;> rw [q] at hs
    · exact hs
    · exact h _ _ _ _ hs
  · exact hs
theorem st_alen (hC : CX p s m args c cc own nL D dA ad A) {n : Nat} (hd : decode cc (pcs n) = .ok (.arraylength, 1)) (hn : pcs (n + 1) = pcs n + 1) : SND RR (XK p l e R s m args below meth c cells slots Q nL D dA ad A pcs) n s_alen := by
  refine ⟨mo_s_alen, fun ls st mm h => ?_⟩
  obtain ⟨hx, hb, hml, hown, hts, hK, hN, hE, hAW⟩ := hC
  intro hl hol hos hom H locs arr hP hD hS hz hL
  unfold s_alen at h
  split at h
  · rename_i k g st'
    cases q : (Nat.ble 1 (sh k).1 && Nat.ble (sh k).1 3) <;> rw [q] at h
    · exact h.elim
    · obtain ⟨q1, q2⟩ := Bool.and_eq_true_iff.mp q
      have h1 := Nat.le_of_ble_eq_true q1
      have h2 := Nat.le_of_ble_eq_true q2
      obtain ⟨q0, hq0⟩ := CELLS_mem (k := k) (g := g) (oks_h hos) (by omega)
      have he := WS_at (dA := dA) (ad := ad) (mm := mm) hq0
      have k1 := h hl hol (oks_c (v := Sum.inl (Int32.ofNat (alen k))) trivial (oks_t hos)) hom H locs arr hP hD hS hz hL
      rw [hn] at k1
      rcases (show (sh k).1 = 1 ∨ (sh k).1 = 2 ∨ (sh k).1 = 3 by omega) with e | e | e
      · rw [cE_int e] at he
        exact va_alen hx hb hK hP q0 0 he rfl rfl hd k1
      · rw [cE_long e] at he
        exact va_alen hx hb hK hP q0 1 he rfl rfl hd k1
      · rw [cE_byte e] at he
        exact va_alen hx hb hK hP q0 2 he rfl rfl hd k1
  · exact h.elim
def s_acI : StpT := fun _ K n ls st m => match st with
  | Sum.inl z :: Sum.inl dp :: Sum.inr (Sum.inr (k2, g2)) :: Sum.inl sp :: Sum.inr (Sum.inr (k1, g1)) :: st' => cond (Nat.beq (sh k1).1 1 && Nat.beq (sh k2).1 1 && Nat.ble (csum st') 8) ((¬ sp < 0 ∧ ¬ dp < 0 ∧ ¬ z < 0 ∧ sp.toNatClampNeg + z.toNatClampNeg ≤ alen k1 ∧ dp.toNatClampNeg + z.toNatClampNeg ≤ alen k2) ∧ K (n + 1) ls st' (mRow m k2 g2 (va_cpy (m.1 k1 g1) (m.1 k2 g2) sp.toNatClampNeg dp.toNatClampNeg z.toNatClampNeg))) False
  | _ => False
theorem mo_s_acI : monoS (s_acI ) := by
  intro R K K' h n ls st m hs
  unfold s_acI at hs ⊢
  split at hs
  · cases q : (Nat.beq _ 1 && Nat.beq _ 1 && Nat.ble _ 8) <;> rw [q] at hs
    · exact hs
    · exact ⟨hs.1, h _ _ _ _ hs.2⟩
  · exact hs
theorem st_acI (hC : CX p s m args c cc own nL D dA ad A) {n idx : Nat} (hd : decode cc (pcs n) = .ok (.invokestatic idx, 3)) (hn : pcs (n + 1) = pcs n + 3) (hlink : Cond.methodLink own idx arraycopyName ∈ TBL) (hnat : Cond.native arraycopyName ∈ TBL) (hstat : Cond.static arraycopyName ∈ TBL) (hini : Cond.initialized "java/lang/System" ∈ TBL) (hfr : 1 ≤ R.frames) (hlo : 8 + (nativeFrameWords "java/lang/System" "arraycopy" 5 + 11) ≤ R.locals) : SND RR (XK p l e R s m args below meth c cells slots Q nL D dA ad A pcs) n s_acI := by
  refine ⟨mo_s_acI, fun ls st mm h => ?_⟩
  obtain ⟨hx, hb, hml, hown, hts, hK, hN, hE, hAW⟩ := hC
  intro hl hol hos hom H locs arr hP hD hS hz hL
  unfold s_acI at h
  split at h
  · rename_i z dp k2 g2 sp k1 g1 st'
    cases q : (Nat.beq (sh k1).1 1 && Nat.beq (sh k2).1 1 && Nat.ble (csum st') 8) <;> rw [q] at h
    · exact h.elim
    · obtain ⟨q12, q3⟩ := Bool.and_eq_true_iff.mp q
      obtain ⟨q1, q2⟩ := Bool.and_eq_true_iff.mp q12
      have hs1 := Nat.eq_of_beq_eq_true q1
      have hs2 := Nat.eq_of_beq_eq_true q2
      have hs3 := Nat.le_of_ble_eq_true q3
      obtain ⟨⟨h1, h2, h3, h4, h5⟩, h⟩ := h
      have hos2 := oks_t (oks_t hos)
      obtain ⟨p2, hp2⟩ := CELLS_mem (oks_h hos2) (by rw [hs2]; decide)
      obtain ⟨p1, hp1⟩ := CELLS_mem (oks_h (oks_t (oks_t hos2))) (by rw [hs1]; decide)
      have he1 := WS_at (dA := dA) (ad := ad) (mm := mm) hp1
      have he2 := WS_at (dA := dA) (ad := ad) (mm := mm) hp2
      rw [cE_int hs1] at he1
      rw [cE_int hs2] at he2
      refine va_copyi hx hb (hml.trans hz.symm) hown (hts _ hlink) (hts _ hnat) (hts _ hstat) (hts _ hini) hK hP hD hS p1 p2 0 0 he1 he2 rfl rfl rfl h1 h2 h3 h4 h5 (fun _ _ => rfl) hfr (by rw [csum_map]; omega) hd (fun H1 locs1 hP1 hD1 hS1 => ?_)
      have hws := WS_set (dA := dA) (ad := ad) (mm := mm) (mm' := mRow mm k2 g2 (va_cpy (mm.1 k1 g1) (mm.1 k2 g2) sp.toNatClampNeg dp.toNatClampNeg z.toNatClampNeg)) hp2 (fun r _ hr => mRow_other r hr)
      rw [cE_int hs2, mRow_row] at hws
      have k1 := h hl hol (oks_t (oks_t (oks_t hos2))) hom H1 locs1 arr (by rw [← hws]; exact hP1) (by rw [← hws]; exact hD1) hS1 hz hL
      rw [hn] at k1
      exact k1
  · exact h.elim
def s_acL : StpT := fun _ K n ls st m => match st with
  | Sum.inl z :: Sum.inl dp :: Sum.inr (Sum.inr (k2, g2)) :: Sum.inl sp :: Sum.inr (Sum.inr (k1, g1)) :: st' => cond (Nat.beq (sh k1).1 2 && Nat.beq (sh k2).1 2 && Nat.ble (csum st') 8) ((¬ sp < 0 ∧ ¬ dp < 0 ∧ ¬ z < 0 ∧ sp.toNatClampNeg + z.toNatClampNeg ≤ alen k1 ∧ dp.toNatClampNeg + z.toNatClampNeg ≤ alen k2) ∧ K (n + 1) ls st' (mRowL m k2 g2 (va_cpy (m.2.1 k1 g1) (m.2.1 k2 g2) sp.toNatClampNeg dp.toNatClampNeg z.toNatClampNeg))) False
  | _ => False
theorem mo_s_acL : monoS (s_acL ) := by
  intro R K K' h n ls st m hs
  unfold s_acL at hs ⊢
  split at hs
  · cases q : (Nat.beq _ 2 && Nat.beq _ 2 && Nat.ble _ 8) <;> rw [q] at hs
    · exact hs
    · exact ⟨hs.1, h _ _ _ _ hs.2⟩
  · exact hs
theorem st_acL (hC : CX p s m args c cc own nL D dA ad A) {n idx : Nat} (hd : decode cc (pcs n) = .ok (.invokestatic idx, 3)) (hn : pcs (n + 1) = pcs n + 3) (hlink : Cond.methodLink own idx arraycopyName ∈ TBL) (hnat : Cond.native arraycopyName ∈ TBL) (hstat : Cond.static arraycopyName ∈ TBL) (hini : Cond.initialized "java/lang/System" ∈ TBL) (hfr : 1 ≤ R.frames) (hlo : 8 + (nativeFrameWords "java/lang/System" "arraycopy" 5 + 11) ≤ R.locals) : SND RR (XK p l e R s m args below meth c cells slots Q nL D dA ad A pcs) n s_acL := by
  refine ⟨mo_s_acL, fun ls st mm h => ?_⟩
  obtain ⟨hx, hb, hml, hown, hts, hK, hN, hE, hAW⟩ := hC
  intro hl hol hos hom H locs arr hP hD hS hz hL
  unfold s_acL at h
  split at h
  · rename_i z dp k2 g2 sp k1 g1 st'
    cases q : (Nat.beq (sh k1).1 2 && Nat.beq (sh k2).1 2 && Nat.ble (csum st') 8) <;> rw [q] at h
    · exact h.elim
    · obtain ⟨q12, q3⟩ := Bool.and_eq_true_iff.mp q
      obtain ⟨q1, q2⟩ := Bool.and_eq_true_iff.mp q12
      have hs1 := Nat.eq_of_beq_eq_true q1
      have hs2 := Nat.eq_of_beq_eq_true q2
      have hs3 := Nat.le_of_ble_eq_true q3
      obtain ⟨⟨h1, h2, h3, h4, h5⟩, h⟩ := h
      have hos2 := oks_t (oks_t hos)
      obtain ⟨p2, hp2⟩ := CELLS_mem (oks_h hos2) (by rw [hs2]; decide)
      obtain ⟨p1, hp1⟩ := CELLS_mem (oks_h (oks_t (oks_t hos2))) (by rw [hs1]; decide)
      have he1 := WS_at (dA := dA) (ad := ad) (mm := mm) hp1
      have he2 := WS_at (dA := dA) (ad := ad) (mm := mm) hp2
      rw [cE_long hs1] at he1
      rw [cE_long hs2] at he2
      refine va_copyl hx hb (hml.trans hz.symm) hown (hts _ hlink) (hts _ hnat) (hts _ hstat) (hts _ hini) hK hP hD hS p1 p2 1 1 he1 he2 rfl rfl rfl h1 h2 h3 h4 h5 (fun _ _ => rfl) hfr (by rw [csum_map]; omega) hd (fun H1 locs1 hP1 hD1 hS1 => ?_)
      have hws := WS_set (dA := dA) (ad := ad) (mm := mm) (mm' := mRowL mm k2 g2 (va_cpy (mm.2.1 k1 g1) (mm.2.1 k2 g2) sp.toNatClampNeg dp.toNatClampNeg z.toNatClampNeg)) hp2 (fun r _ hr => mRowL_other r hr)
      rw [cE_long hs2, mRowL_row] at hws
      have k1 := h hl hol (oks_t (oks_t (oks_t hos2))) hom H1 locs1 arr (by rw [← hws]; exact hP1) (by rw [← hws]; exact hD1) hS1 hz hL
      rw [hn] at k1
      exact k1
  · exact h.elim
end FW
