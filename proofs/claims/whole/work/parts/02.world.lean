/-! PART 02: a small machine of our own over one fixed world, and its soundness over the kit's rows -/
abbrev MV : Type := Sum Int32 (Sum Int64 (Nat × Nat))
abbrev MM : Type := (Nat → Nat → Nat → Int32) × ((Nat → Nat → Nat → Int64) × (Nat → Nat))
abbrev LsT : Type := List (Option MV)
abbrev KonT : Type := Nat → LsT → List MV → MM → Prop
abbrev RetP : Type := Option MV → MM → Prop
abbrev StpT : Type := RetP → KonT → KonT
abbrev vI (x : Int32) : MV := Sum.inl x
abbrev vL (x : Int64) : MV := Sum.inr (Sum.inl x)
abbrev vR (k g : Nat) : MV := Sum.inr (Sum.inr (k, g))
def cv (ad : Nat → Nat → Nat) : MV → Value
  | Sum.inl x => .int x
  | Sum.inr (Sum.inl x) => .long x
  | Sum.inr (Sum.inr q) => .ref (ad q.1 q.2)
def cat : MV → Nat
  | Sum.inl _ => 1
  | Sum.inr (Sum.inl _) => 2
  | Sum.inr (Sum.inr _) => 1
theorem cv_cat (ad : Nat → Nat → Nat) (v : MV) : (cv ad v).category = cat v := by
  rcases v with x | x | x <;> rfl
def csum : List MV → Nat
  | [] => 0
  | v :: r => cat v + csum r
theorem csum_map (ad : Nat → Nat → Nat) : ∀ st : List MV, ((st.map (cv ad)).map fun v => v.category).sum = csum st
  | [] => rfl
  | v :: r => by
    simp only [List.map_cons, List.sum_cons, csum, cv_cat]
    rw [csum_map ad r]
def lg : LsT → Nat → Option MV
  | [], _ => none
  | a :: _, 0 => a
  | _ :: t, n + 1 => lg t n
def lp : LsT → Nat → Option MV → LsT
  | [], _, _ => []
  | _ :: t, 0, v => v :: t
  | a :: t, n + 1, v => a :: lp t n v
theorem lp_len : ∀ (ls : LsT) (i : Nat) (v : Option MV), (lp ls i v).length = ls.length
  | [], _, _ => rfl
  | _ :: _, 0, _ => rfl
  | _ :: t, n + 1, v => by simp only [lp, List.length_cons, lp_len t n v]
theorem lg_lp : ∀ (ls : LsT) (i j : Nat) (v : Option MV), lg (lp ls i v) j = if j = i ∧ i < ls.length then v else lg ls j
  | [], i, j, v => by simp [lp, lg]
  | a :: t, 0, j, v => by cases j <;> simp [lp, lg]
  | a :: t, n + 1, 0, v => by simp [lp, lg]
  | a :: t, n + 1, j + 1, v => by
    simp only [lp, lg, lg_lp t n j v, List.length_cons]
    by_cases h : j = n ∧ n < t.length
    · rw [if_pos h, if_pos (by omega)]
    · rw [if_neg h, if_neg (by omega)]
def lgp (ls : LsT) : Nat → Option MV
  | 0 => none
  | j + 1 => lg ls j
/-! the world -/
def sh (k : Nat) : Nat × Nat × Nat × List (Nat × Nat × Nat) := SHT.getD k (9, 0, 0, [])
def alen (k : Nat) : Nat := (sh k).2.1
def cnt (k : Nat) : Nat := (sh k).2.2.1
def ft (k j : Nat) : Nat × Nat × Nat := (sh k).2.2.2.getD j (9, 0, 0)
def nf (k : Nat) : Nat := (sh k).2.2.2.length
def CELLS : List (Nat × Nat) := (List.range SHT.length).flatMap fun k => if (sh k).1 ≤ 5 then (List.range (cnt k)).map (fun g => (k, g)) else []
def fv (ad : Nat → Nat → Nat) (mm : MM) (k g j : Nat) : Value := match ft k j with
  | (0, _, _) => .int (mm.1 k g j)
  | (1, _, _) => .long (mm.2.1 k g j)
  | (2, t, _) => .ref (ad t g)
  | (3, t, c) => .ref (ad t c)
  | (_, t, d) => .ref (ad t (mm.2.2 d))
def cE (dA : Nat → ClassId) (ad : Nat → Nat → Nat) (mm : MM) (q : Nat × Nat) : va_E := match (sh q.1).1 with
  | 0 => .inr (alen q.1, (List.range (nf q.1)).map (fv ad mm q.1 q.2))
  | 1 => .inl (dA 0, alen q.1, .inl (mm.1 q.1 q.2))
  | 2 => .inl (dA 1, alen q.1, .inr (.inl (mm.2.1 q.1 q.2)))
  | 3 => .inl (dA 2, alen q.1, .inl (mm.1 q.1 q.2))
  | 4 => .inl (dA 3, alen q.1, .inr (.inr (.inr (.inr (fun j => some (ad (ft q.1 0).2.1 ((ft q.1 0).2.2 + j)))))))
  | _ => .inl (dA 4, alen q.1, .inr (.inr (.inr (.inr (fun j => some (ad (ft q.1 0).2.1 ((ft q.1 0).2.2 + j)))))))
def WS (dA : Nat → ClassId) (ad : Nat → Nat → Nat) (mm : MM) : va_W := CELLS.map (fun q => (ad q.1 q.2, cE dA ad mm q))
def TYS (dA : Nat → ClassId) : List (ClassId × FieldType) := [(dA 0, .int), (dA 1, .long), (dA 2, .byte), (dA 3, .object "GivenUp$Tray"), (dA 4, .object "GivenUp$Valley")]
theorem CELLS_inj : ∀ i, i < CELLS.length → ∀ j, j < CELLS.length → CELLS[i]? = CELLS[j]? → i = j := by decide +kernel
theorem sh_in {k : Nat} (h : 0 < cnt k) : k < SHT.length := by
  rcases Nat.lt_or_ge k SHT.length with q | q
  · exact q
  · unfold cnt sh at h
    rw [List.getD_eq_getElem?_getD, List.getElem?_eq_none q] at h
    exact absurd h (Nat.lt_irrefl 0)
theorem CELLS_mem {k g : Nat} (hg : g < cnt k) (hs : (sh k).1 ≤ 5) : ∃ q0 : Nat, CELLS[q0]? = some (k, g) := by
  refine List.getElem?_of_mem ?_
  refine List.mem_flatMap.mpr ⟨k, List.mem_range.mpr (sh_in (by omega)), ?_⟩
  rw [if_pos hs]
  exact List.mem_map.mpr ⟨g, List.mem_range.mpr hg, rfl⟩
theorem WS_at {dA : Nat → ClassId} {ad : Nat → Nat → Nat} {mm : MM} {q0 : Nat} {q : Nat × Nat} (h : CELLS[q0]? = some q) : (WS dA ad mm)[q0]? = some (ad q.1 q.2, cE dA ad mm q) := by
  unfold WS
  rw [List.getElem?_map, h]
  rfl
theorem WS_set {dA : Nat → ClassId} {ad : Nat → Nat → Nat} {mm mm' : MM} {q0 : Nat} {q : Nat × Nat} (h : CELLS[q0]? = some q) (ho : ∀ r : Nat × Nat, r ∈ CELLS → r ≠ q → cE dA ad mm' r = cE dA ad mm r) : (WS dA ad mm).set q0 (ad q.1 q.2, cE dA ad mm' q) = WS dA ad mm' := by
  apply List.ext_getElem?
  intro i
  have hlt : q0 < (WS dA ad mm).length := by
    have := (List.getElem?_eq_some_iff.mp h).1
    simpa [WS] using this
  by_cases hi : i = q0
  · subst hi
    rw [List.getElem?_set_self hlt, WS_at h]
  · rw [List.getElem?_set_ne (Ne.symm hi)]
    unfold WS
    rw [List.getElem?_map, List.getElem?_map]
    cases hc : CELLS[i]? with
    | none => rfl
    | some r =>
      have hr : r ≠ q := fun e => hi (CELLS_inj i (List.getElem?_eq_some_iff.mp hc).1 q0 (List.getElem?_eq_some_iff.mp h).1 (by rw [hc, h, e]))
      show some (_, _) = some (_, _)
      rw [ho r (List.mem_of_getElem? hc) hr]
theorem WS_D {dA : Nat → ClassId} {ad : Nat → Nat → Nat} {mm mm' : MM} {A : Nat → Prop} (h : va_D A (WS dA ad mm)) : va_D A (WS dA ad mm') := by
  have key : ∀ (k : Nat) (q : Nat × va_E), (WS dA ad mm')[k]? = some q → ∃ q' : Nat × va_E, (WS dA ad mm)[k]? = some q' ∧ q'.1 = q.1 := by
    intro k q hq
    unfold WS at hq ⊢
    rw [List.getElem?_map] at hq ⊢
    cases hc : CELLS[k]? with
    | none => rw [hc] at hq; cases hq
    | some r => rw [hc] at hq; cases hq; exact ⟨_, rfl, rfl⟩
  refine ⟨fun i j x y hi hj hxy => ?_, fun k q hk => ?_⟩
  · obtain ⟨x', h1, h2⟩ := key i x hi
    obtain ⟨y', h3, h4⟩ := key j y hj
    exact h.1 i j x' y' h1 h3 (by rw [h2, h4]; exact hxy)
  · obtain ⟨q', h1, h2⟩ := key k q hk
    rw [← h2]
    exact h.2 k q' h1
/-! changes of the memory -/
def mRow (m : MM) (k g : Nat) (f : Nat → Int32) : MM := (fun k' g' => if k' = k ∧ g' = g then f else m.1 k' g', m.2)
def mRowL (m : MM) (k g : Nat) (f : Nat → Int64) : MM := (m.1, (fun k' g' => if k' = k ∧ g' = g then f else m.2.1 k' g', m.2.2))
def mDyn (m : MM) (d x : Nat) : MM := (m.1, (m.2.1, fun d' => if d' = d then x else m.2.2 d'))
abbrev mI (m : MM) (k g j : Nat) (x : Int32) : MM := mRow m k g (upd (m.1 k g) j x)
abbrev mL (m : MM) (k g j : Nat) (x : Int64) : MM := mRowL m k g (vp_updL (m.2.1 k g) j x)
theorem range_set {α : Type} {n j : Nat} {f f' : Nat → α} (hj : j < n) (h : ∀ i, i < n → i ≠ j → f' i = f i) : ((List.range n).map f).set j (f' j) = (List.range n).map f' := by
  apply List.ext_getElem?
  intro i
  by_cases hi : i = j
  · subst hi
    rw [List.getElem?_set_self (by simpa using hj), List.getElem?_map, List.getElem?_range hj]
    rfl
  · rw [List.getElem?_set_ne (Ne.symm hi), List.getElem?_map, List.getElem?_map]
    rcases Nat.lt_or_ge i n with q | q
    · rw [List.getElem?_range q]
      show some (f i) = some (f' i)
      rw [h i q hi]
    · rw [List.getElem?_eq_none (by simpa using q)]
      rfl
theorem range_at {α : Type} {n j : Nat} {f : Nat → α} (hj : j < n) : ((List.range n).map f)[j]? = some (f j) := by
  rw [List.getElem?_map, List.getElem?_range hj]
  rfl
theorem fv_other {ad : Nat → Nat → Nat} {mm mm' : MM} {k g : Nat} (h1 : mm'.1 k g = mm.1 k g) (h2 : mm'.2.1 k g = mm.2.1 k g) (h3 : mm'.2.2 = mm.2.2) : fv ad mm' k g = fv ad mm k g := by
  funext j
  unfold fv
  rw [h1, h2, h3]
theorem cE_same {dA : Nat → ClassId} {ad : Nat → Nat → Nat} {mm mm' : MM} {q : Nat × Nat} (h1 : mm'.1 q.1 q.2 = mm.1 q.1 q.2) (h2 : mm'.2.1 q.1 q.2 = mm.2.1 q.1 q.2) (h3 : mm'.2.2 = mm.2.2) : cE dA ad mm' q = cE dA ad mm q := by
  unfold cE
  rw [fv_other h1 h2 h3, h1, h2]
theorem mRow_other {dA : Nat → ClassId} {ad : Nat → Nat → Nat} {mm : MM} {k g : Nat} {f : Nat → Int32} (r : Nat × Nat) (h : r ≠ (k, g)) : cE dA ad (mRow mm k g f) r = cE dA ad mm r := by
  refine cE_same ?_ rfl rfl
  show (if r.1 = k ∧ r.2 = g then f else mm.1 r.1 r.2) = _
  rw [if_neg]
  exact fun e => h (Prod.ext e.1 e.2)
theorem mRowL_other {dA : Nat → ClassId} {ad : Nat → Nat → Nat} {mm : MM} {k g : Nat} {f : Nat → Int64} (r : Nat × Nat) (h : r ≠ (k, g)) : cE dA ad (mRowL mm k g f) r = cE dA ad mm r := by
  refine cE_same rfl ?_ rfl
  show (if r.1 = k ∧ r.2 = g then f else mm.2.1 r.1 r.2) = _
  rw [if_neg]
  exact fun e => h (Prod.ext e.1 e.2)
theorem mRow_row (mm : MM) (k g : Nat) (f : Nat → Int32) : (mRow mm k g f).1 k g = f := by
  show (if k = k ∧ g = g then f else mm.1 k g) = f
  rw [if_pos ⟨rfl, rfl⟩]
theorem mRowL_row (mm : MM) (k g : Nat) (f : Nat → Int64) : (mRowL mm k g f).2.1 k g = f := by
  show (if k = k ∧ g = g then f else mm.2.1 k g) = f
  rw [if_pos ⟨rfl, rfl⟩]
theorem fv_int {ad : Nat → Nat → Nat} {mm : MM} {k g j a b : Nat} (h : ft k j = (0, a, b)) : fv ad mm k g j = .int (mm.1 k g j) := by unfold fv; rw [h]; rfl
theorem fv_long {ad : Nat → Nat → Nat} {mm : MM} {k g j a b : Nat} (h : ft k j = (1, a, b)) : fv ad mm k g j = .long (mm.2.1 k g j) := by unfold fv; rw [h]; rfl
theorem fv_same {ad : Nat → Nat → Nat} {mm : MM} {k g j t b : Nat} (h : ft k j = (2, t, b)) : fv ad mm k g j = .ref (ad t g) := by unfold fv; rw [h]; rfl
theorem fv_const {ad : Nat → Nat → Nat} {mm : MM} {k g j t c : Nat} (h : ft k j = (3, t, c)) : fv ad mm k g j = .ref (ad t c) := by unfold fv; rw [h]; rfl
theorem fv_dyn {ad : Nat → Nat → Nat} {mm : MM} {k g j t d : Nat} (h : ft k j = (4, t, d)) : fv ad mm k g j = .ref (ad t (mm.2.2 d)) := by unfold fv; rw [h]; rfl
theorem fv_mI {ad : Nat → Nat → Nat} {mm : MM} {k g j i : Nat} {x : Int32} (h : i ≠ j) : fv ad (mI mm k g j x) k g i = fv ad mm k g i := by
  have e : (mI mm k g j x).1 k g i = mm.1 k g i := by
    rw [mRow_row]
    simp [upd, h]
  unfold fv
  rw [e]
  rfl
theorem fv_mL {ad : Nat → Nat → Nat} {mm : MM} {k g j i : Nat} {x : Int64} (h : i ≠ j) : fv ad (mL mm k g j x) k g i = fv ad mm k g i := by
  have e : (mL mm k g j x).2.1 k g i = mm.2.1 k g i := by
    rw [mRowL_row]
    simp [vp_updL, h]
  unfold fv
  rw [e]
  rfl
