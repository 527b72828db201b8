/-! PART 9ZZP: each call of the law, on both sides, in one fact -/

noncomputable section
def tyI (r : Option MV) : Prop := ∃ z : Int32, r = some (vI z)
def tyL (r : Option MV) : Prop := ∃ z : Int64, r = some (vL z)
theorem tyI_if {c : Prop} [Decidable c] {a b : Option MV × MM} (h1 : tyI a.1) (h2 : tyI b.1) : tyI (if c then a else b).1 := by
  by_cases h : c
  · rw [if_pos h]; exact h1
  · rw [if_neg h]; exact h2
theorem tyL_if {c : Prop} [Decidable c] {a b : Option MV × MM} (h1 : tyL a.1) (h2 : tyL b.1) : tyL (if c then a else b).1 := by
  by_cases h : c
  · rw [if_pos h]; exact h1
  · rw [if_neg h]; exact h2
/-- a call and its like: the same number, and all holds again -/
def LWI (P1 : Prop) (r1 : Option MV × MM) (P2 : MM → Prop) (f2 : MM → Option MV × MM) : Prop := P1 ∧ ∃ (v : Int32) (M M' : MM), r1 = (some (vI v), M) ∧ P2 M ∧ f2 M = (some (vI v), M') ∧ INV M'
def LWL (P1 : Prop) (r1 : Option MV × MM) (P2 : MM → Prop) (f2 : MM → Option MV × MM) : Prop := P1 ∧ ∃ (v : Int64) (M M' : MM), r1 = (some (vL v), M) ∧ P2 M ∧ f2 M = (some (vL v), M') ∧ INV M'
theorem LWI_of {m : MM} {P1 : Prop} {r1 : Option MV × MM} {P2 : MM → Prop} {f2 : MM → Option MV × MM} (hp : P1 ∧ ∀ M, MCo m M → P2 M) (hok : OKo m r1 f2) (hty : tyI r1.1) : LWI P1 r1 P2 f2 := by
  obtain ⟨z, hz⟩ := hty
  obtain ⟨h1, h2, h3⟩ := hok
  exact ⟨hp.1, z, r1.2, (f2 r1.2).2, Prod.ext hz rfl, hp.2 _ h1, Prod.ext (h2.symm.trans hz) rfl, h3⟩
theorem LWL_of {m : MM} {P1 : Prop} {r1 : Option MV × MM} {P2 : MM → Prop} {f2 : MM → Option MV × MM} (hp : P1 ∧ ∀ M, MCo m M → P2 M) (hok : OKo m r1 f2) (hty : tyL r1.1) : LWL P1 r1 P2 f2 := by
  obtain ⟨z, hz⟩ := hty
  obtain ⟨h1, h2, h3⟩ := hok
  exact ⟨hp.1, z, r1.2, (f2 r1.2).2, Prod.ext hz rfl, hp.2 _ h1, Prod.ext (h2.symm.trans hz) rfl, h3⟩
theorem TY_asked (m : MM) (x0 : Int32) : tyI (Fn_X11_asked m [vR 11 0, vI x0]).1 := by
  repeat' (first | refine tyI_if ?_ ?_ | exact ⟨_, rfl⟩)
theorem LW_asked {m : MM} (h : INV m) (x0 : Int32) : LWI (Pre_X11_asked m [vR 11 0, vI x0]) (Fn_X11_asked m [vR 11 0, vI x0]) (fun M => Pre_X12_asked M [vR 12 0, vI x0]) (fun M => Fn_X12_asked M [vR 12 0, vI x0]) := LWI_of (PR_asked h.1 x0) (OK_asked h.1 x0) (TY_asked m x0)
theorem TY_back (m : MM) (x0 : Int32) : tyI (Fn_X11_back m [vR 11 0, vI x0]).1 := by
  repeat' (first | refine tyI_if ?_ ?_ | exact ⟨_, rfl⟩)
theorem LW_back {m : MM} (h : INV m) (x0 : Int32) : LWI (Pre_X11_back m [vR 11 0, vI x0]) (Fn_X11_back m [vR 11 0, vI x0]) (fun M => Pre_X12_back M [vR 12 0, vI x0]) (fun M => Fn_X12_back M [vR 12 0, vI x0]) := LWI_of (PR_back h.1 x0) (OK_back h.1 x0) (TY_back m x0)
theorem TY_bar (m : MM) (x0 : Int32) (x1 : Int32) : tyI (Fn_X11_bar m [vR 11 0, vI x0, vI x1]).1 := by
  repeat' (first | refine tyI_if ?_ ?_ | exact ⟨_, rfl⟩)
theorem LW_bar {m : MM} (h : INV m) (x0 : Int32) (x1 : Int32) : LWI (Pre_X11_bar m [vR 11 0, vI x0, vI x1]) (Fn_X11_bar m [vR 11 0, vI x0, vI x1]) (fun M => Pre_X12_bar M [vR 12 0, vI x0, vI x1]) (fun M => Fn_X12_bar M [vR 12 0, vI x0, vI x1]) := LWI_of (PR_bar h.1 x0 x1) (OK_bar h.1 x0 x1) (TY_bar m x0 x1)
theorem TY_bare (m : MM) (x0 : Int32) : tyI (Fn_X11_bare m [vR 11 0, vI x0]).1 := by
  repeat' (first | refine tyI_if ?_ ?_ | exact ⟨_, rfl⟩)
theorem LW_bare {m : MM} (h : INV m) (x0 : Int32) : LWI (Pre_X11_bare m [vR 11 0, vI x0]) (Fn_X11_bare m [vR 11 0, vI x0]) (fun M => Pre_X12_bare M [vR 12 0, vI x0]) (fun M => Fn_X12_bare M [vR 12 0, vI x0]) := LWI_of (PR_bare h.1 x0) (OK_bare h.1 x0) (TY_bare m x0)
theorem TY_bolter (m : MM) (x0 : Int32) (x1 : Int32) : tyI (Fn_X11_bolter m [vR 11 0, vI x0, vI x1]).1 := by
  repeat' (first | refine tyI_if ?_ ?_ | exact ⟨_, rfl⟩)
theorem LW_bolter {m : MM} (h : INV m) (x0 : Int32) (x1 : Int32) : LWI (Pre_X11_bolter m [vR 11 0, vI x0, vI x1]) (Fn_X11_bolter m [vR 11 0, vI x0, vI x1]) (fun M => Pre_X12_bolter M [vR 12 0, vI x0, vI x1]) (fun M => Fn_X12_bolter M [vR 12 0, vI x0, vI x1]) := LWI_of (PR_bolter h.1 x0 x1) (OK_bolter h.1 x0 x1) (TY_bolter m x0 x1)
theorem TY_bolts (m : MM) (x0 : Int32) : tyI (Fn_X11_bolts m [vR 11 0, vI x0]).1 := by
  repeat' (first | refine tyI_if ?_ ?_ | exact ⟨_, rfl⟩)
theorem LW_bolts {m : MM} (h : INV m) (x0 : Int32) : LWI (Pre_X11_bolts m [vR 11 0, vI x0]) (Fn_X11_bolts m [vR 11 0, vI x0]) (fun M => Pre_X12_bolts M [vR 12 0, vI x0]) (fun M => Fn_X12_bolts M [vR 12 0, vI x0]) := LWI_of (PR_bolts h.1 x0) (OK_bolts h.1 x0) (TY_bolts m x0)
theorem TY_bottom (m : MM)  : tyL (Fn_X11_bottom m [vR 11 0]).1 := by
  repeat' (first | refine tyL_if ?_ ?_ | exact ⟨_, rfl⟩)
theorem LW_bottom {m : MM} (h : INV m)  : LWL (Pre_X11_bottom m [vR 11 0]) (Fn_X11_bottom m [vR 11 0]) (fun M => Pre_X12_bottom M [vR 12 0]) (fun M => Fn_X12_bottom M [vR 12 0]) := LWL_of (PR_bottom h.1 ) (OK_bottom h ) (TY_bottom m )
theorem TY_cheapest (m : MM) (x0 : Int32) (x1 : Int32) : tyI (Fn_X11_cheapest m [vR 11 0, vI x0, vI x1]).1 := by
  repeat' (first | refine tyI_if ?_ ?_ | exact ⟨_, rfl⟩)
theorem LW_cheapest {m : MM} (h : INV m) (x0 : Int32) (x1 : Int32) : LWI (Pre_X11_cheapest m [vR 11 0, vI x0, vI x1]) (Fn_X11_cheapest m [vR 11 0, vI x0, vI x1]) (fun M => Pre_X12_cheapest M [vR 12 0, vI x0, vI x1]) (fun M => Fn_X12_cheapest M [vR 12 0, vI x0, vI x1]) := LWI_of (PR_cheapest h.1 x0 x1) (OK_cheapest h.1 x0 x1) (TY_cheapest m x0 x1)
theorem TY_cheats (m : MM) (x0 : Int32) : tyI (Fn_X11_cheats m [vR 11 0, vI x0]).1 := by
  repeat' (first | refine tyI_if ?_ ?_ | exact ⟨_, rfl⟩)
theorem LW_cheats {m : MM} (h : INV m) (x0 : Int32) : LWI (Pre_X11_cheats m [vR 11 0, vI x0]) (Fn_X11_cheats m [vR 11 0, vI x0]) (fun M => Pre_X12_cheats M [vR 12 0, vI x0]) (fun M => Fn_X12_cheats M [vR 12 0, vI x0]) := LWI_of (PR_cheats h.1 x0) (OK_cheats h.1 x0) (TY_cheats m x0)
theorem TY_dearest (m : MM) (x0 : Int32) (x1 : Int32) : tyI (Fn_X11_dearest m [vR 11 0, vI x0, vI x1]).1 := by
  repeat' (first | refine tyI_if ?_ ?_ | exact ⟨_, rfl⟩)
theorem LW_dearest {m : MM} (h : INV m) (x0 : Int32) (x1 : Int32) : LWI (Pre_X11_dearest m [vR 11 0, vI x0, vI x1]) (Fn_X11_dearest m [vR 11 0, vI x0, vI x1]) (fun M => Pre_X12_dearest M [vR 12 0, vI x0, vI x1]) (fun M => Fn_X12_dearest M [vR 12 0, vI x0, vI x1]) := LWI_of (PR_dearest h.1 x0 x1) (OK_dearest h.1 x0 x1) (TY_dearest m x0 x1)
theorem TY_ends (m : MM) (x0 : Int32) (x1 : Int32) : tyI (Fn_X11_ends m [vR 11 0, vI x0, vI x1]).1 := by
  repeat' (first | refine tyI_if ?_ ?_ | exact ⟨_, rfl⟩)
theorem LW_ends {m : MM} (h : INV m) (x0 : Int32) (x1 : Int32) : LWI (Pre_X11_ends m [vR 11 0, vI x0, vI x1]) (Fn_X11_ends m [vR 11 0, vI x0, vI x1]) (fun M => Pre_X12_ends M [vR 12 0, vI x0, vI x1]) (fun M => Fn_X12_ends M [vR 12 0, vI x0, vI x1]) := LWI_of (PR_ends h.1 x0 x1) (OK_ends h.1 x0 x1) (TY_ends m x0 x1)
theorem TY_fault (m : MM) (x0 : Int32) : tyI (Fn_X11_fault m [vR 11 0, vI x0]).1 := by
  repeat' (first | refine tyI_if ?_ ?_ | exact ⟨_, rfl⟩)
theorem LW_fault {m : MM} (h : INV m) (x0 : Int32) : LWI (Pre_X11_fault m [vR 11 0, vI x0]) (Fn_X11_fault m [vR 11 0, vI x0]) (fun M => Pre_X12_fault M [vR 12 0, vI x0]) (fun M => Fn_X12_fault M [vR 12 0, vI x0]) := LWI_of (PR_fault h.1 x0) (OK_fault h x0) (TY_fault m x0)
theorem TY_feed (m : MM) (x0 : Int32) (x1 : Int32) (x2 : Int32) (x3 : Int32) (x4 : Int32) : tyI (Fn_X11_feed m [vR 11 0, vI x0, vI x1, vI x2, vI x3, vI x4]).1 := by
  repeat' (first | refine tyI_if ?_ ?_ | exact ⟨_, rfl⟩)
theorem LW_feed {m : MM} (h : INV m) (x0 : Int32) (x1 : Int32) (x2 : Int32) (x3 : Int32) (x4 : Int32) : LWI (Pre_X11_feed m [vR 11 0, vI x0, vI x1, vI x2, vI x3, vI x4]) (Fn_X11_feed m [vR 11 0, vI x0, vI x1, vI x2, vI x3, vI x4]) (fun M => Pre_X12_feed M [vR 12 0, vI x0, vI x1, vI x2, vI x3, vI x4]) (fun M => Fn_X12_feed M [vR 12 0, vI x0, vI x1, vI x2, vI x3, vI x4]) := LWI_of (PR_feed h.1 x0 x1 x2 x3 x4) (OK_feed h x0 x1 x2 x3 x4) (TY_feed m x0 x1 x2 x3 x4)
theorem TY_feign (m : MM) (x0 : Int32) : tyI (Fn_X11_feign m [vR 11 0, vI x0]).1 := by
  repeat' (first | refine tyI_if ?_ ?_ | exact ⟨_, rfl⟩)
theorem LW_feign {m : MM} (h : INV m) (x0 : Int32) : LWI (Pre_X11_feign m [vR 11 0, vI x0]) (Fn_X11_feign m [vR 11 0, vI x0]) (fun M => Pre_X12_feign M [vR 12 0, vI x0]) (fun M => Fn_X12_feign M [vR 12 0, vI x0]) := LWI_of (PR_feign h.1 x0) (OK_feign h.1 x0) (TY_feign m x0)
theorem TY_fewest (m : MM) (x0 : Int32) (x1 : Int32) (x2 : Int32) : tyI (Fn_X11_fewest m [vR 11 0, vI x0, vI x1, vI x2]).1 := by
  repeat' (first | refine tyI_if ?_ ?_ | exact ⟨_, rfl⟩)
theorem LW_fewest {m : MM} (h : INV m) (x0 : Int32) (x1 : Int32) (x2 : Int32) : LWI (Pre_X11_fewest m [vR 11 0, vI x0, vI x1, vI x2]) (Fn_X11_fewest m [vR 11 0, vI x0, vI x1, vI x2]) (fun M => Pre_X12_fewest M [vR 12 0, vI x0, vI x1, vI x2]) (fun M => Fn_X12_fewest M [vR 12 0, vI x0, vI x1, vI x2]) := LWI_of (PR_fewest h.1 x0 x1 x2) (OK_fewest h.1 x0 x1 x2) (TY_fewest m x0 x1 x2)
theorem TY_found (m : MM) (x0 : Int32) : tyI (Fn_X11_found m [vR 11 0, vI x0]).1 := by
  repeat' (first | refine tyI_if ?_ ?_ | exact ⟨_, rfl⟩)
theorem LW_found {m : MM} (h : INV m) (x0 : Int32) : LWI (Pre_X11_found m [vR 11 0, vI x0]) (Fn_X11_found m [vR 11 0, vI x0]) (fun M => Pre_X12_found M [vR 12 0, vI x0]) (fun M => Fn_X12_found M [vR 12 0, vI x0]) := LWI_of (PR_found h.1 x0) (OK_found h.1 x0) (TY_found m x0)
theorem TY_give (m : MM) (x0 : Int32) : tyI (Fn_X11_give m [vR 11 0, vI x0]).1 := by
  repeat' (first | refine tyI_if ?_ ?_ | exact ⟨_, rfl⟩)
theorem LW_give {m : MM} (h : INV m) (x0 : Int32) : LWI (Pre_X11_give m [vR 11 0, vI x0]) (Fn_X11_give m [vR 11 0, vI x0]) (fun M => Pre_X12_give M [vR 12 0, vI x0]) (fun M => Fn_X12_give M [vR 12 0, vI x0]) := LWI_of (PR_give h.1 x0) (OK_give h.1 x0) (TY_give m x0)
theorem TY_heard (m : MM) (x0 : Int32) (x1 : Int32) : tyI (Fn_X11_heard m [vR 11 0, vI x0, vI x1]).1 := by
  repeat' (first | refine tyI_if ?_ ?_ | exact ⟨_, rfl⟩)
theorem LW_heard {m : MM} (h : INV m) (x0 : Int32) (x1 : Int32) : LWI (Pre_X11_heard m [vR 11 0, vI x0, vI x1]) (Fn_X11_heard m [vR 11 0, vI x0, vI x1]) (fun M => Pre_X12_heard M [vR 12 0, vI x0, vI x1]) (fun M => Fn_X12_heard M [vR 12 0, vI x0, vI x1]) := LWI_of (PR_heard h.1 x0 x1) (OK_heard h.1 x0 x1) (TY_heard m x0 x1)
theorem TY_keep (m : MM) (x0 : Int32) : tyI (Fn_X11_keep m [vR 11 0, vI x0]).1 := by
  repeat' (first | refine tyI_if ?_ ?_ | exact ⟨_, rfl⟩)
theorem LW_keep {m : MM} (h : INV m) (x0 : Int32) : LWI (Pre_X11_keep m [vR 11 0, vI x0]) (Fn_X11_keep m [vR 11 0, vI x0]) (fun M => Pre_X12_keep M [vR 12 0, vI x0]) (fun M => Fn_X12_keep M [vR 12 0, vI x0]) := LWI_of (PR_keep h.1 x0) (OK_keep h.1 x0) (TY_keep m x0)
theorem TY_lacks (m : MM) (x0 : Int32) (x1 : Int32) : tyI (Fn_X11_lacks m [vR 11 0, vI x0, vI x1]).1 := by
  repeat' (first | refine tyI_if ?_ ?_ | exact ⟨_, rfl⟩)
theorem LW_lacks {m : MM} (h : INV m) (x0 : Int32) (x1 : Int32) : LWI (Pre_X11_lacks m [vR 11 0, vI x0, vI x1]) (Fn_X11_lacks m [vR 11 0, vI x0, vI x1]) (fun M => Pre_X12_lacks M [vR 12 0, vI x0, vI x1]) (fun M => Fn_X12_lacks M [vR 12 0, vI x0, vI x1]) := LWI_of (PR_lacks h.1 x0 x1) (OK_lacks h.1 x0 x1) (TY_lacks m x0 x1)
theorem TY_least (m : MM) (x0 : Int32) (x1 : Int32) (x2 : Int32) : tyI (Fn_X11_least m [vR 11 0, vI x0, vI x1, vI x2]).1 := by
  repeat' (first | refine tyI_if ?_ ?_ | exact ⟨_, rfl⟩)
theorem LW_least {m : MM} (h : INV m) (x0 : Int32) (x1 : Int32) (x2 : Int32) : LWI (Pre_X11_least m [vR 11 0, vI x0, vI x1, vI x2]) (Fn_X11_least m [vR 11 0, vI x0, vI x1, vI x2]) (fun M => Pre_X12_least M [vR 12 0, vI x0, vI x1, vI x2]) (fun M => Fn_X12_least M [vR 12 0, vI x0, vI x1, vI x2]) := LWI_of (PR_least h.1 x0 x1 x2) (OK_least h.1 x0 x1 x2) (TY_least m x0 x1 x2)
theorem TY_leastSet (m : MM) (x0 : Int32) (x1 : Int32) (x2 : Int32) : tyI (Fn_X11_leastSet m [vR 11 0, vI x0, vI x1, vI x2]).1 := by
  repeat' (first | refine tyI_if ?_ ?_ | exact ⟨_, rfl⟩)
theorem LW_leastSet {m : MM} (h : INV m) (x0 : Int32) (x1 : Int32) (x2 : Int32) : LWI (Pre_X11_leastSet m [vR 11 0, vI x0, vI x1, vI x2]) (Fn_X11_leastSet m [vR 11 0, vI x0, vI x1, vI x2]) (fun M => Pre_X12_leastSet M [vR 12 0, vI x0, vI x1, vI x2]) (fun M => Fn_X12_leastSet M [vR 12 0, vI x0, vI x1, vI x2]) := LWI_of (PR_leastSet h.1 x0 x1 x2) (OK_leastSet h.1 x0 x1 x2) (TY_leastSet m x0 x1 x2)
theorem TY_lies (m : MM) (x0 : Int32) (x1 : Int32) (x2 : Int32) : tyI (Fn_X11_lies m [vR 11 0, vI x0, vI x1, vI x2]).1 := by
  repeat' (first | refine tyI_if ?_ ?_ | exact ⟨_, rfl⟩)
theorem LW_lies {m : MM} (h : INV m) (x0 : Int32) (x1 : Int32) (x2 : Int32) : LWI (Pre_X11_lies m [vR 11 0, vI x0, vI x1, vI x2]) (Fn_X11_lies m [vR 11 0, vI x0, vI x1, vI x2]) (fun M => Pre_X12_lies M [vR 12 0, vI x0, vI x1, vI x2]) (fun M => Fn_X12_lies M [vR 12 0, vI x0, vI x1, vI x2]) := LWI_of (PR_lies h.1 x0 x1 x2) (OK_lies h.1 x0 x1 x2) (TY_lies m x0 x1 x2)
theorem TY_like (m : MM) (x0 : Int32) (x1 : Int32) (x2 : Int32) : tyI (Fn_X11_like m [vR 11 0, vI x0, vI x1, vI x2]).1 := by
  repeat' (first | refine tyI_if ?_ ?_ | exact ⟨_, rfl⟩)
theorem LW_like {m : MM} (h : INV m) (x0 : Int32) (x1 : Int32) (x2 : Int32) : LWI (Pre_X11_like m [vR 11 0, vI x0, vI x1, vI x2]) (Fn_X11_like m [vR 11 0, vI x0, vI x1, vI x2]) (fun M => Pre_X12_like M [vR 12 0, vI x0, vI x1, vI x2]) (fun M => Fn_X12_like M [vR 12 0, vI x0, vI x1, vI x2]) := LWI_of (PR_like h.1 x0 x1 x2) (OK_like h.1 x0 x1 x2) (TY_like m x0 x1 x2)
theorem TY_likes (m : MM) (x0 : Int32) (x1 : Int32) : tyI (Fn_X11_likes m [vR 11 0, vI x0, vI x1]).1 := by
  repeat' (first | refine tyI_if ?_ ?_ | exact ⟨_, rfl⟩)
theorem LW_likes {m : MM} (h : INV m) (x0 : Int32) (x1 : Int32) : LWI (Pre_X11_likes m [vR 11 0, vI x0, vI x1]) (Fn_X11_likes m [vR 11 0, vI x0, vI x1]) (fun M => Pre_X12_likes M [vR 12 0, vI x0, vI x1]) (fun M => Fn_X12_likes M [vR 12 0, vI x0, vI x1]) := LWI_of (PR_likes h.1 x0 x1) (OK_likes h.1 x0 x1) (TY_likes m x0 x1)
theorem TY_live (m : MM) (x0 : Int32) : tyI (Fn_X11_live m [vR 11 0, vI x0]).1 := by
  repeat' (first | refine tyI_if ?_ ?_ | exact ⟨_, rfl⟩)
theorem LW_live {m : MM} (h : INV m) (x0 : Int32) : LWI (Pre_X11_live m [vR 11 0, vI x0]) (Fn_X11_live m [vR 11 0, vI x0]) (fun M => Pre_X12_live M [vR 12 0, vI x0]) (fun M => Fn_X12_live M [vR 12 0, vI x0]) := LWI_of (PR_live h.1 x0) (OK_live h.1 x0) (TY_live m x0)
theorem TY_lived (m : MM) (x0 : Int32) : tyI (Fn_X11_lived m [vR 11 0, vI x0]).1 := by
  repeat' (first | refine tyI_if ?_ ?_ | exact ⟨_, rfl⟩)
theorem LW_lived {m : MM} (h : INV m) (x0 : Int32) : LWI (Pre_X11_lived m [vR 11 0, vI x0]) (Fn_X11_lived m [vR 11 0, vI x0]) (fun M => Pre_X12_lived M [vR 12 0, vI x0]) (fun M => Fn_X12_lived M [vR 12 0, vI x0]) := LWI_of (PR_lived h.1 x0) (OK_lived h.1 x0) (TY_lived m x0)
theorem TY_maid (m : MM) (x0 : Int32) (x1 : Int32) : tyI (Fn_X11_maid m [vR 11 0, vI x0, vI x1]).1 := by
  repeat' (first | refine tyI_if ?_ ?_ | exact ⟨_, rfl⟩)
theorem LW_maid {m : MM} (h : INV m) (x0 : Int32) (x1 : Int32) : LWI (Pre_X11_maid m [vR 11 0, vI x0, vI x1]) (Fn_X11_maid m [vR 11 0, vI x0, vI x1]) (fun M => Pre_X12_maid M [vR 12 0, vI x0, vI x1]) (fun M => Fn_X12_maid M [vR 12 0, vI x0, vI x1]) := LWI_of (PR_maid h.1 x0 x1) (OK_maid h.1 x0 x1) (TY_maid m x0 x1)
theorem TY_mark (m : MM)  : tyI (Fn_X11_mark m [vR 11 0]).1 := by
  repeat' (first | refine tyI_if ?_ ?_ | exact ⟨_, rfl⟩)
theorem LW_mark {m : MM} (h : INV m)  : LWI (Pre_X11_mark m [vR 11 0]) (Fn_X11_mark m [vR 11 0]) (fun M => Pre_X12_mark M [vR 12 0]) (fun M => Fn_X12_mark M [vR 12 0]) := LWI_of (PR_mark h.1 ) (OK_mark h.1 ) (TY_mark m )
theorem TY_may (m : MM) (x0 : Int32) : tyI (Fn_X11_may m [vR 11 0, vI x0]).1 := by
  repeat' (first | refine tyI_if ?_ ?_ | exact ⟨_, rfl⟩)
theorem LW_may {m : MM} (h : INV m) (x0 : Int32) : LWI (Pre_X11_may m [vR 11 0, vI x0]) (Fn_X11_may m [vR 11 0, vI x0]) (fun M => Pre_X12_may M [vR 12 0, vI x0]) (fun M => Fn_X12_may M [vR 12 0, vI x0]) := LWI_of (PR_may h.1 x0) (OK_may h.1 x0) (TY_may m x0)
theorem TY_mean (m : MM) (x0 : Int32) (x1 : Int32) (x2 : Int32) : tyI (Fn_X11_mean m [vR 11 0, vI x0, vI x1, vI x2]).1 := by
  repeat' (first | refine tyI_if ?_ ?_ | exact ⟨_, rfl⟩)
theorem LW_mean {m : MM} (h : INV m) (x0 : Int32) (x1 : Int32) (x2 : Int32) : LWI (Pre_X11_mean m [vR 11 0, vI x0, vI x1, vI x2]) (Fn_X11_mean m [vR 11 0, vI x0, vI x1, vI x2]) (fun M => Pre_X12_mean M [vR 12 0, vI x0, vI x1, vI x2]) (fun M => Fn_X12_mean M [vR 12 0, vI x0, vI x1, vI x2]) := LWI_of (PR_mean h.1 x0 x1 x2) (OK_mean h.1 x0 x1 x2) (TY_mean m x0 x1 x2)
theorem TY_most (m : MM) (x0 : Int32) (x1 : Int32) (x2 : Int32) : tyI (Fn_X11_most m [vR 11 0, vI x0, vI x1, vI x2]).1 := by
  repeat' (first | refine tyI_if ?_ ?_ | exact ⟨_, rfl⟩)
theorem LW_most {m : MM} (h : INV m) (x0 : Int32) (x1 : Int32) (x2 : Int32) : LWI (Pre_X11_most m [vR 11 0, vI x0, vI x1, vI x2]) (Fn_X11_most m [vR 11 0, vI x0, vI x1, vI x2]) (fun M => Pre_X12_most M [vR 12 0, vI x0, vI x1, vI x2]) (fun M => Fn_X12_most M [vR 12 0, vI x0, vI x1, vI x2]) := LWI_of (PR_most h.1 x0 x1 x2) (OK_most h.1 x0 x1 x2) (TY_most m x0 x1 x2)
theorem TY_needs (m : MM) (x0 : Int32) : tyI (Fn_X11_needs m [vR 11 0, vI x0]).1 := by
  repeat' (first | refine tyI_if ?_ ?_ | exact ⟨_, rfl⟩)
theorem LW_needs {m : MM} (h : INV m) (x0 : Int32) : LWI (Pre_X11_needs m [vR 11 0, vI x0]) (Fn_X11_needs m [vR 11 0, vI x0]) (fun M => Pre_X12_needs M [vR 12 0, vI x0]) (fun M => Fn_X12_needs M [vR 12 0, vI x0]) := LWI_of (PR_needs h.1 x0) (OK_needs h.1 x0) (TY_needs m x0)
theorem TY_never (m : MM) (x0 : Int32) : tyI (Fn_X11_never m [vR 11 0, vI x0]).1 := by
  repeat' (first | refine tyI_if ?_ ?_ | exact ⟨_, rfl⟩)
theorem LW_never {m : MM} (h : INV m) (x0 : Int32) : LWI (Pre_X11_never m [vR 11 0, vI x0]) (Fn_X11_never m [vR 11 0, vI x0]) (fun M => Pre_X12_never M [vR 12 0, vI x0]) (fun M => Fn_X12_never M [vR 12 0, vI x0]) := LWI_of (PR_never h.1 x0) (OK_never h.1 x0) (TY_never m x0)
theorem TY_orders (m : MM) (x0 : Int32) : tyL (Fn_X11_orders m [vR 11 0, vI x0]).1 := by
  repeat' (first | refine tyL_if ?_ ?_ | exact ⟨_, rfl⟩)
theorem LW_orders {m : MM} (h : INV m) (x0 : Int32) : LWL (Pre_X11_orders m [vR 11 0, vI x0]) (Fn_X11_orders m [vR 11 0, vI x0]) (fun M => Pre_X12_orders M [vR 12 0, vI x0]) (fun M => Fn_X12_orders M [vR 12 0, vI x0]) := LWL_of (PR_orders h.1 x0) (OK_orders h.1 x0) (TY_orders m x0)
theorem TY_pour (m : MM) (x0 : Int32) (x1 : Int32) (x2 : Int32) (x3 : Int32) (x4 : Int32) : tyI (Fn_X11_pour m [vR 11 0, vI x0, vI x1, vI x2, vI x3, vI x4]).1 := by
  repeat' (first | refine tyI_if ?_ ?_ | exact ⟨_, rfl⟩)
theorem LW_pour {m : MM} (h : INV m) (x0 : Int32) (x1 : Int32) (x2 : Int32) (x3 : Int32) (x4 : Int32) : LWI (Pre_X11_pour m [vR 11 0, vI x0, vI x1, vI x2, vI x3, vI x4]) (Fn_X11_pour m [vR 11 0, vI x0, vI x1, vI x2, vI x3, vI x4]) (fun M => Pre_X12_pour M [vR 12 0, vI x0, vI x1, vI x2, vI x3, vI x4]) (fun M => Fn_X12_pour M [vR 12 0, vI x0, vI x1, vI x2, vI x3, vI x4]) := LWI_of (PR_pour h.1 x0 x1 x2 x3 x4) (OK_pour h.1 x0 x1 x2 x3 x4) (TY_pour m x0 x1 x2 x3 x4)
theorem TY_proud (m : MM) (x0 : Int32) : tyI (Fn_X11_proud m [vR 11 0, vI x0]).1 := by
  repeat' (first | refine tyI_if ?_ ?_ | exact ⟨_, rfl⟩)
theorem LW_proud {m : MM} (h : INV m) (x0 : Int32) : LWI (Pre_X11_proud m [vR 11 0, vI x0]) (Fn_X11_proud m [vR 11 0, vI x0]) (fun M => Pre_X12_proud M [vR 12 0, vI x0]) (fun M => Fn_X12_proud M [vR 12 0, vI x0]) := LWI_of (PR_proud h.1 x0) (OK_proud h.1 x0) (TY_proud m x0)
theorem TY_read (m : MM) (x0 : Int32) (x1 : Int32) : tyL (Fn_X11_read m [vR 11 0, vI x0, vI x1]).1 := by
  repeat' (first | refine tyL_if ?_ ?_ | exact ⟨_, rfl⟩)
theorem LW_read {m : MM} (h : INV m) (x0 : Int32) (x1 : Int32) : LWL (Pre_X11_read m [vR 11 0, vI x0, vI x1]) (Fn_X11_read m [vR 11 0, vI x0, vI x1]) (fun M => Pre_X12_read M [vR 12 0, vI x0, vI x1]) (fun M => Fn_X12_read M [vR 12 0, vI x0, vI x1]) := LWL_of (PR_read h.1 x0 x1) (OK_read h.1 x0 x1) (TY_read m x0 x1)
theorem TY_refusals (m : MM)  : tyI (Fn_X11_refusals m [vR 11 0]).1 := by
  repeat' (first | refine tyI_if ?_ ?_ | exact ⟨_, rfl⟩)
theorem LW_refusals {m : MM} (h : INV m)  : LWI (Pre_X11_refusals m [vR 11 0]) (Fn_X11_refusals m [vR 11 0]) (fun M => Pre_X12_refusals M [vR 12 0]) (fun M => Fn_X12_refusals M [vR 12 0]) := LWI_of (PR_refusals h.1 ) (OK_refusals h.1 ) (TY_refusals m )
theorem TY_rivals (m : MM) (x0 : Int32) (x1 : Int32) (x2 : Int32) : tyI (Fn_X11_rivals m [vR 11 0, vI x0, vI x1, vI x2]).1 := by
  repeat' (first | refine tyI_if ?_ ?_ | exact ⟨_, rfl⟩)
theorem LW_rivals {m : MM} (h : INV m) (x0 : Int32) (x1 : Int32) (x2 : Int32) : LWI (Pre_X11_rivals m [vR 11 0, vI x0, vI x1, vI x2]) (Fn_X11_rivals m [vR 11 0, vI x0, vI x1, vI x2]) (fun M => Pre_X12_rivals M [vR 12 0, vI x0, vI x1, vI x2]) (fun M => Fn_X12_rivals M [vR 12 0, vI x0, vI x1, vI x2]) := LWI_of (PR_rivals h.1 x0 x1 x2) (OK_rivals h.1 x0 x1 x2) (TY_rivals m x0 x1 x2)
theorem TY_says (m : MM) (x0 : Int32) (x1 : Int32) : tyI (Fn_X11_says m [vR 11 0, vI x0, vI x1]).1 := by
  repeat' (first | refine tyI_if ?_ ?_ | exact ⟨_, rfl⟩)
theorem LW_says {m : MM} (h : INV m) (x0 : Int32) (x1 : Int32) : LWI (Pre_X11_says m [vR 11 0, vI x0, vI x1]) (Fn_X11_says m [vR 11 0, vI x0, vI x1]) (fun M => Pre_X12_says M [vR 12 0, vI x0, vI x1]) (fun M => Fn_X12_says M [vR 12 0, vI x0, vI x1]) := LWI_of (PR_says h.1 x0 x1) (OK_says h.1 x0 x1) (TY_says m x0 x1)
theorem TY_share (m : MM) (x0 : Int32) (x1 : Int32) : tyI (Fn_X11_share m [vR 11 0, vI x0, vI x1]).1 := by
  repeat' (first | refine tyI_if ?_ ?_ | exact ⟨_, rfl⟩)
theorem LW_share {m : MM} (h : INV m) (x0 : Int32) (x1 : Int32) : LWI (Pre_X11_share m [vR 11 0, vI x0, vI x1]) (Fn_X11_share m [vR 11 0, vI x0, vI x1]) (fun M => Pre_X12_share M [vR 12 0, vI x0, vI x1]) (fun M => Fn_X12_share M [vR 12 0, vI x0, vI x1]) := LWI_of (PR_share h.1 x0 x1) (OK_share h.1 x0 x1) (TY_share m x0 x1)
theorem TY_soonest (m : MM) (x0 : Int32) (x1 : Int32) : tyI (Fn_X11_soonest m [vR 11 0, vI x0, vI x1]).1 := by
  repeat' (first | refine tyI_if ?_ ?_ | exact ⟨_, rfl⟩)
theorem LW_soonest {m : MM} (h : INV m) (x0 : Int32) (x1 : Int32) : LWI (Pre_X11_soonest m [vR 11 0, vI x0, vI x1]) (Fn_X11_soonest m [vR 11 0, vI x0, vI x1]) (fun M => Pre_X12_soonest M [vR 12 0, vI x0, vI x1]) (fun M => Fn_X12_soonest M [vR 12 0, vI x0, vI x1]) := LWI_of (PR_soonest h.1 x0 x1) (OK_soonest h.1 x0 x1) (TY_soonest m x0 x1)
theorem TY_status (m : MM)  : tyI (Fn_X11_status m [vR 11 0]).1 := by
  repeat' (first | refine tyI_if ?_ ?_ | exact ⟨_, rfl⟩)
theorem LW_status {m : MM} (h : INV m)  : LWI (Pre_X11_status m [vR 11 0]) (Fn_X11_status m [vR 11 0]) (fun M => Pre_X12_status M [vR 12 0]) (fun M => Fn_X12_status M [vR 12 0]) := LWI_of (PR_status h.1 ) (OK_status h ) (TY_status m )
theorem TY_suitor (m : MM) (x0 : Int32) (x1 : Int32) : tyI (Fn_X11_suitor m [vR 11 0, vI x0, vI x1]).1 := by
  repeat' (first | refine tyI_if ?_ ?_ | exact ⟨_, rfl⟩)
theorem LW_suitor {m : MM} (h : INV m) (x0 : Int32) (x1 : Int32) : LWI (Pre_X11_suitor m [vR 11 0, vI x0, vI x1]) (Fn_X11_suitor m [vR 11 0, vI x0, vI x1]) (fun M => Pre_X12_suitor M [vR 12 0, vI x0, vI x1]) (fun M => Fn_X12_suitor M [vR 12 0, vI x0, vI x1]) := LWI_of (PR_suitor h.1 x0 x1) (OK_suitor h.1 x0 x1) (TY_suitor m x0 x1)
theorem TY_thing (m : MM) (x0 : Int32) (x1 : Int32) : tyI (Fn_X11_thing m [vR 11 0, vI x0, vI x1]).1 := by
  repeat' (first | refine tyI_if ?_ ?_ | exact ⟨_, rfl⟩)
theorem LW_thing {m : MM} (h : INV m) (x0 : Int32) (x1 : Int32) : LWI (Pre_X11_thing m [vR 11 0, vI x0, vI x1]) (Fn_X11_thing m [vR 11 0, vI x0, vI x1]) (fun M => Pre_X12_thing M [vR 12 0, vI x0, vI x1]) (fun M => Fn_X12_thing M [vR 12 0, vI x0, vI x1]) := LWI_of (PR_thing h.1 x0 x1) (OK_thing h.1 x0 x1) (TY_thing m x0 x1)
theorem TY_toFair (m : MM)  : tyI (Fn_X11_toFair m [vR 11 0]).1 := by
  repeat' (first | refine tyI_if ?_ ?_ | exact ⟨_, rfl⟩)
theorem LW_toFair {m : MM} (h : INV m)  : LWI (Pre_X11_toFair m [vR 11 0]) (Fn_X11_toFair m [vR 11 0]) (fun M => Pre_X12_toFair M [vR 12 0]) (fun M => Fn_X12_toFair M [vR 12 0]) := LWI_of (PR_toFair h.1 ) (OK_toFair h.1 ) (TY_toFair m )
theorem TY_told (m : MM) (x0 : Int32) : tyI (Fn_X11_told m [vR 11 0, vI x0]).1 := by
  repeat' (first | refine tyI_if ?_ ?_ | exact ⟨_, rfl⟩)
theorem LW_told {m : MM} (h : INV m) (x0 : Int32) : LWI (Pre_X11_told m [vR 11 0, vI x0]) (Fn_X11_told m [vR 11 0, vI x0]) (fun M => Pre_X12_told M [vR 12 0, vI x0]) (fun M => Fn_X12_told M [vR 12 0, vI x0]) := LWI_of (PR_told h.1 x0) (OK_told h.1 x0) (TY_told m x0)
theorem TY_top (m : MM)  : tyL (Fn_X11_top m [vR 11 0]).1 := by
  repeat' (first | refine tyL_if ?_ ?_ | exact ⟨_, rfl⟩)
theorem LW_top {m : MM} (h : INV m)  : LWL (Pre_X11_top m [vR 11 0]) (Fn_X11_top m [vR 11 0]) (fun M => Pre_X12_top M [vR 12 0]) (fun M => Fn_X12_top M [vR 12 0]) := LWL_of (PR_top h.1 ) (OK_top h ) (TY_top m )
theorem TY_tray (m : MM) (x0 : Int32) (x1 : Int32) (x2 : Int32) : tyI (Fn_X11_tray m [vR 11 0, vI x0, vI x1, vI x2]).1 := by
  repeat' (first | refine tyI_if ?_ ?_ | exact ⟨_, rfl⟩)
theorem LW_tray {m : MM} (h : INV m) (x0 : Int32) (x1 : Int32) (x2 : Int32) : LWI (Pre_X11_tray m [vR 11 0, vI x0, vI x1, vI x2]) (Fn_X11_tray m [vR 11 0, vI x0, vI x1, vI x2]) (fun M => Pre_X12_tray M [vR 12 0, vI x0, vI x1, vI x2]) (fun M => Fn_X12_tray M [vR 12 0, vI x0, vI x1, vI x2]) := LWI_of (PR_tray h.1 x0 x1 x2) (OK_tray h.1 x0 x1 x2) (TY_tray m x0 x1 x2)
theorem TY_undo (m : MM)  : tyI (Fn_X11_undo m [vR 11 0]).1 := by
  repeat' (first | refine tyI_if ?_ ?_ | exact ⟨_, rfl⟩)
theorem LW_undo {m : MM} (h : INV m)  : LWI (Pre_X11_undo m [vR 11 0]) (Fn_X11_undo m [vR 11 0]) (fun M => Pre_X12_undo M [vR 12 0]) (fun M => Fn_X12_undo M [vR 12 0]) := LWI_of (PR_undo h.1 ) (OK_undo h.1 ) (TY_undo m )
theorem TY_valley (m : MM) (x0 : Int32) : tyI (Fn_X11_valley m [vR 11 0, vI x0]).1 := by
  repeat' (first | refine tyI_if ?_ ?_ | exact ⟨_, rfl⟩)
theorem LW_valley {m : MM} (h : INV m) (x0 : Int32) : LWI (Pre_X11_valley m [vR 11 0, vI x0]) (Fn_X11_valley m [vR 11 0, vI x0]) (fun M => Pre_X12_valley M [vR 12 0, vI x0]) (fun M => Fn_X12_valley M [vR 12 0, vI x0]) := LWI_of (PR_valley h.1 x0) (OK_valley h.1 x0) (TY_valley m x0)
theorem TY_village (m : MM) (x0 : Int32) (x1 : Int32) : tyI (Fn_X11_village m [vR 11 0, vI x0, vI x1]).1 := by
  repeat' (first | refine tyI_if ?_ ?_ | exact ⟨_, rfl⟩)
theorem LW_village {m : MM} (h : INV m) (x0 : Int32) (x1 : Int32) : LWI (Pre_X11_village m [vR 11 0, vI x0, vI x1]) (Fn_X11_village m [vR 11 0, vI x0, vI x1]) (fun M => Pre_X12_village M [vR 12 0, vI x0, vI x1]) (fun M => Fn_X12_village M [vR 12 0, vI x0, vI x1]) := LWI_of (PR_village h.1 x0 x1) (OK_village h.1 x0 x1) (TY_village m x0 x1)
theorem TY_villager (m : MM) (x0 : Int32) (x1 : Int32) : tyI (Fn_X11_villager m [vR 11 0, vI x0, vI x1]).1 := by
  repeat' (first | refine tyI_if ?_ ?_ | exact ⟨_, rfl⟩)
theorem LW_villager {m : MM} (h : INV m) (x0 : Int32) (x1 : Int32) : LWI (Pre_X11_villager m [vR 11 0, vI x0, vI x1]) (Fn_X11_villager m [vR 11 0, vI x0, vI x1]) (fun M => Pre_X12_villager M [vR 12 0, vI x0, vI x1]) (fun M => Fn_X12_villager M [vR 12 0, vI x0, vI x1]) := LWI_of (PR_villager h.1 x0 x1) (OK_villager h.1 x0 x1) (TY_villager m x0 x1)
theorem TY_ways (m : MM) (x0 : Int32) : tyL (Fn_X11_ways m [vR 11 0, vI x0]).1 := by
  repeat' (first | refine tyL_if ?_ ?_ | exact ⟨_, rfl⟩)
theorem LW_ways {m : MM} (h : INV m) (x0 : Int32) : LWL (Pre_X11_ways m [vR 11 0, vI x0]) (Fn_X11_ways m [vR 11 0, vI x0]) (fun M => Pre_X12_ways M [vR 12 0, vI x0]) (fun M => Fn_X12_ways M [vR 12 0, vI x0]) := LWL_of (PR_ways h.1 x0) (OK_ways h.1 x0) (TY_ways m x0)
theorem TY_wed (m : MM) (x0 : Int32) (x1 : Int32) : tyI (Fn_X11_wed m [vR 11 0, vI x0, vI x1]).1 := by
  repeat' (first | refine tyI_if ?_ ?_ | exact ⟨_, rfl⟩)
theorem LW_wed {m : MM} (h : INV m) (x0 : Int32) (x1 : Int32) : LWI (Pre_X11_wed m [vR 11 0, vI x0, vI x1]) (Fn_X11_wed m [vR 11 0, vI x0, vI x1]) (fun M => Pre_X12_wed M [vR 12 0, vI x0, vI x1]) (fun M => Fn_X12_wed M [vR 12 0, vI x0, vI x1]) := LWI_of (PR_wed h.1 x0 x1) (OK_wed h.1 x0 x1) (TY_wed m x0 x1)
theorem TY_week (m : MM)  : tyI (Fn_X11_week m [vR 11 0]).1 := by
  repeat' (first | refine tyI_if ?_ ?_ | exact ⟨_, rfl⟩)
theorem LW_week {m : MM} (h : INV m)  : LWI (Pre_X11_week m [vR 11 0]) (Fn_X11_week m [vR 11 0]) (fun M => Pre_X12_week M [vR 12 0]) (fun M => Fn_X12_week M [vR 12 0]) := LWI_of (PR_week h.1 ) (OK_week h.1 ) (TY_week m )
theorem TY_within (m : MM) (x0 : Int32) (x1 : Int32) : tyI (Fn_X11_within m [vR 11 0, vI x0, vI x1]).1 := by
  repeat' (first | refine tyI_if ?_ ?_ | exact ⟨_, rfl⟩)
theorem LW_within {m : MM} (h : INV m) (x0 : Int32) (x1 : Int32) : LWI (Pre_X11_within m [vR 11 0, vI x0, vI x1]) (Fn_X11_within m [vR 11 0, vI x0, vI x1]) (fun M => Pre_X12_within M [vR 12 0, vI x0, vI x1]) (fun M => Fn_X12_within M [vR 12 0, vI x0, vI x1]) := LWI_of (PR_within h.1 x0 x1) (OK_within h.1 x0 x1) (TY_within m x0 x1)
theorem TY_wouldHave (m : MM) (x0 : Int32) : tyI (Fn_X11_wouldHave m [vR 11 0, vI x0]).1 := by
  repeat' (first | refine tyI_if ?_ ?_ | exact ⟨_, rfl⟩)
theorem LW_wouldHave {m : MM} (h : INV m) (x0 : Int32) : LWI (Pre_X11_wouldHave m [vR 11 0, vI x0]) (Fn_X11_wouldHave m [vR 11 0, vI x0]) (fun M => Pre_X12_wouldHave M [vR 12 0, vI x0]) (fun M => Fn_X12_wouldHave M [vR 12 0, vI x0]) := LWI_of (PR_wouldHave h.1 x0) (OK_wouldHave h.1 x0) (TY_wouldHave m x0)
theorem TY_write (m : MM) (x0 : Int32) (x1 : Int32) (x2 : Int64) : tyI (Fn_X11_write m [vR 11 0, vI x0, vI x1, vL x2]).1 := by
  repeat' (first | refine tyI_if ?_ ?_ | exact ⟨_, rfl⟩)
theorem LW_write {m : MM} (h : INV m) (x0 : Int32) (x1 : Int32) (x2 : Int64) : LWI (Pre_X11_write m [vR 11 0, vI x0, vI x1, vL x2]) (Fn_X11_write m [vR 11 0, vI x0, vI x1, vL x2]) (fun M => Pre_X12_write M [vR 12 0, vI x0, vI x1, vL x2]) (fun M => Fn_X12_write M [vR 12 0, vI x0, vI x1, vL x2]) := LWI_of (PR_write h.1 x0 x1 x2) (OK_write h.1 x0 x1 x2) (TY_write m x0 x1 x2)
theorem TY_years (m : MM) (x0 : Int32) : tyI (Fn_X11_years m [vR 11 0, vI x0]).1 := by
  repeat' (first | refine tyI_if ?_ ?_ | exact ⟨_, rfl⟩)
theorem LW_years {m : MM} (h : INV m) (x0 : Int32) : LWI (Pre_X11_years m [vR 11 0, vI x0]) (Fn_X11_years m [vR 11 0, vI x0]) (fun M => Pre_X12_years M [vR 12 0, vI x0]) (fun M => Fn_X12_years M [vR 12 0, vI x0]) := LWI_of (PR_years h.1 x0) (OK_years h.1 x0) (TY_years m x0)
theorem TY_yes (m : MM) (x0 : Int32) (x1 : Int32) : tyI (Fn_X11_yes m [vR 11 0, vI x0, vI x1]).1 := by
  repeat' (first | refine tyI_if ?_ ?_ | exact ⟨_, rfl⟩)
theorem LW_yes {m : MM} (h : INV m) (x0 : Int32) (x1 : Int32) : LWI (Pre_X11_yes m [vR 11 0, vI x0, vI x1]) (Fn_X11_yes m [vR 11 0, vI x0, vI x1]) (fun M => Pre_X12_yes M [vR 12 0, vI x0, vI x1]) (fun M => Fn_X12_yes M [vR 12 0, vI x0, vI x1]) := LWI_of (PR_yes h.1 x0 x1) (OK_yes h.1 x0 x1) (TY_yes m x0 x1)

end
