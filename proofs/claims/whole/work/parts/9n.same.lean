/-! PART 9N: plans over agreeing valleys -/

noncomputable section
theorem AG_VA {a b : Nat → Int32} {ns nm nt : Nat} (h : AG a b ns nm nt) (hV : VA a ns nm nt) : VA b ns nm nt := by
  obtain ⟨h0, h1, h2, h3, h4, h5⟩ := hV
  refine ⟨by rw [← AG_0 h (by decide)]; exact h0, by rw [← AG_0 h (by decide)]; exact h1, by rw [← AG_0 h (by decide)]; exact h2, fun j hj => ?_, by rw [← AG_0 h (by decide)]; exact h4, by rw [← AG_0 h (by decide)]; exact h5⟩
  rw [← (AG_t h hj).1]
  exact h3 j hj
theorem AG_ah {a b : Nat → Int32} {ns nm nt : Nat} (h : AG a b ns nm nt) {t : Nat} (ht : t < nt) : ahN a t = ahN b t := by
  unfold ahN
  rw [(AG_t h ht).2.2]
theorem AG_BO {a b : Nat → Int32} {ns nm nt : Nat} (h : AG a b ns nm nt) (hB : BO a ns nm nt) : BO b ns nm nt := by
  obtain ⟨h1, h2, h3, h4, ⟨G, hG, eG, hG2⟩, h6⟩ := hB
  refine ⟨fun s hs => by rw [← (AG_s h hs).1]; exact h1 s hs, fun j hj => by rw [← (AG_t h hj).2.1]; exact h2 j hj, fun t d ht hd => by rw [← AG_y h ht hd]; exact h3 t d ht hd, fun t ht => ?_, ⟨G, hG, by rw [← AG_8 h]; exact eG, fun t ht => ⟨(hG2 t ht).1, fun A hA eA => ?_⟩⟩, by rw [← AG_9 h]; exact h6⟩
  · obtain ⟨A, hA, eA, hA2⟩ := h4 t ht
    refine ⟨A, hA, by rw [← (AG_t h ht).2.2]; exact eA, fun o ho => ⟨(hA2 o ho).1, ?_⟩⟩
    rw [← (AG_t h ht).1, ← (AG_t h (hA2 o ho).1).1]
    exact (hA2 o ho).2
  · exact (hG2 t ht).2 A hA (by rw [(AG_t h (hG2 t ht).1).2.2]; exact eA)
theorem AG_hsA {a b : Nat → Int32} {ns nm nt : Nat} (h : AG a b ns nm nt) (hV : VA a ns nm nt) (s : Int32) : hsA a s = hsA b s := by
  unfold hsA
  rw [AG_thA h hV, AG_8 h, AG_9 h]
theorem AG_vwA {a b : Nat → Int32} {ns nm nt : Nat} (h : AG a b ns nm nt) {i : Nat} (hi : i < ns) (x : Int32) : vwA a i x = vwA b i x := by
  unfold vwA
  rw [AG_0 h (by decide), (AG_s h hi).2.2.1]
theorem AG_CnF {a b : Nat → Int32} {ns nm nt : Nat} (h : AG a b ns nm nt) : ∀ f X, CnF a nt f X ↔ CnF b nt f X
  | 0, _ => Iff.rfl
  | f + 1, X => by
    have e : ∀ t, t < nt → ((CnF a nt f (X ^^^ 2 ^ t) ∧ cnO a t (X ^^^ 2 ^ t)) ↔ (CnF b nt f (X ^^^ 2 ^ t) ∧ cnO b t (X ^^^ 2 ^ t))) := fun t ht => by
      unfold cnO
      rw [AG_CnF h f, (AG_t h ht).2.2, AG_8 h]
    constructor
    · rintro (z | ⟨t, h1, h2, h3⟩)
      · exact Or.inl z
      · exact Or.inr ⟨t, h1, h2, (e t h1).mp h3⟩
    · rintro (z | ⟨t, h1, h2, h3⟩)
      · exact Or.inl z
      · exact Or.inr ⟨t, h1, h2, (e t h1).mpr h3⟩
theorem AG_Cn {a b : Nat → Int32} {ns nm nt : Nat} (h : AG a b ns nm nt) (X : Nat) : Cn a nt X ↔ Cn b nt X := AG_CnF h X X
theorem nd_cg {f g : Nat → Nat} (s : Nat) : ∀ n, (∀ j, j < n → f j = g j) → ndS f s n = ndS g s n := by
  intro n
  induction n with
  | zero => intro _; rfl
  | succ n ih =>
    intro h
    have i1 := ih (fun j hj => h j (by omega))
    have e := h n (by omega)
    unfold ndS
    rw [i1, e]
theorem AG_nd {a b : Nat → Int32} {ns nm nt : Nat} (h : AG a b ns nm nt) (s : Nat) : ndS (ahN a) s nt = ndS (ahN b) s nt := nd_cg s nt (fun _ hj => AG_ah h hj)
theorem AG_ndA {a b : Nat → Int32} {ns nm nt : Nat} (h : AG a b ns nm nt) {t : Nat} (ht : t < nt) : ndA a nt t = ndA b nt t := by
  unfold ndA clo
  rw [AG_ah h ht]
  have e : (fun s => ndS (ahN a) s nt) = (fun s => ndS (ahN b) s nt) := funext fun s => AG_nd h s
  rw [e]
theorem AG_nv {a b : Nat → Int32} {ns nm nt : Nat} (h : AG a b ns nm nt) {t : Nat} (ht : t < nt) : nvP a nt t ↔ nvP b nt t := by
  rw [nv_iff, nv_iff, AG_ndA h ht]
  constructor
  · rintro ⟨o, h1, h2, h3⟩
    exact ⟨o, h1, h2, by rw [← AG_ndA h h1]; exact h3⟩
  · rintro ⟨o, h1, h2, h3⟩
    exact ⟨o, h1, h2, by rw [AG_ndA h h1]; exact h3⟩
theorem AG_GN {a b : Nat → Int32} {ns nm nt : Nat} (h : AG a b ns nm nt) (hG : GNo a nt) : GNo b nt := fun t ht hi => by
  rw [← AG_nv h ht]
  exact hG t ht (by rw [AG_8 h]; exact hi)
theorem AG_okX {a b : Nat → Int32} {ns nm nt : Nat} (h : AG a b ns nm nt) (hV : VA a ns nm nt) {i d : Nat} (hi : i < ns) (hd : d < nm) (H : Nat) (w : Int32) (X : Nat) : okX a nt H i d w X ↔ okX b nt H i d w X := by
  have hnm := hV.2.1.2
  unfold okX vwX
  rw [AG_Cn h, AG_vwA h hi, AG_0 h (show 6 ≤ 6 by decide), AG_hdA h hV _ (show d < 4 by omega), AG_syA h hV _ (show d < 4 by omega), AG_brA h hd]
theorem AG_lsB {a b : Nat → Int32} {ns nm nt : Nat} (h : AG a b ns nm nt) (hV : VA a ns nm nt) {i : Nat} (hi : i < ns) (X : Nat) (o q : Int32) : lsB a i X o q ↔ lsB b i X o q := by
  unfold lsB
  rw [AG_wtA h hV, AG_wtA h hV, AG_vwA h hi, AG_vwA h hi]
theorem cI_cg {p q : Prop} (h : p ↔ q) (x y : Int32) : cI p x y = cI q x y := by
  rw [propext h]
theorem AG_plF {a b : Nat → Int32} {ns nm nt : Nat} (h : AG a b ns nm nt) (hV : VA a ns nm nt) {i d : Nat} (hi : i < ns) (hd : d < nm) (H : Nat) (w q : Int32) : ∀ k, plF a nt H i d w q k = plF b nt H i d w q k
  | 0 => rfl
  | k + 1 => by
    rw [plF, plF, AG_plF h hV hi hd H w q k]
    exact cI_cg (and_congr (AG_okX h hV hi hd H w k) (AG_lsB h hV hi k _ q)) _ _
theorem AG_hsN {a b : Nat → Int32} {ns nm nt : Nat} (h : AG a b ns nm nt) (hV : VA a ns nm nt) (i : Nat) : hsN a i = hsN b i := by
  unfold hsN
  rw [AG_hsA h hV]
theorem AG_plA {a b : Nat → Int32} {ns nm nt : Nat} (h : AG a b ns nm nt) (hV : VA a ns nm nt) {i d : Nat} (hi : i < ns) (hd : d < nm) (w q : Int32) : plA a i d w q = plA b i d w q := by
  unfold plA
  rw [(AG_2 h hV).1, (AG_2 h hV).2, AG_hsN h hV, AG_plF h hV hi hd]
theorem AG_msF {a b : Nat → Int32} {ns nm nt : Nat} (h : AG a b ns nm nt) (hV : VA a ns nm nt) {i d : Nat} (hi : i < ns) (hd : d < nm) (H : Nat) (w : Int32) : ∀ k, msF a nt H i d w k = msF b nt H i d w k
  | 0 => rfl
  | k + 1 => by
    have hnm := hV.2.1.2
    rw [msF, msF, AG_msF h hV hi hd H w k, AG_syA h hV _ (show d < 4 by omega)]
    unfold vwX
    rw [AG_Cn h, AG_vwA h hi, AG_0 h (show 6 ≤ 6 by decide)]
/-- what the class holds once a plan is made, by the words of an agreeing valley -/
theorem AG_PLo {a b : Nat → Int32} {ns nm nt : Nat} (h : AG a b ns nm nt) (hV : VA a ns nm nt) {s d : Nat} (hs : s < ns) (hd : d < nm) {w : Int32} {M : MM} (hP : PLo a s d w M) : PLo b s d w M := by
  have hnm := hV.2.1.2
  unfold PLo vwX at *
  rw [← AG_hdA h hV _ (show d < 4 by omega), ← AG_hsN h hV, (AG_2 h hV).2, ← AG_msF h hV hs hd, ← AG_plA h hV hs hd, ← AG_plA h hV hs hd, ← AG_plA h hV hs hd]
  rw [(AG_2 h hV).1] at hP
  refine ⟨hP.1, hP.2.imp id (fun ⟨Z, F, S, p1, p2, p3, p4, p5, p6, p7, p8, p9, p10, p11, p12, p13⟩ => ⟨Z, F, S, p1, p2, p3, p4, p5, by rw [← AG_wtA h hV]; exact p6, by rw [← AG_wtA h hV]; exact p7, p8, by rw [← AG_vwA h hs]; exact p9, by rw [← AG_vwA h hs]; exact p10, p11, p12, p13⟩)⟩

end
