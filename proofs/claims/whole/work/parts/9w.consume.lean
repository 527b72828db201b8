/-! PART 9W: TOKENS are taken alike -/

noncomputable section
/-- both found the same FAULT -/
def FAo (c M : MM) : Prop := (∃ k, 1 ≤ k ∧ k ≤ 9 ∧ c.1 4 0 9 = nI k ∧ M.1 12 0 18 = nI k) ∧ c.1 4 0 10 = M.1 12 0 17
def RB2 (I : MM → MM → Prop) (p q : PR) : Prop := (p.1 = true ∧ q.1 = true ∧ I p.2 q.2) ∨ (p.1 = false ∧ q.1 = false ∧ FAo p.2 q.2)
def RI2 (I : Int32 → MM → MM → Prop) (p : Int32 × MM) (q : PR) : Prop := (¬ p.1 < 0 ∧ q.1 = true ∧ I p.1 p.2 q.2) ∨ (p.1 < 0 ∧ q.1 = false ∧ FAo p.2 q.2)
def RL2 (I : Int64 → MM → MM → Prop) (p : Int64 × MM) (q : PR) : Prop := (¬ p.1 = 0 ∧ q.1 = true ∧ I p.1 p.2 q.2) ∨ (p.1 = 0 ∧ q.1 = false ∧ FAo p.2 q.2)
theorem RB_bd {I J : MM → MM → Prop} {p q : PR} {f h : MM → PR} (hp : RB2 I p q) (hf : ∀ c M, I c M → RB2 J (f c) (h M)) : RB2 J (pBd p f) (pBd q h) := by
  rcases hp with ⟨h1, h2, h3⟩ | ⟨h1, h2, h3⟩
  · rw [pBd_t h1, pBd_t h2]
    exact hf _ _ h3
  · rw [pBd_f (by rw [h1]; exact Bool.false_ne_true), pBd_f (by rw [h2]; exact Bool.false_ne_true)]
    exact Or.inr ⟨rfl, rfl, h3⟩
theorem RB_bi {I : Int32 → MM → MM → Prop} {J : MM → MM → Prop} {p : Int32 × MM} {q : PR} {f : Int32 → MM → PR} {h : MM → PR} (hp : RI2 I p q) (hf : ∀ v c M, I v c M → RB2 J (f v c) (h M)) : RB2 J (pBi p f) (pBd q h) := by
  rcases hp with ⟨h1, h2, h3⟩ | ⟨h1, h2, h3⟩
  · rw [pBi_t h1, pBd_t h2]
    exact hf _ _ _ h3
  · rw [pBi_f h1, pBd_f (by rw [h2]; exact Bool.false_ne_true)]
    exact Or.inr ⟨rfl, rfl, h3⟩
theorem RB_bl {I : Int64 → MM → MM → Prop} {J : MM → MM → Prop} {p : Int64 × MM} {q : PR} {f : Int64 → MM → PR} {h : MM → PR} (hp : RL2 I p q) (hf : ∀ v c M, I v c M → RB2 J (f v c) (h M)) : RB2 J (pBl p f) (pBd q h) := by
  rcases hp with ⟨h1, h2, h3⟩ | ⟨h1, h2, h3⟩
  · rw [pBl_t h1, pBd_t h2]
    exact hf _ _ _ h3
  · rw [pBl_f h1, pBd_f (by rw [h2]; exact Bool.false_ne_true)]
    exact Or.inr ⟨rfl, rfl, h3⟩
theorem pBd_as (p : PR) (f g : MM → PR) : pBd (pBd p f) g = pBd p (fun m => pBd (f m) g) := by
  by_cases c : p.1 = true
  · rw [pBd_t c, pBd_t c]
  · rw [pBd_f c, pBd_f c]
    exact pBd_f Bool.false_ne_true
theorem pBd_tt (m : MM) (f : MM → PR) : pBd (true, m) f = f m := rfl
/-- while a text is read: what the class held at first, what the model holds -/
def RUo (c0 M0 : MM) (A : Nat → Int32) (N : Nat → Int64) (c M : MM) : Prop := TKR c M ∧ SMo c0 c ∧ c.1 4 0 9 = 0 ∧ M.1 12 0 18 = 0 ∧ M.1 54 0 = A ∧ M.2.1 55 0 = N ∧ (∀ j, j = 17 ∨ 19 ≤ j → M.1 12 0 j = M0.1 12 0 j) ∧ M.1 61 0 = M0.1 61 0
theorem TKR_54 {c M : MM} {f : Nat → Int32} (h : TKR c M) : TKR c (mRow M 54 0 f) := h
theorem TKR_55 {c M : MM} {f : Nat → Int64} (h : TKR c M) : TKR c (mRowL M 55 0 f) := h
theorem ah_hi {M : MM} {j : Nat} (hj : 16 ≤ j) : (ahM M).1 12 0 j = M.1 12 0 j := tkR_hi hj
theorem sp_9 {c : MM} : (spM c).1 4 0 9 = c.1 4 0 9 := by
  unfold spM sp2
  split
  · rfl
  split
  · rfl
  split
  · rfl
  · rfl
theorem RU_st {c0 M0 c M : MM} {A : Nat → Int32} {N : Nat → Int64} (h : RUo c0 M0 A N c M) : RUo c0 M0 A N (spM c) (ahM M) := by
  obtain ⟨h1, h2, h3, h4, h5, h6, h7, h8⟩ := h
  exact ⟨TK_sp h1, SMo_t h2 (SMo_sp c), sp_9.trans h3, (ah_hi (by decide)).trans h4, h5, h6, fun j hj => (ah_hi (by omega)).trans (h7 j hj), h8⟩
theorem RU_54 {c0 M0 c M : MM} {A : Nat → Int32} {N : Nat → Int64} (h : RUo c0 M0 A N c M) (t : Nat) (x : Int32) : RUo c0 M0 (upd A t x) N c (mI M 54 0 t x) := by
  obtain ⟨h1, h2, h3, h4, h5, h6, h7, h8⟩ := h
  refine ⟨h1, h2, h3, h4, ?_, h6, h7, h8⟩
  show upd (M.1 54 0) t x = _
  rw [h5]
/-- the same FAULT -/
theorem fa_eq {c M : MM} {k : Nat} {x : Int32} (h : TKR c M) (h18 : M.1 12 0 18 = 0) (k1 : 1 ≤ k) (k9 : k ≤ 9) (e : (if M.1 12 0 12 = 1 then 1 else x) = nI k) : FAo (faC c (nI k)) (faM M x) := by
  obtain ⟨-, S, B, s, e2, -, -, ⟨h4, h13⟩, -⟩ := h
  unfold faM
  rw [mite_t h18]
  refine ⟨⟨k, k1, k9, rfl, e⟩, ?_⟩
  show c.1 4 0 4 = M.1 12 0 13
  rw [h4, h13]
theorem fa_mi {c M : MM} (h : TKR c M) (h18 : M.1 12 0 18 = 0) : FAo (miC c) (faM M 2) := by
  have h38 := h.1.2.2.2.2.2.2.2.2.1
  unfold miC
  by_cases x : c.1 4 0 6 = 38
  · rw [if_pos x, show (1 : Int32) = nI 1 from rfl]
    exact fa_eq h h18 (by decide) (by decide) (if_pos (h38.mp x))
  · rw [if_neg x, show (2 : Int32) = nI 2 from rfl]
    exact fa_eq h h18 (by decide) (by decide) (if_neg (fun z => x (h38.mpr z)))
theorem fa_k {c M : MM} {k : Nat} (h : TKR c M) (h18 : M.1 12 0 18 = 0) (k1 : 1 ≤ k) (k9 : k ≤ 9) (n : ¬ M.1 12 0 12 = 1) : FAo (faC c (nI k)) (faM M (nI k)) := fa_eq h h18 k1 k9 (if_neg n)
theorem fa_54 {c M : MM} {x : Int32} {t : Nat} {y : Int32} (h : FAo c (faM M x)) : FAo c (faM (mI M 54 0 t y) x) := by
  obtain ⟨h1, h2⟩ := h
  unfold faM mite at *
  by_cases z : M.1 12 0 18 = 0
  · rw [if_pos z] at h1 h2
    have z' : (mI M 54 0 t y).1 12 0 18 = 0 := z
    rw [if_pos z']
    exact ⟨h1, h2⟩
  · rw [if_neg z] at h1 h2
    have z' : ¬ (mI M 54 0 t y).1 12 0 18 = 0 := z
    rw [if_neg z']
    exact ⟨h1, h2⟩
/-- a word that must stand -/
theorem sk_ww {c0 M0 c M : MM} {A : Nat → Int32} {N : Nat → Int64} (h : RUo c0 M0 A N c M) {i : Nat} (hi : i < 30) : RB2 (RUo c0 M0 A N) (skC c (nI i)) (pWW M (nI (kM i))) := by
  have hk := h.1.1.1 i hi
  unfold skC pWW
  by_cases x : c.1 4 0 6 = nI i
  · rw [if_pos x, if_pos (hk.mp x)]
    exact Or.inl ⟨rfl, rfl, RU_st h⟩
  · rw [if_neg x, if_neg (fun z => x (hk.mpr z))]
    exact Or.inr ⟨rfl, rfl, fa_mi h.1 h.2.2.2.1⟩
theorem sk_sg {c0 M0 c M : MM} {A : Nat → Int32} {N : Nat → Int64} (h : RUo c0 M0 A N c M) : RB2 (RUo c0 M0 A N) (skC c 33) (pSg M 59) := by
  have hk := h.1.1.2.2.2.2.1
  unfold skC pSg
  by_cases x : c.1 4 0 6 = 33
  · rw [if_pos x, if_pos (hk.mp x)]
    exact Or.inl ⟨rfl, rfl, RU_st h⟩
  · rw [if_neg x, if_neg (fun z => x (hk.mpr z))]
    exact Or.inr ⟨rfl, rfl, fa_mi h.1 h.2.2.2.1⟩
/-- a number -/
theorem am_nu {c0 M0 c M : MM} {A : Nat → Int32} {N : Nat → Int64} (h : RUo c0 M0 A N c M) {lo hi t : Nat} (hlo : lo ≤ 9999) (hhi : hi ≤ 9999) : RI2 (fun v c' M' => ∃ k, lo ≤ k ∧ k ≤ hi ∧ v = nI k ∧ RUo c0 M0 (upd A t v) N c' M') (amC c (nI lo) (nI hi)) (pNu M t (nI lo) (nI hi)) := by
  obtain ⟨k1, k2, k3, k4, k5, k6, k7, k8, k9, k10, -⟩ := h.1.1
  unfold amC pNu
  by_cases x : c.1 4 0 6 = 32
  · have x2 := k4.mp x
    obtain ⟨v, hv, e1, e2⟩ := k10 x2
    rw [if_pos x, if_pos x2, e1, e2]
    have cnd : (nI v < nI lo ∨ nI hi < nI v) ↔ (v < lo ∨ hi < v) := by rw [nI_ltI (by omega) (by omega), nI_ltI (by omega) (by omega)]
    by_cases y : nI v < nI lo ∨ nI hi < nI v
    · rw [if_pos y, if_pos y]
      exact Or.inr ⟨show (-1 : Int32) < 0 by decide, rfl, fa_k (k := 4) h.1 h.2.2.2.1 (by decide) (by decide) (by rw [x2]; decide)⟩
    · rw [if_neg y, if_neg y]
      have y' : ¬ (v < lo ∨ hi < v) := fun z => y (cnd.mpr z)
      exact Or.inl ⟨n_m1 (by omega), rfl, v, by omega, by omega, rfl, RU_st (RU_54 h t _)⟩
  · rw [if_neg x, if_neg (fun z => x (k4.mpr z))]
    exact Or.inr ⟨show (-1 : Int32) < 0 by decide, rfl, fa_mi h.1 h.2.2.2.1⟩
/-- a number behind a word that may be left out -/
theorem op_op {c0 M0 c M : MM} {A : Nat → Int32} {N : Nat → Int64} (h : RUo c0 M0 A N c M) {i w hi t : Nat} (hi30 : i < 30) (hw : w ≤ hi) (hhi : hi ≤ 9999) (hA : A t = nI w) : RI2 (fun v c' M' => ∃ k, k ≤ hi ∧ v = nI k ∧ RUo c0 M0 (upd A t v) N c' M') (opC c (nI i) (nI w) (nI hi)) (pOp M (nI (kM i)) t 0 (nI hi)) := by
  have hk := h.1.1.1 i hi30
  unfold opC
  by_cases x : c.1 4 0 6 = nI i
  · have e : pTh M (nI (kM i)) = (true, ahM M) := if_pos (hk.mp x)
    rw [if_pos x, pOp_t (by rw [e]), e]
    rcases am_nu (RU_st h) (t := t) (show 0 ≤ 9999 by omega) hhi with ⟨a1, a2, k, -, a3, a4, a5⟩ | z
    · exact Or.inl ⟨a1, a2, k, a3, a4, a5⟩
    · exact Or.inr z
  · have e : pTh M (nI (kM i)) = (false, M) := if_neg (fun z => x (hk.mpr z))
    rw [if_neg x, pOp_f (by rw [e]; exact Bool.false_ne_true), e]
    refine Or.inl ⟨n_m1 (by omega), rfl, w, hw, rfl, ?_⟩
    rw [← hA, upd_self rfl]
    exact h
/-- which name stands -/
theorem fh_eq {c0 M0 c M : MM} {A : Nat → Int32} {N : Nat → Int64} (h : RUo c0 M0 A N c M) {g f b n : Nat} (hN : ∀ i, i < n → RNo (c0.2.1 29 g (f + i)) (N (b + i))) (hn : nmP M) : cfI c g f n = fhA M b n := by
  have hr := h.1.1.2.2.2.2.2.2.2.2.2.2.1 hn
  unfold cfI fhA
  refine fsI_cg n 0 (fun k _ hk => ?_)
  rw [h.2.1.2.1 29 g (by decide), h.2.2.2.2.2.1]
  exact RN_iff (hN k (by omega)) hr
theorem fd_ol {c0 M0 c M : MM} {A : Nat → Int32} {N : Nat → Int64} (h : RUo c0 M0 A N c M) {g f b n : Nat} (hn20 : n ≤ 20) (hN : ∀ i, i < n → RNo (c0.2.1 29 g (f + i)) (N (b + i))) : (∃ k, k < n ∧ nmP M ∧ (fdC c g f n) = (nI k, c) ∧ fhA M b n = nI k) ∨ ((fdC c g f n).1 = -1 ∧ nmP M ∧ fhA M b n = -1 ∧ FAo (fdC c g f n).2 (faM M 3)) ∨ ((fdC c g f n).1 = -1 ∧ ¬ nmP M ∧ FAo (fdC c g f n).2 (faM M 2)) := by
  have k3 := h.1.1.2.2.1
  unfold fdC
  by_cases x : c.1 4 0 6 = 30
  · have hn := k3.mp x
    rw [if_pos x, fh_eq h hN hn]
    have hin := fsI_in (fun k => M.2.1 55 0 (b + k) = nmV M) n 0
    rcases hin with ⟨e, -⟩ | ⟨k, -, hk, e, -⟩
    · have e' : fhA M b n = -1 := e
      rw [e', if_pos rfl]
      exact Or.inr (Or.inl ⟨rfl, hn, rfl, fa_k (k := 3) h.1 h.2.2.2.1 (by decide) (by decide) (by rw [hn.1]; decide)⟩)
    · have e' : fhA M b n = nI k := e
      rw [e', if_neg (nI_n1 (by omega))]
      exact Or.inl ⟨k, by omega, hn, rfl, rfl⟩
  · have hn : ¬ nmP M := fun z => x (k3.mpr z)
    rw [if_neg x]
    exact Or.inr (Or.inr ⟨rfl, hn, fa_mi h.1 h.2.2.2.1⟩)
theorem me_ol {c0 M0 c M : MM} {A : Nat → Int32} {N : Nat → Int64} (h : RUo c0 M0 A N c M) {g f b n t : Nat} (hn20 : n ≤ 20) (hN : ∀ i, i < n → RNo (c0.2.1 29 g (f + i)) (N (b + i))) : RI2 (fun v c' M' => ∃ k, k < n ∧ v = nI k ∧ RUo c0 M0 (upd A t v) N c' M') (meC c g f n) (pOl M b n t) := by
  unfold meC pOl
  rcases fd_ol h hn20 hN with ⟨k, hk, hn, e1, e2⟩ | ⟨e1, hn, e2, e3⟩ | ⟨e1, hn, e3⟩
  · have p0 : (0 : Int32) ≤ nI k := by rw [show (0 : Int32) = nI 0 from rfl, nI_leI (by decide) (by omega)]; omega
    rw [e1, if_pos p0, if_pos hn, e2, if_neg (nI_n1 (by omega))]
    exact Or.inl ⟨n_m1 (by omega), rfl, k, hk, rfl, RU_st (RU_54 h t _)⟩
  · rw [if_neg (by rw [e1]; decide), if_pos hn, e2, if_pos rfl]
    exact Or.inr ⟨by rw [e1]; decide, rfl, fa_54 e3⟩
  · rw [if_neg (by rw [e1]; decide), if_neg hn]
    exact Or.inr ⟨by rw [e1]; decide, rfl, e3⟩

end
