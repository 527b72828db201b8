/-! PART 9ZZG: what each call asks for, holds -/

noncomputable section
theorem PR_asked {m : MM} (h : RST m) (x0 : Int32) : Pre_X11_asked m [vR 11 0, vI x0] ∧ ∀ M, MCo m M → Pre_X12_asked M [vR 12 0, vI x0] := by
  obtain ⟨⟨ns, nm, nt, hVD, hYR, hWB, na, hNC⟩, hHB, hTR, hZZ, hlt, hne, ⟨F, eF, hF⟩, k, hk, ek⟩ := PC_ok h
  refine ⟨⟨⟨ns, nm, nt, hVD.1⟩, x0, rfl⟩, fun M hM => ?_⟩
  obtain ⟨hVM, hHS, hHBm, ⟨n1, n2, n3, hVX, hAF⟩, hTRm, hMK, hLP, ⟨Fm, hFm, eFm⟩, n4, n5, n6, hVX2, hYO, hWB2⟩ := PM_ok h hM
  exact ⟨hVM, x0, rfl⟩
theorem PR_back {m : MM} (h : RST m) (x0 : Int32) : Pre_X11_back m [vR 11 0, vI x0] ∧ ∀ M, MCo m M → Pre_X12_back M [vR 12 0, vI x0] := by
  obtain ⟨⟨ns, nm, nt, hVD, hYR, hWB, na, hNC⟩, hHB, hTR, hZZ, hlt, hne, ⟨F, eF, hF⟩, k, hk, ek⟩ := PC_ok h
  refine ⟨⟨⟨ns, nm, nt, hVD.1⟩, x0, rfl⟩, fun M hM => ?_⟩
  obtain ⟨hVM, hHS, hHBm, ⟨n1, n2, n3, hVX, hAF⟩, hTRm, hMK, hLP, ⟨Fm, hFm, eFm⟩, n4, n5, n6, hVX2, hYO, hWB2⟩ := PM_ok h hM
  exact ⟨hVM, x0, rfl⟩
theorem PR_bar {m : MM} (h : RST m) (x0 : Int32) (x1 : Int32) : Pre_X11_bar m [vR 11 0, vI x0, vI x1] ∧ ∀ M, MCo m M → Pre_X12_bar M [vR 12 0, vI x0, vI x1] := by
  obtain ⟨⟨ns, nm, nt, hVD, hYR, hWB, na, hNC⟩, hHB, hTR, hZZ, hlt, hne, ⟨F, eF, hF⟩, k, hk, ek⟩ := PC_ok h
  refine ⟨⟨⟨ns, nm, nt, hVD.1⟩, x0, x1, rfl⟩, fun M hM => ?_⟩
  obtain ⟨hVM, hHS, hHBm, ⟨n1, n2, n3, hVX, hAF⟩, hTRm, hMK, hLP, ⟨Fm, hFm, eFm⟩, n4, n5, n6, hVX2, hYO, hWB2⟩ := PM_ok h hM
  exact ⟨hVM, x0, x1, rfl⟩
theorem PR_bare {m : MM} (h : RST m) (x0 : Int32) : Pre_X11_bare m [vR 11 0, vI x0] ∧ ∀ M, MCo m M → Pre_X12_bare M [vR 12 0, vI x0] := by
  obtain ⟨⟨ns, nm, nt, hVD, hYR, hWB, na, hNC⟩, hHB, hTR, hZZ, hlt, hne, ⟨F, eF, hF⟩, k, hk, ek⟩ := PC_ok h
  refine ⟨⟨⟨ns, nm, nt, hVD.1⟩, x0, rfl⟩, fun M hM => ?_⟩
  obtain ⟨hVM, hHS, hHBm, ⟨n1, n2, n3, hVX, hAF⟩, hTRm, hMK, hLP, ⟨Fm, hFm, eFm⟩, n4, n5, n6, hVX2, hYO, hWB2⟩ := PM_ok h hM
  exact ⟨hVM, x0, rfl⟩
theorem PR_bolter {m : MM} (h : RST m) (x0 : Int32) (x1 : Int32) : Pre_X11_bolter m [vR 11 0, vI x0, vI x1] ∧ ∀ M, MCo m M → Pre_X12_bolter M [vR 12 0, vI x0, vI x1] := by
  obtain ⟨⟨ns, nm, nt, hVD, hYR, hWB, na, hNC⟩, hHB, hTR, hZZ, hlt, hne, ⟨F, eF, hF⟩, k, hk, ek⟩ := PC_ok h
  refine ⟨⟨⟨ns, nm, nt, hVD.1⟩, x0, x1, rfl⟩, fun M hM => ?_⟩
  obtain ⟨hVM, hHS, hHBm, ⟨n1, n2, n3, hVX, hAF⟩, hTRm, hMK, hLP, ⟨Fm, hFm, eFm⟩, n4, n5, n6, hVX2, hYO, hWB2⟩ := PM_ok h hM
  exact ⟨hVM, x0, x1, rfl⟩
theorem PR_bolts {m : MM} (h : RST m) (x0 : Int32) : Pre_X11_bolts m [vR 11 0, vI x0] ∧ ∀ M, MCo m M → Pre_X12_bolts M [vR 12 0, vI x0] := by
  obtain ⟨⟨ns, nm, nt, hVD, hYR, hWB, na, hNC⟩, hHB, hTR, hZZ, hlt, hne, ⟨F, eF, hF⟩, k, hk, ek⟩ := PC_ok h
  refine ⟨⟨⟨ns, nm, nt, hVD.1⟩, x0, rfl⟩, fun M hM => ?_⟩
  obtain ⟨hVM, hHS, hHBm, ⟨n1, n2, n3, hVX, hAF⟩, hTRm, hMK, hLP, ⟨Fm, hFm, eFm⟩, n4, n5, n6, hVX2, hYO, hWB2⟩ := PM_ok h hM
  exact ⟨hVM, x0, rfl⟩
theorem PR_bottom {m : MM} (h : RST m)  : Pre_X11_bottom m [vR 11 0] ∧ ∀ M, MCo m M → Pre_X12_bottom M [vR 12 0] := by
  obtain ⟨⟨ns, nm, nt, hVD, hYR, hWB, na, hNC⟩, hHB, hTR, hZZ, hlt, hne, ⟨F, eF, hF⟩, k, hk, ek⟩ := PC_ok h
  refine ⟨rfl, fun M hM => ?_⟩
  obtain ⟨hVM, hHS, hHBm, ⟨n1, n2, n3, hVX, hAF⟩, hTRm, hMK, hLP, ⟨Fm, hFm, eFm⟩, n4, n5, n6, hVX2, hYO, hWB2⟩ := PM_ok h hM
  exact rfl
theorem PR_cheapest {m : MM} (h : RST m) (x0 : Int32) (x1 : Int32) : Pre_X11_cheapest m [vR 11 0, vI x0, vI x1] ∧ ∀ M, MCo m M → Pre_X12_cheapest M [vR 12 0, vI x0, vI x1] := by
  obtain ⟨⟨ns, nm, nt, hVD, hYR, hWB, na, hNC⟩, hHB, hTR, hZZ, hlt, hne, ⟨F, eF, hF⟩, k, hk, ek⟩ := PC_ok h
  refine ⟨⟨ns, nm, nt, hVD, x0, x1, rfl⟩, fun M hM => ?_⟩
  obtain ⟨hVM, hHS, hHBm, ⟨n1, n2, n3, hVX, hAF⟩, hTRm, hMK, hLP, ⟨Fm, hFm, eFm⟩, n4, n5, n6, hVX2, hYO, hWB2⟩ := PM_ok h hM
  exact ⟨hVM, hHS, x0, x1, rfl⟩
theorem PR_cheats {m : MM} (h : RST m) (x0 : Int32) : Pre_X11_cheats m [vR 11 0, vI x0] ∧ ∀ M, MCo m M → Pre_X12_cheats M [vR 12 0, vI x0] := by
  obtain ⟨⟨ns, nm, nt, hVD, hYR, hWB, na, hNC⟩, hHB, hTR, hZZ, hlt, hne, ⟨F, eF, hF⟩, k, hk, ek⟩ := PC_ok h
  refine ⟨⟨⟨ns, nm, nt, hVD.1⟩, x0, rfl⟩, fun M hM => ?_⟩
  obtain ⟨hVM, hHS, hHBm, ⟨n1, n2, n3, hVX, hAF⟩, hTRm, hMK, hLP, ⟨Fm, hFm, eFm⟩, n4, n5, n6, hVX2, hYO, hWB2⟩ := PM_ok h hM
  exact ⟨hVM, x0, rfl⟩
theorem PR_dearest {m : MM} (h : RST m) (x0 : Int32) (x1 : Int32) : Pre_X11_dearest m [vR 11 0, vI x0, vI x1] ∧ ∀ M, MCo m M → Pre_X12_dearest M [vR 12 0, vI x0, vI x1] := by
  obtain ⟨⟨ns, nm, nt, hVD, hYR, hWB, na, hNC⟩, hHB, hTR, hZZ, hlt, hne, ⟨F, eF, hF⟩, k, hk, ek⟩ := PC_ok h
  refine ⟨⟨⟨ns, nm, nt, hVD.1⟩, x0, x1, rfl⟩, fun M hM => ?_⟩
  obtain ⟨hVM, hHS, hHBm, ⟨n1, n2, n3, hVX, hAF⟩, hTRm, hMK, hLP, ⟨Fm, hFm, eFm⟩, n4, n5, n6, hVX2, hYO, hWB2⟩ := PM_ok h hM
  exact ⟨hVM, x0, x1, rfl⟩
theorem PR_ends {m : MM} (h : RST m) (x0 : Int32) (x1 : Int32) : Pre_X11_ends m [vR 11 0, vI x0, vI x1] ∧ ∀ M, MCo m M → Pre_X12_ends M [vR 12 0, vI x0, vI x1] := by
  obtain ⟨⟨ns, nm, nt, hVD, hYR, hWB, na, hNC⟩, hHB, hTR, hZZ, hlt, hne, ⟨F, eF, hF⟩, k, hk, ek⟩ := PC_ok h
  refine ⟨⟨⟨ns, nm, nt, hVD.1⟩, x0, x1, rfl⟩, fun M hM => ?_⟩
  obtain ⟨hVM, hHS, hHBm, ⟨n1, n2, n3, hVX, hAF⟩, hTRm, hMK, hLP, ⟨Fm, hFm, eFm⟩, n4, n5, n6, hVX2, hYO, hWB2⟩ := PM_ok h hM
  exact ⟨hVM, x0, x1, rfl⟩
theorem PR_fault {m : MM} (h : RST m) (x0 : Int32) : Pre_X11_fault m [vR 11 0, vI x0] ∧ ∀ M, MCo m M → Pre_X12_fault M [vR 12 0, vI x0] := by
  obtain ⟨⟨ns, nm, nt, hVD, hYR, hWB, na, hNC⟩, hHB, hTR, hZZ, hlt, hne, ⟨F, eF, hF⟩, k, hk, ek⟩ := PC_ok h
  refine ⟨⟨x0, rfl⟩, fun M hM => ?_⟩
  obtain ⟨hVM, hHS, hHBm, ⟨n1, n2, n3, hVX, hAF⟩, hTRm, hMK, hLP, ⟨Fm, hFm, eFm⟩, n4, n5, n6, hVX2, hYO, hWB2⟩ := PM_ok h hM
  exact ⟨x0, rfl⟩
theorem PR_feed {m : MM} (h : RST m) (x0 : Int32) (x1 : Int32) (x2 : Int32) (x3 : Int32) (x4 : Int32) : Pre_X11_feed m [vR 11 0, vI x0, vI x1, vI x2, vI x3, vI x4] ∧ ∀ M, MCo m M → Pre_X12_feed M [vR 12 0, vI x0, vI x1, vI x2, vI x3, vI x4] := by
  obtain ⟨⟨ns, nm, nt, hVD, hYR, hWB, na, hNC⟩, hHB, hTR, hZZ, hlt, hne, ⟨F, eF, hF⟩, k, hk, ek⟩ := PC_ok h
  refine ⟨⟨⟨F, eF, hF⟩, x0, x1, x2, x3, x4, rfl⟩, fun M hM => ?_⟩
  obtain ⟨hVM, hHS, hHBm, ⟨n1, n2, n3, hVX, hAF⟩, hTRm, hMK, hLP, ⟨Fm, hFm, eFm⟩, n4, n5, n6, hVX2, hYO, hWB2⟩ := PM_ok h hM
  exact ⟨⟨Fm, hFm, eFm⟩, x0, x1, x2, x3, x4, rfl⟩
theorem PR_feign {m : MM} (h : RST m) (x0 : Int32) : Pre_X11_feign m [vR 11 0, vI x0] ∧ ∀ M, MCo m M → Pre_X12_feign M [vR 12 0, vI x0] := by
  obtain ⟨⟨ns, nm, nt, hVD, hYR, hWB, na, hNC⟩, hHB, hTR, hZZ, hlt, hne, ⟨F, eF, hF⟩, k, hk, ek⟩ := PC_ok h
  refine ⟨⟨⟨ns, nm, nt, hVD.1⟩, x0, rfl⟩, fun M hM => ?_⟩
  obtain ⟨hVM, hHS, hHBm, ⟨n1, n2, n3, hVX, hAF⟩, hTRm, hMK, hLP, ⟨Fm, hFm, eFm⟩, n4, n5, n6, hVX2, hYO, hWB2⟩ := PM_ok h hM
  exact ⟨hVM, fun s j => (PS_set h hM s 0).2.1 j, x0, rfl⟩
theorem PR_fewest {m : MM} (h : RST m) (x0 : Int32) (x1 : Int32) (x2 : Int32) : Pre_X11_fewest m [vR 11 0, vI x0, vI x1, vI x2] ∧ ∀ M, MCo m M → Pre_X12_fewest M [vR 12 0, vI x0, vI x1, vI x2] := by
  obtain ⟨⟨ns, nm, nt, hVD, hYR, hWB, na, hNC⟩, hHB, hTR, hZZ, hlt, hne, ⟨F, eF, hF⟩, k, hk, ek⟩ := PC_ok h
  refine ⟨⟨ns, nm, nt, hVD, x0, x1, x2, rfl⟩, fun M hM => ?_⟩
  obtain ⟨hVM, hHS, hHBm, ⟨n1, n2, n3, hVX, hAF⟩, hTRm, hMK, hLP, ⟨Fm, hFm, eFm⟩, n4, n5, n6, hVX2, hYO, hWB2⟩ := PM_ok h hM
  exact ⟨hVM, hHS, x0, x1, x2, rfl⟩
theorem PR_found {m : MM} (h : RST m) (x0 : Int32) : Pre_X11_found m [vR 11 0, vI x0] ∧ ∀ M, MCo m M → Pre_X12_found M [vR 12 0, vI x0] := by
  obtain ⟨⟨ns, nm, nt, hVD, hYR, hWB, na, hNC⟩, hHB, hTR, hZZ, hlt, hne, ⟨F, eF, hF⟩, k, hk, ek⟩ := PC_ok h
  refine ⟨⟨⟨ns, nm, nt, hVD.1⟩, x0, rfl⟩, fun M hM => ?_⟩
  obtain ⟨hVM, hHS, hHBm, ⟨n1, n2, n3, hVX, hAF⟩, hTRm, hMK, hLP, ⟨Fm, hFm, eFm⟩, n4, n5, n6, hVX2, hYO, hWB2⟩ := PM_ok h hM
  exact ⟨hVM, fun s j _ => (PS_set h hM s 0).2.2 j, x0, rfl⟩
theorem PR_give {m : MM} (h : RST m) (x0 : Int32) : Pre_X11_give m [vR 11 0, vI x0] ∧ ∀ M, MCo m M → Pre_X12_give M [vR 12 0, vI x0] := by
  obtain ⟨⟨ns, nm, nt, hVD, hYR, hWB, na, hNC⟩, hHB, hTR, hZZ, hlt, hne, ⟨F, eF, hF⟩, k, hk, ek⟩ := PC_ok h
  refine ⟨⟨⟨ns, nm, nt, hVD.1⟩, x0, rfl⟩, fun M hM => ?_⟩
  obtain ⟨hVM, hHS, hHBm, ⟨n1, n2, n3, hVX, hAF⟩, hTRm, hMK, hLP, ⟨Fm, hFm, eFm⟩, n4, n5, n6, hVX2, hYO, hWB2⟩ := PM_ok h hM
  exact ⟨hVM, x0, rfl⟩
theorem PR_heard {m : MM} (h : RST m) (x0 : Int32) (x1 : Int32) : Pre_X11_heard m [vR 11 0, vI x0, vI x1] ∧ ∀ M, MCo m M → Pre_X12_heard M [vR 12 0, vI x0, vI x1] := by
  obtain ⟨⟨ns, nm, nt, hVD, hYR, hWB, na, hNC⟩, hHB, hTR, hZZ, hlt, hne, ⟨F, eF, hF⟩, k, hk, ek⟩ := PC_ok h
  refine ⟨⟨⟨ns, nm, nt, hVD.1⟩, x0, x1, rfl⟩, fun M hM => ?_⟩
  obtain ⟨hVM, hHS, hHBm, ⟨n1, n2, n3, hVX, hAF⟩, hTRm, hMK, hLP, ⟨Fm, hFm, eFm⟩, n4, n5, n6, hVX2, hYO, hWB2⟩ := PM_ok h hM
  exact ⟨hVM, x0, x1, rfl⟩
theorem PR_keep {m : MM} (h : RST m) (x0 : Int32) : Pre_X11_keep m [vR 11 0, vI x0] ∧ ∀ M, MCo m M → Pre_X12_keep M [vR 12 0, vI x0] := by
  obtain ⟨⟨ns, nm, nt, hVD, hYR, hWB, na, hNC⟩, hHB, hTR, hZZ, hlt, hne, ⟨F, eF, hF⟩, k, hk, ek⟩ := PC_ok h
  refine ⟨⟨⟨ns, nm, nt, hVD.1⟩, x0, rfl⟩, fun M hM => ?_⟩
  obtain ⟨hVM, hHS, hHBm, ⟨n1, n2, n3, hVX, hAF⟩, hTRm, hMK, hLP, ⟨Fm, hFm, eFm⟩, n4, n5, n6, hVX2, hYO, hWB2⟩ := PM_ok h hM
  exact ⟨hVM, x0, rfl⟩
theorem PR_lacks {m : MM} (h : RST m) (x0 : Int32) (x1 : Int32) : Pre_X11_lacks m [vR 11 0, vI x0, vI x1] ∧ ∀ M, MCo m M → Pre_X12_lacks M [vR 12 0, vI x0, vI x1] := by
  obtain ⟨⟨ns, nm, nt, hVD, hYR, hWB, na, hNC⟩, hHB, hTR, hZZ, hlt, hne, ⟨F, eF, hF⟩, k, hk, ek⟩ := PC_ok h
  refine ⟨⟨⟨ns, nm, nt, hVD.1⟩, x0, x1, rfl⟩, fun M hM => ?_⟩
  obtain ⟨hVM, hHS, hHBm, ⟨n1, n2, n3, hVX, hAF⟩, hTRm, hMK, hLP, ⟨Fm, hFm, eFm⟩, n4, n5, n6, hVX2, hYO, hWB2⟩ := PM_ok h hM
  exact ⟨hVM, x0, x1, rfl⟩
theorem PR_least {m : MM} (h : RST m) (x0 : Int32) (x1 : Int32) (x2 : Int32) : Pre_X11_least m [vR 11 0, vI x0, vI x1, vI x2] ∧ ∀ M, MCo m M → Pre_X12_least M [vR 12 0, vI x0, vI x1, vI x2] := by
  obtain ⟨⟨ns, nm, nt, hVD, hYR, hWB, na, hNC⟩, hHB, hTR, hZZ, hlt, hne, ⟨F, eF, hF⟩, k, hk, ek⟩ := PC_ok h
  refine ⟨⟨ns, nm, nt, hVD, x0, x1, x2, rfl⟩, fun M hM => ?_⟩
  obtain ⟨hVM, hHS, hHBm, ⟨n1, n2, n3, hVX, hAF⟩, hTRm, hMK, hLP, ⟨Fm, hFm, eFm⟩, n4, n5, n6, hVX2, hYO, hWB2⟩ := PM_ok h hM
  exact ⟨hVM, hHS, x0, x1, x2, rfl⟩
theorem PR_leastSet {m : MM} (h : RST m) (x0 : Int32) (x1 : Int32) (x2 : Int32) : Pre_X11_leastSet m [vR 11 0, vI x0, vI x1, vI x2] ∧ ∀ M, MCo m M → Pre_X12_leastSet M [vR 12 0, vI x0, vI x1, vI x2] := by
  obtain ⟨⟨ns, nm, nt, hVD, hYR, hWB, na, hNC⟩, hHB, hTR, hZZ, hlt, hne, ⟨F, eF, hF⟩, k, hk, ek⟩ := PC_ok h
  refine ⟨⟨ns, nm, nt, hVD, x0, x1, x2, rfl⟩, fun M hM => ?_⟩
  obtain ⟨hVM, hHS, hHBm, ⟨n1, n2, n3, hVX, hAF⟩, hTRm, hMK, hLP, ⟨Fm, hFm, eFm⟩, n4, n5, n6, hVX2, hYO, hWB2⟩ := PM_ok h hM
  exact ⟨hVM, hHS, x0, x1, x2, rfl⟩
theorem PR_lies {m : MM} (h : RST m) (x0 : Int32) (x1 : Int32) (x2 : Int32) : Pre_X11_lies m [vR 11 0, vI x0, vI x1, vI x2] ∧ ∀ M, MCo m M → Pre_X12_lies M [vR 12 0, vI x0, vI x1, vI x2] := by
  obtain ⟨⟨ns, nm, nt, hVD, hYR, hWB, na, hNC⟩, hHB, hTR, hZZ, hlt, hne, ⟨F, eF, hF⟩, k, hk, ek⟩ := PC_ok h
  refine ⟨⟨⟨ns, nm, nt, hVD.1⟩, x0, x1, x2, rfl⟩, fun M hM => ?_⟩
  obtain ⟨hVM, hHS, hHBm, ⟨n1, n2, n3, hVX, hAF⟩, hTRm, hMK, hLP, ⟨Fm, hFm, eFm⟩, n4, n5, n6, hVX2, hYO, hWB2⟩ := PM_ok h hM
  exact ⟨hVM, fun s => (PS_set h hM s _).1, x0, x1, x2, rfl⟩
theorem PR_like {m : MM} (h : RST m) (x0 : Int32) (x1 : Int32) (x2 : Int32) : Pre_X11_like m [vR 11 0, vI x0, vI x1, vI x2] ∧ ∀ M, MCo m M → Pre_X12_like M [vR 12 0, vI x0, vI x1, vI x2] := by
  obtain ⟨⟨ns, nm, nt, hVD, hYR, hWB, na, hNC⟩, hHB, hTR, hZZ, hlt, hne, ⟨F, eF, hF⟩, k, hk, ek⟩ := PC_ok h
  refine ⟨⟨⟨ns, nm, nt, hVD.1⟩, x0, x1, x2, rfl⟩, fun M hM => ?_⟩
  obtain ⟨hVM, hHS, hHBm, ⟨n1, n2, n3, hVX, hAF⟩, hTRm, hMK, hLP, ⟨Fm, hFm, eFm⟩, n4, n5, n6, hVX2, hYO, hWB2⟩ := PM_ok h hM
  exact ⟨hVM, x0, x1, x2, rfl⟩
theorem PR_likes {m : MM} (h : RST m) (x0 : Int32) (x1 : Int32) : Pre_X11_likes m [vR 11 0, vI x0, vI x1] ∧ ∀ M, MCo m M → Pre_X12_likes M [vR 12 0, vI x0, vI x1] := by
  obtain ⟨⟨ns, nm, nt, hVD, hYR, hWB, na, hNC⟩, hHB, hTR, hZZ, hlt, hne, ⟨F, eF, hF⟩, k, hk, ek⟩ := PC_ok h
  refine ⟨⟨⟨ns, nm, nt, hVD.1⟩, x0, x1, rfl⟩, fun M hM => ?_⟩
  obtain ⟨hVM, hHS, hHBm, ⟨n1, n2, n3, hVX, hAF⟩, hTRm, hMK, hLP, ⟨Fm, hFm, eFm⟩, n4, n5, n6, hVX2, hYO, hWB2⟩ := PM_ok h hM
  exact ⟨hVM, x0, x1, rfl⟩
theorem PR_live {m : MM} (h : RST m) (x0 : Int32) : Pre_X11_live m [vR 11 0, vI x0] ∧ ∀ M, MCo m M → Pre_X12_live M [vR 12 0, vI x0] := by
  obtain ⟨⟨ns, nm, nt, hVD, hYR, hWB, na, hNC⟩, hHB, hTR, hZZ, hlt, hne, ⟨F, eF, hF⟩, k, hk, ek⟩ := PC_ok h
  refine ⟨⟨ns, nm, nt, hVD.1, hYR, x0, rfl⟩, fun M hM => ?_⟩
  obtain ⟨hVM, hHS, hHBm, ⟨n1, n2, n3, hVX, hAF⟩, hTRm, hMK, hLP, ⟨Fm, hFm, eFm⟩, n4, n5, n6, hVX2, hYO, hWB2⟩ := PM_ok h hM
  exact ⟨⟨n4, n5, n6, hVX2, hYO⟩, hLP, x0, rfl⟩
theorem PR_lived {m : MM} (h : RST m) (x0 : Int32) : Pre_X11_lived m [vR 11 0, vI x0] ∧ ∀ M, MCo m M → Pre_X12_lived M [vR 12 0, vI x0] := by
  obtain ⟨⟨ns, nm, nt, hVD, hYR, hWB, na, hNC⟩, hHB, hTR, hZZ, hlt, hne, ⟨F, eF, hF⟩, k, hk, ek⟩ := PC_ok h
  refine ⟨⟨x0, rfl⟩, fun M hM => ?_⟩
  obtain ⟨hVM, hHS, hHBm, ⟨n1, n2, n3, hVX, hAF⟩, hTRm, hMK, hLP, ⟨Fm, hFm, eFm⟩, n4, n5, n6, hVX2, hYO, hWB2⟩ := PM_ok h hM
  exact ⟨x0, rfl⟩
theorem PR_maid {m : MM} (h : RST m) (x0 : Int32) (x1 : Int32) : Pre_X11_maid m [vR 11 0, vI x0, vI x1] ∧ ∀ M, MCo m M → Pre_X12_maid M [vR 12 0, vI x0, vI x1] := by
  obtain ⟨⟨ns, nm, nt, hVD, hYR, hWB, na, hNC⟩, hHB, hTR, hZZ, hlt, hne, ⟨F, eF, hF⟩, k, hk, ek⟩ := PC_ok h
  refine ⟨⟨⟨ns, nm, nt, hVD.1⟩, hVD.2, x0, x1, rfl⟩, fun M hM => ?_⟩
  obtain ⟨hVM, hHS, hHBm, ⟨n1, n2, n3, hVX, hAF⟩, hTRm, hMK, hLP, ⟨Fm, hFm, eFm⟩, n4, n5, n6, hVX2, hYO, hWB2⟩ := PM_ok h hM
  exact ⟨hVM, x0, x1, rfl⟩
theorem PR_mark {m : MM} (h : RST m)  : Pre_X11_mark m [vR 11 0] ∧ ∀ M, MCo m M → Pre_X12_mark M [vR 12 0] := by
  obtain ⟨⟨ns, nm, nt, hVD, hYR, hWB, na, hNC⟩, hHB, hTR, hZZ, hlt, hne, ⟨F, eF, hF⟩, k, hk, ek⟩ := PC_ok h
  refine ⟨⟨hZZ _ (by omega), ⟨k, hk, ek⟩, rfl⟩, fun M hM => ?_⟩
  obtain ⟨hVM, hHS, hHBm, ⟨n1, n2, n3, hVX, hAF⟩, hTRm, hMK, hLP, ⟨Fm, hFm, eFm⟩, n4, n5, n6, hVX2, hYO, hWB2⟩ := PM_ok h hM
  exact ⟨hMK, rfl⟩
theorem PR_may {m : MM} (h : RST m) (x0 : Int32) : Pre_X11_may m [vR 11 0, vI x0] ∧ ∀ M, MCo m M → Pre_X12_may M [vR 12 0, vI x0] := by
  obtain ⟨⟨ns, nm, nt, hVD, hYR, hWB, na, hNC⟩, hHB, hTR, hZZ, hlt, hne, ⟨F, eF, hF⟩, k, hk, ek⟩ := PC_ok h
  refine ⟨⟨⟨ns, nm, nt, hVD.1⟩, x0, rfl⟩, fun M hM => ?_⟩
  obtain ⟨hVM, hHS, hHBm, ⟨n1, n2, n3, hVX, hAF⟩, hTRm, hMK, hLP, ⟨Fm, hFm, eFm⟩, n4, n5, n6, hVX2, hYO, hWB2⟩ := PM_ok h hM
  exact ⟨hVM, x0, rfl⟩
theorem PR_mean {m : MM} (h : RST m) (x0 : Int32) (x1 : Int32) (x2 : Int32) : Pre_X11_mean m [vR 11 0, vI x0, vI x1, vI x2] ∧ ∀ M, MCo m M → Pre_X12_mean M [vR 12 0, vI x0, vI x1, vI x2] := by
  obtain ⟨⟨ns, nm, nt, hVD, hYR, hWB, na, hNC⟩, hHB, hTR, hZZ, hlt, hne, ⟨F, eF, hF⟩, k, hk, ek⟩ := PC_ok h
  refine ⟨⟨ns, nm, nt, hVD.1, hYR, hZZ _ (by omega), hne, hWB, x0, x1, x2, rfl⟩, fun M hM => ?_⟩
  obtain ⟨hVM, hHS, hHBm, ⟨n1, n2, n3, hVX, hAF⟩, hTRm, hMK, hLP, ⟨Fm, hFm, eFm⟩, n4, n5, n6, hVX2, hYO, hWB2⟩ := PM_ok h hM
  exact ⟨⟨n4, n5, n6, hVX2, hYO, hWB2⟩, hLP, x0, x1, x2, rfl⟩
theorem PR_most {m : MM} (h : RST m) (x0 : Int32) (x1 : Int32) (x2 : Int32) : Pre_X11_most m [vR 11 0, vI x0, vI x1, vI x2] ∧ ∀ M, MCo m M → Pre_X12_most M [vR 12 0, vI x0, vI x1, vI x2] := by
  obtain ⟨⟨ns, nm, nt, hVD, hYR, hWB, na, hNC⟩, hHB, hTR, hZZ, hlt, hne, ⟨F, eF, hF⟩, k, hk, ek⟩ := PC_ok h
  refine ⟨⟨ns, nm, nt, hVD, x0, x1, x2, rfl⟩, fun M hM => ?_⟩
  obtain ⟨hVM, hHS, hHBm, ⟨n1, n2, n3, hVX, hAF⟩, hTRm, hMK, hLP, ⟨Fm, hFm, eFm⟩, n4, n5, n6, hVX2, hYO, hWB2⟩ := PM_ok h hM
  exact ⟨hVM, hHS, x0, x1, x2, rfl⟩
theorem PR_needs {m : MM} (h : RST m) (x0 : Int32) : Pre_X11_needs m [vR 11 0, vI x0] ∧ ∀ M, MCo m M → Pre_X12_needs M [vR 12 0, vI x0] := by
  obtain ⟨⟨ns, nm, nt, hVD, hYR, hWB, na, hNC⟩, hHB, hTR, hZZ, hlt, hne, ⟨F, eF, hF⟩, k, hk, ek⟩ := PC_ok h
  refine ⟨⟨⟨ns, nm, nt, hVD.1⟩, x0, rfl⟩, fun M hM => ?_⟩
  obtain ⟨hVM, hHS, hHBm, ⟨n1, n2, n3, hVX, hAF⟩, hTRm, hMK, hLP, ⟨Fm, hFm, eFm⟩, n4, n5, n6, hVX2, hYO, hWB2⟩ := PM_ok h hM
  exact ⟨n1, n2, n3, hVX, hAF, x0, rfl⟩
theorem PR_never {m : MM} (h : RST m) (x0 : Int32) : Pre_X11_never m [vR 11 0, vI x0] ∧ ∀ M, MCo m M → Pre_X12_never M [vR 12 0, vI x0] := by
  obtain ⟨⟨ns, nm, nt, hVD, hYR, hWB, na, hNC⟩, hHB, hTR, hZZ, hlt, hne, ⟨F, eF, hF⟩, k, hk, ek⟩ := PC_ok h
  refine ⟨⟨⟨ns, nm, nt, hVD.1⟩, x0, rfl⟩, fun M hM => ?_⟩
  obtain ⟨hVM, hHS, hHBm, ⟨n1, n2, n3, hVX, hAF⟩, hTRm, hMK, hLP, ⟨Fm, hFm, eFm⟩, n4, n5, n6, hVX2, hYO, hWB2⟩ := PM_ok h hM
  exact ⟨n1, n2, n3, hVX, hAF, x0, rfl⟩
theorem PR_orders {m : MM} (h : RST m) (x0 : Int32) : Pre_X11_orders m [vR 11 0, vI x0] ∧ ∀ M, MCo m M → Pre_X12_orders M [vR 12 0, vI x0] := by
  obtain ⟨⟨ns, nm, nt, hVD, hYR, hWB, na, hNC⟩, hHB, hTR, hZZ, hlt, hne, ⟨F, eF, hF⟩, k, hk, ek⟩ := PC_ok h
  refine ⟨⟨⟨ns, nm, nt, hVD.1⟩, x0, rfl⟩, fun M hM => ?_⟩
  obtain ⟨hVM, hHS, hHBm, ⟨n1, n2, n3, hVX, hAF⟩, hTRm, hMK, hLP, ⟨Fm, hFm, eFm⟩, n4, n5, n6, hVX2, hYO, hWB2⟩ := PM_ok h hM
  exact ⟨hVM, fun s => (PS_set h hM s _).1, x0, rfl⟩
theorem PR_pour {m : MM} (h : RST m) (x0 : Int32) (x1 : Int32) (x2 : Int32) (x3 : Int32) (x4 : Int32) : Pre_X11_pour m [vR 11 0, vI x0, vI x1, vI x2, vI x3, vI x4] ∧ ∀ M, MCo m M → Pre_X12_pour M [vR 12 0, vI x0, vI x1, vI x2, vI x3, vI x4] := by
  obtain ⟨⟨ns, nm, nt, hVD, hYR, hWB, na, hNC⟩, hHB, hTR, hZZ, hlt, hne, ⟨F, eF, hF⟩, k, hk, ek⟩ := PC_ok h
  refine ⟨⟨hTR, x0, x1, x2, x3, x4, rfl⟩, fun M hM => ?_⟩
  obtain ⟨hVM, hHS, hHBm, ⟨n1, n2, n3, hVX, hAF⟩, hTRm, hMK, hLP, ⟨Fm, hFm, eFm⟩, n4, n5, n6, hVX2, hYO, hWB2⟩ := PM_ok h hM
  exact ⟨hTRm, x0, x1, x2, x3, x4, rfl⟩
theorem PR_proud {m : MM} (h : RST m) (x0 : Int32) : Pre_X11_proud m [vR 11 0, vI x0] ∧ ∀ M, MCo m M → Pre_X12_proud M [vR 12 0, vI x0] := by
  obtain ⟨⟨ns, nm, nt, hVD, hYR, hWB, na, hNC⟩, hHB, hTR, hZZ, hlt, hne, ⟨F, eF, hF⟩, k, hk, ek⟩ := PC_ok h
  refine ⟨⟨⟨ns, nm, nt, hVD.1⟩, x0, rfl⟩, fun M hM => ?_⟩
  obtain ⟨hVM, hHS, hHBm, ⟨n1, n2, n3, hVX, hAF⟩, hTRm, hMK, hLP, ⟨Fm, hFm, eFm⟩, n4, n5, n6, hVX2, hYO, hWB2⟩ := PM_ok h hM
  exact ⟨hVM, x0, rfl⟩
theorem PR_read {m : MM} (h : RST m) (x0 : Int32) (x1 : Int32) : Pre_X11_read m [vR 11 0, vI x0, vI x1] ∧ ∀ M, MCo m M → Pre_X12_read M [vR 12 0, vI x0, vI x1] := by
  obtain ⟨⟨ns, nm, nt, hVD, hYR, hWB, na, hNC⟩, hHB, hTR, hZZ, hlt, hne, ⟨F, eF, hF⟩, k, hk, ek⟩ := PC_ok h
  refine ⟨⟨hTR, x0, x1, rfl⟩, fun M hM => ?_⟩
  obtain ⟨hVM, hHS, hHBm, ⟨n1, n2, n3, hVX, hAF⟩, hTRm, hMK, hLP, ⟨Fm, hFm, eFm⟩, n4, n5, n6, hVX2, hYO, hWB2⟩ := PM_ok h hM
  exact ⟨hTRm, x0, x1, rfl⟩
theorem PR_refusals {m : MM} (h : RST m)  : Pre_X11_refusals m [vR 11 0] ∧ ∀ M, MCo m M → Pre_X12_refusals M [vR 12 0] := by
  obtain ⟨⟨ns, nm, nt, hVD, hYR, hWB, na, hNC⟩, hHB, hTR, hZZ, hlt, hne, ⟨F, eF, hF⟩, k, hk, ek⟩ := PC_ok h
  refine ⟨⟨⟨ns, nm, nt, hVD.1⟩, rfl⟩, fun M hM => ?_⟩
  obtain ⟨hVM, hHS, hHBm, ⟨n1, n2, n3, hVX, hAF⟩, hTRm, hMK, hLP, ⟨Fm, hFm, eFm⟩, n4, n5, n6, hVX2, hYO, hWB2⟩ := PM_ok h hM
  exact ⟨hVM, rfl⟩
theorem PR_rivals {m : MM} (h : RST m) (x0 : Int32) (x1 : Int32) (x2 : Int32) : Pre_X11_rivals m [vR 11 0, vI x0, vI x1, vI x2] ∧ ∀ M, MCo m M → Pre_X12_rivals M [vR 12 0, vI x0, vI x1, vI x2] := by
  obtain ⟨⟨ns, nm, nt, hVD, hYR, hWB, na, hNC⟩, hHB, hTR, hZZ, hlt, hne, ⟨F, eF, hF⟩, k, hk, ek⟩ := PC_ok h
  refine ⟨⟨ns, nm, nt, hVD, x0, x1, x2, rfl⟩, fun M hM => ?_⟩
  obtain ⟨hVM, hHS, hHBm, ⟨n1, n2, n3, hVX, hAF⟩, hTRm, hMK, hLP, ⟨Fm, hFm, eFm⟩, n4, n5, n6, hVX2, hYO, hWB2⟩ := PM_ok h hM
  exact ⟨hVM, hHS, x0, x1, x2, rfl⟩
theorem PR_says {m : MM} (h : RST m) (x0 : Int32) (x1 : Int32) : Pre_X11_says m [vR 11 0, vI x0, vI x1] ∧ ∀ M, MCo m M → Pre_X12_says M [vR 12 0, vI x0, vI x1] := by
  obtain ⟨⟨ns, nm, nt, hVD, hYR, hWB, na, hNC⟩, hHB, hTR, hZZ, hlt, hne, ⟨F, eF, hF⟩, k, hk, ek⟩ := PC_ok h
  refine ⟨⟨⟨ns, nm, nt, hVD.1⟩, x0, x1, rfl⟩, fun M hM => ?_⟩
  obtain ⟨hVM, hHS, hHBm, ⟨n1, n2, n3, hVX, hAF⟩, hTRm, hMK, hLP, ⟨Fm, hFm, eFm⟩, n4, n5, n6, hVX2, hYO, hWB2⟩ := PM_ok h hM
  exact ⟨hVM, x0, x1, rfl⟩
theorem PR_share {m : MM} (h : RST m) (x0 : Int32) (x1 : Int32) : Pre_X11_share m [vR 11 0, vI x0, vI x1] ∧ ∀ M, MCo m M → Pre_X12_share M [vR 12 0, vI x0, vI x1] := by
  obtain ⟨⟨ns, nm, nt, hVD, hYR, hWB, na, hNC⟩, hHB, hTR, hZZ, hlt, hne, ⟨F, eF, hF⟩, k, hk, ek⟩ := PC_ok h
  refine ⟨⟨⟨ns, nm, nt, hVD.1⟩, hHB, x0, x1, rfl⟩, fun M hM => ?_⟩
  obtain ⟨hVM, hHS, hHBm, ⟨n1, n2, n3, hVX, hAF⟩, hTRm, hMK, hLP, ⟨Fm, hFm, eFm⟩, n4, n5, n6, hVX2, hYO, hWB2⟩ := PM_ok h hM
  exact ⟨hVM, hHBm, x0, x1, rfl⟩
theorem PR_soonest {m : MM} (h : RST m) (x0 : Int32) (x1 : Int32) : Pre_X11_soonest m [vR 11 0, vI x0, vI x1] ∧ ∀ M, MCo m M → Pre_X12_soonest M [vR 12 0, vI x0, vI x1] := by
  obtain ⟨⟨ns, nm, nt, hVD, hYR, hWB, na, hNC⟩, hHB, hTR, hZZ, hlt, hne, ⟨F, eF, hF⟩, k, hk, ek⟩ := PC_ok h
  refine ⟨⟨ns, nm, nt, hVD, x0, x1, rfl⟩, fun M hM => ?_⟩
  obtain ⟨hVM, hHS, hHBm, ⟨n1, n2, n3, hVX, hAF⟩, hTRm, hMK, hLP, ⟨Fm, hFm, eFm⟩, n4, n5, n6, hVX2, hYO, hWB2⟩ := PM_ok h hM
  exact ⟨hVM, hHS, x0, x1, rfl⟩
theorem PR_status {m : MM} (h : RST m)  : Pre_X11_status m [vR 11 0] ∧ ∀ M, MCo m M → Pre_X12_status M [vR 12 0] := by
  obtain ⟨⟨ns, nm, nt, hVD, hYR, hWB, na, hNC⟩, hHB, hTR, hZZ, hlt, hne, ⟨F, eF, hF⟩, k, hk, ek⟩ := PC_ok h
  refine ⟨rfl, fun M hM => ?_⟩
  obtain ⟨hVM, hHS, hHBm, ⟨n1, n2, n3, hVX, hAF⟩, hTRm, hMK, hLP, ⟨Fm, hFm, eFm⟩, n4, n5, n6, hVX2, hYO, hWB2⟩ := PM_ok h hM
  exact rfl
theorem PR_suitor {m : MM} (h : RST m) (x0 : Int32) (x1 : Int32) : Pre_X11_suitor m [vR 11 0, vI x0, vI x1] ∧ ∀ M, MCo m M → Pre_X12_suitor M [vR 12 0, vI x0, vI x1] := by
  obtain ⟨⟨ns, nm, nt, hVD, hYR, hWB, na, hNC⟩, hHB, hTR, hZZ, hlt, hne, ⟨F, eF, hF⟩, k, hk, ek⟩ := PC_ok h
  refine ⟨⟨⟨ns, nm, nt, hVD.1⟩, hVD.2, x0, x1, rfl⟩, fun M hM => ?_⟩
  obtain ⟨hVM, hHS, hHBm, ⟨n1, n2, n3, hVX, hAF⟩, hTRm, hMK, hLP, ⟨Fm, hFm, eFm⟩, n4, n5, n6, hVX2, hYO, hWB2⟩ := PM_ok h hM
  exact ⟨hVM, x0, x1, rfl⟩
theorem PR_thing {m : MM} (h : RST m) (x0 : Int32) (x1 : Int32) : Pre_X11_thing m [vR 11 0, vI x0, vI x1] ∧ ∀ M, MCo m M → Pre_X12_thing M [vR 12 0, vI x0, vI x1] := by
  obtain ⟨⟨ns, nm, nt, hVD, hYR, hWB, na, hNC⟩, hHB, hTR, hZZ, hlt, hne, ⟨F, eF, hF⟩, k, hk, ek⟩ := PC_ok h
  refine ⟨⟨⟨ns, nm, nt, hVD.1⟩, hVD.2, x0, x1, rfl⟩, fun M hM => ?_⟩
  obtain ⟨hVM, hHS, hHBm, ⟨n1, n2, n3, hVX, hAF⟩, hTRm, hMK, hLP, ⟨Fm, hFm, eFm⟩, n4, n5, n6, hVX2, hYO, hWB2⟩ := PM_ok h hM
  exact ⟨n1, n2, n3, hVX, hAF, x0, x1, rfl⟩
theorem PR_toFair {m : MM} (h : RST m)  : Pre_X11_toFair m [vR 11 0] ∧ ∀ M, MCo m M → Pre_X12_toFair M [vR 12 0] := by
  obtain ⟨⟨ns, nm, nt, hVD, hYR, hWB, na, hNC⟩, hHB, hTR, hZZ, hlt, hne, ⟨F, eF, hF⟩, k, hk, ek⟩ := PC_ok h
  refine ⟨⟨⟨ns, nm, nt, hVD.1⟩, rfl⟩, fun M hM => ?_⟩
  obtain ⟨hVM, hHS, hHBm, ⟨n1, n2, n3, hVX, hAF⟩, hTRm, hMK, hLP, ⟨Fm, hFm, eFm⟩, n4, n5, n6, hVX2, hYO, hWB2⟩ := PM_ok h hM
  exact ⟨hVM, rfl⟩
theorem PR_told {m : MM} (h : RST m) (x0 : Int32) : Pre_X11_told m [vR 11 0, vI x0] ∧ ∀ M, MCo m M → Pre_X12_told M [vR 12 0, vI x0] := by
  obtain ⟨⟨ns, nm, nt, hVD, hYR, hWB, na, hNC⟩, hHB, hTR, hZZ, hlt, hne, ⟨F, eF, hF⟩, k, hk, ek⟩ := PC_ok h
  refine ⟨⟨⟨ns, nm, nt, hVD.1⟩, hVD.2, x0, rfl⟩, fun M hM => ?_⟩
  obtain ⟨hVM, hHS, hHBm, ⟨n1, n2, n3, hVX, hAF⟩, hTRm, hMK, hLP, ⟨Fm, hFm, eFm⟩, n4, n5, n6, hVX2, hYO, hWB2⟩ := PM_ok h hM
  exact ⟨x0, rfl⟩
theorem PR_top {m : MM} (h : RST m)  : Pre_X11_top m [vR 11 0] ∧ ∀ M, MCo m M → Pre_X12_top M [vR 12 0] := by
  obtain ⟨⟨ns, nm, nt, hVD, hYR, hWB, na, hNC⟩, hHB, hTR, hZZ, hlt, hne, ⟨F, eF, hF⟩, k, hk, ek⟩ := PC_ok h
  refine ⟨rfl, fun M hM => ?_⟩
  obtain ⟨hVM, hHS, hHBm, ⟨n1, n2, n3, hVX, hAF⟩, hTRm, hMK, hLP, ⟨Fm, hFm, eFm⟩, n4, n5, n6, hVX2, hYO, hWB2⟩ := PM_ok h hM
  exact rfl
theorem PR_tray {m : MM} (h : RST m) (x0 : Int32) (x1 : Int32) (x2 : Int32) : Pre_X11_tray m [vR 11 0, vI x0, vI x1, vI x2] ∧ ∀ M, MCo m M → Pre_X12_tray M [vR 12 0, vI x0, vI x1, vI x2] := by
  obtain ⟨⟨ns, nm, nt, hVD, hYR, hWB, na, hNC⟩, hHB, hTR, hZZ, hlt, hne, ⟨F, eF, hF⟩, k, hk, ek⟩ := PC_ok h
  refine ⟨⟨x0, x1, x2, rfl⟩, fun M hM => ?_⟩
  obtain ⟨hVM, hHS, hHBm, ⟨n1, n2, n3, hVX, hAF⟩, hTRm, hMK, hLP, ⟨Fm, hFm, eFm⟩, n4, n5, n6, hVX2, hYO, hWB2⟩ := PM_ok h hM
  exact ⟨x0, x1, x2, rfl⟩
theorem PR_undo {m : MM} (h : RST m)  : Pre_X11_undo m [vR 11 0] ∧ ∀ M, MCo m M → Pre_X12_undo M [vR 12 0] := by
  obtain ⟨⟨ns, nm, nt, hVD, hYR, hWB, na, hNC⟩, hHB, hTR, hZZ, hlt, hne, ⟨F, eF, hF⟩, k, hk, ek⟩ := PC_ok h
  refine ⟨⟨fun i hi => hZZ _ (by omega), ⟨k, hk, ek⟩, rfl⟩, fun M hM => ?_⟩
  obtain ⟨hVM, hHS, hHBm, ⟨n1, n2, n3, hVX, hAF⟩, hTRm, hMK, hLP, ⟨Fm, hFm, eFm⟩, n4, n5, n6, hVX2, hYO, hWB2⟩ := PM_ok h hM
  exact ⟨hMK, rfl⟩
theorem PR_valley {m : MM} (h : RST m) (x0 : Int32) : Pre_X11_valley m [vR 11 0, vI x0] ∧ ∀ M, MCo m M → Pre_X12_valley M [vR 12 0, vI x0] := by
  obtain ⟨⟨ns, nm, nt, hVD, hYR, hWB, na, hNC⟩, hHB, hTR, hZZ, hlt, hne, ⟨F, eF, hF⟩, k, hk, ek⟩ := PC_ok h
  refine ⟨⟨⟨F, eF, hF⟩, x0, rfl⟩, fun M hM => ?_⟩
  obtain ⟨hVM, hHS, hHBm, ⟨n1, n2, n3, hVX, hAF⟩, hTRm, hMK, hLP, ⟨Fm, hFm, eFm⟩, n4, n5, n6, hVX2, hYO, hWB2⟩ := PM_ok h hM
  exact ⟨Fm, x0, eFm, hFm, rfl⟩
theorem PR_village {m : MM} (h : RST m) (x0 : Int32) (x1 : Int32) : Pre_X11_village m [vR 11 0, vI x0, vI x1] ∧ ∀ M, MCo m M → Pre_X12_village M [vR 12 0, vI x0, vI x1] := by
  obtain ⟨⟨ns, nm, nt, hVD, hYR, hWB, na, hNC⟩, hHB, hTR, hZZ, hlt, hne, ⟨F, eF, hF⟩, k, hk, ek⟩ := PC_ok h
  refine ⟨⟨ns, nm, nt, hVD, x0, x1, rfl⟩, fun M hM => ?_⟩
  obtain ⟨hVM, hHS, hHBm, ⟨n1, n2, n3, hVX, hAF⟩, hTRm, hMK, hLP, ⟨Fm, hFm, eFm⟩, n4, n5, n6, hVX2, hYO, hWB2⟩ := PM_ok h hM
  exact ⟨hVM, hHS, x0, x1, rfl⟩
theorem PR_villager {m : MM} (h : RST m) (x0 : Int32) (x1 : Int32) : Pre_X11_villager m [vR 11 0, vI x0, vI x1] ∧ ∀ M, MCo m M → Pre_X12_villager M [vR 12 0, vI x0, vI x1] := by
  obtain ⟨⟨ns, nm, nt, hVD, hYR, hWB, na, hNC⟩, hHB, hTR, hZZ, hlt, hne, ⟨F, eF, hF⟩, k, hk, ek⟩ := PC_ok h
  refine ⟨⟨ns, nm, nt, hVD, x0, x1, rfl⟩, fun M hM => ?_⟩
  obtain ⟨hVM, hHS, hHBm, ⟨n1, n2, n3, hVX, hAF⟩, hTRm, hMK, hLP, ⟨Fm, hFm, eFm⟩, n4, n5, n6, hVX2, hYO, hWB2⟩ := PM_ok h hM
  exact ⟨hVM, hHS, x0, x1, rfl⟩
theorem PR_ways {m : MM} (h : RST m) (x0 : Int32) : Pre_X11_ways m [vR 11 0, vI x0] ∧ ∀ M, MCo m M → Pre_X12_ways M [vR 12 0, vI x0] := by
  obtain ⟨⟨ns, nm, nt, hVD, hYR, hWB, na, hNC⟩, hHB, hTR, hZZ, hlt, hne, ⟨F, eF, hF⟩, k, hk, ek⟩ := PC_ok h
  refine ⟨⟨⟨ns, nm, nt, hVD.1⟩, x0, rfl⟩, fun M hM => ?_⟩
  obtain ⟨hVM, hHS, hHBm, ⟨n1, n2, n3, hVX, hAF⟩, hTRm, hMK, hLP, ⟨Fm, hFm, eFm⟩, n4, n5, n6, hVX2, hYO, hWB2⟩ := PM_ok h hM
  exact ⟨hVM, ⟨n1, n2, n3, hVX, hAF⟩, fun s => (PS_set h hM s _).1, x0, rfl⟩
theorem PR_wed {m : MM} (h : RST m) (x0 : Int32) (x1 : Int32) : Pre_X11_wed m [vR 11 0, vI x0, vI x1] ∧ ∀ M, MCo m M → Pre_X12_wed M [vR 12 0, vI x0, vI x1] := by
  obtain ⟨⟨ns, nm, nt, hVD, hYR, hWB, na, hNC⟩, hHB, hTR, hZZ, hlt, hne, ⟨F, eF, hF⟩, k, hk, ek⟩ := PC_ok h
  refine ⟨⟨⟨ns, nm, nt, hVD.1⟩, x0, x1, rfl⟩, fun M hM => ?_⟩
  obtain ⟨hVM, hHS, hHBm, ⟨n1, n2, n3, hVX, hAF⟩, hTRm, hMK, hLP, ⟨Fm, hFm, eFm⟩, n4, n5, n6, hVX2, hYO, hWB2⟩ := PM_ok h hM
  exact ⟨hVM, x0, x1, rfl⟩
theorem PR_week {m : MM} (h : RST m)  : Pre_X11_week m [vR 11 0] ∧ ∀ M, MCo m M → Pre_X12_week M [vR 12 0] := by
  obtain ⟨⟨ns, nm, nt, hVD, hYR, hWB, na, hNC⟩, hHB, hTR, hZZ, hlt, hne, ⟨F, eF, hF⟩, k, hk, ek⟩ := PC_ok h
  refine ⟨⟨⟨ns, nm, nt, hVD.1⟩, rfl⟩, fun M hM => ?_⟩
  obtain ⟨hVM, hHS, hHBm, ⟨n1, n2, n3, hVX, hAF⟩, hTRm, hMK, hLP, ⟨Fm, hFm, eFm⟩, n4, n5, n6, hVX2, hYO, hWB2⟩ := PM_ok h hM
  exact ⟨hVM, rfl⟩
theorem PR_within {m : MM} (h : RST m) (x0 : Int32) (x1 : Int32) : Pre_X11_within m [vR 11 0, vI x0, vI x1] ∧ ∀ M, MCo m M → Pre_X12_within M [vR 12 0, vI x0, vI x1] := by
  obtain ⟨⟨ns, nm, nt, hVD, hYR, hWB, na, hNC⟩, hHB, hTR, hZZ, hlt, hne, ⟨F, eF, hF⟩, k, hk, ek⟩ := PC_ok h
  refine ⟨⟨ns, nm, nt, hVD, x0, x1, rfl⟩, fun M hM => ?_⟩
  obtain ⟨hVM, hHS, hHBm, ⟨n1, n2, n3, hVX, hAF⟩, hTRm, hMK, hLP, ⟨Fm, hFm, eFm⟩, n4, n5, n6, hVX2, hYO, hWB2⟩ := PM_ok h hM
  exact ⟨hVM, hHS, x0, x1, rfl⟩
theorem PR_wouldHave {m : MM} (h : RST m) (x0 : Int32) : Pre_X11_wouldHave m [vR 11 0, vI x0] ∧ ∀ M, MCo m M → Pre_X12_wouldHave M [vR 12 0, vI x0] := by
  obtain ⟨⟨ns, nm, nt, hVD, hYR, hWB, na, hNC⟩, hHB, hTR, hZZ, hlt, hne, ⟨F, eF, hF⟩, k, hk, ek⟩ := PC_ok h
  refine ⟨⟨⟨ns, nm, nt, hVD.1⟩, x0, rfl⟩, fun M hM => ?_⟩
  obtain ⟨hVM, hHS, hHBm, ⟨n1, n2, n3, hVX, hAF⟩, hTRm, hMK, hLP, ⟨Fm, hFm, eFm⟩, n4, n5, n6, hVX2, hYO, hWB2⟩ := PM_ok h hM
  exact ⟨hVM, x0, rfl⟩
theorem PR_write {m : MM} (h : RST m) (x0 : Int32) (x1 : Int32) (x2 : Int64) : Pre_X11_write m [vR 11 0, vI x0, vI x1, vL x2] ∧ ∀ M, MCo m M → Pre_X12_write M [vR 12 0, vI x0, vI x1, vL x2] := by
  obtain ⟨⟨ns, nm, nt, hVD, hYR, hWB, na, hNC⟩, hHB, hTR, hZZ, hlt, hne, ⟨F, eF, hF⟩, k, hk, ek⟩ := PC_ok h
  refine ⟨⟨hTR, x0, x1, x2, rfl⟩, fun M hM => ?_⟩
  obtain ⟨hVM, hHS, hHBm, ⟨n1, n2, n3, hVX, hAF⟩, hTRm, hMK, hLP, ⟨Fm, hFm, eFm⟩, n4, n5, n6, hVX2, hYO, hWB2⟩ := PM_ok h hM
  exact ⟨hTRm, x0, x1, x2, rfl⟩
theorem PR_years {m : MM} (h : RST m) (x0 : Int32) : Pre_X11_years m [vR 11 0, vI x0] ∧ ∀ M, MCo m M → Pre_X12_years M [vR 12 0, vI x0] := by
  obtain ⟨⟨ns, nm, nt, hVD, hYR, hWB, na, hNC⟩, hHB, hTR, hZZ, hlt, hne, ⟨F, eF, hF⟩, k, hk, ek⟩ := PC_ok h
  refine ⟨⟨⟨F, eF, hF⟩, ⟨ns, nm, nt, na, hNC⟩, x0, rfl⟩, fun M hM => ?_⟩
  obtain ⟨hVM, hHS, hHBm, ⟨n1, n2, n3, hVX, hAF⟩, hTRm, hMK, hLP, ⟨Fm, hFm, eFm⟩, n4, n5, n6, hVX2, hYO, hWB2⟩ := PM_ok h hM
  exact ⟨hVM, Fm, x0, eFm, hFm, rfl⟩
theorem PR_yes {m : MM} (h : RST m) (x0 : Int32) (x1 : Int32) : Pre_X11_yes m [vR 11 0, vI x0, vI x1] ∧ ∀ M, MCo m M → Pre_X12_yes M [vR 12 0, vI x0, vI x1] := by
  obtain ⟨⟨ns, nm, nt, hVD, hYR, hWB, na, hNC⟩, hHB, hTR, hZZ, hlt, hne, ⟨F, eF, hF⟩, k, hk, ek⟩ := PC_ok h
  refine ⟨⟨⟨ns, nm, nt, hVD.1⟩, x0, x1, rfl⟩, fun M hM => ?_⟩
  obtain ⟨hVM, hHS, hHBm, ⟨n1, n2, n3, hVX, hAF⟩, hTRm, hMK, hLP, ⟨Fm, hFm, eFm⟩, n4, n5, n6, hVX2, hYO, hWB2⟩ := PM_ok h hM
  exact ⟨hVM, x0, x1, rfl⟩

end
