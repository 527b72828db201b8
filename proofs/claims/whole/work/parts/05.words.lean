/-! PART 05: the words that are used, each by its place; kinds of objects; lists of decoded instructions -/
theorem wd_57 : Cond.selects "GivenUpModel" ⟨"GivenUpModel", "refuse", "(I)I"⟩ ⟨"GivenUpModel", "refuse", "(I)I"⟩ ∈ TBL := TBL_mem 57 (by decide +kernel) (by decide)
theorem wd_79 : Cond.selects "GivenUpModel" ⟨"GivenUpModel", "gives", "(I)I"⟩ ⟨"GivenUpModel", "gives", "(I)I"⟩ ∈ TBL := TBL_mem 79 (by decide +kernel) (by decide)
theorem wd_85 : Cond.selects "GivenUpModel" ⟨"GivenUpModel", "isSuitor", "(I)Z"⟩ ⟨"GivenUpModel", "isSuitor", "(I)Z"⟩ ∈ TBL := TBL_mem 85 (by decide +kernel) (by decide)
theorem wd_86 : Cond.selects "GivenUpModel" ⟨"GivenUpModel", "thingsOf", "(I)I"⟩ ⟨"GivenUpModel", "thingsOf", "(I)I"⟩ ∈ TBL := TBL_mem 86 (by decide +kernel) (by decide)
theorem wd_87 : Cond.selects "GivenUpModel" ⟨"GivenUpModel", "ownerOf", "(I)I"⟩ ⟨"GivenUpModel", "ownerOf", "(I)I"⟩ ∈ TBL := TBL_mem 87 (by decide +kernel) (by decide)
theorem wd_88 : Cond.selects "GivenUpModel" ⟨"GivenUpModel", "worthOf", "(I)I"⟩ ⟨"GivenUpModel", "worthOf", "(I)I"⟩ ∈ TBL := TBL_mem 88 (by decide +kernel) (by decide)
theorem wd_89 : Cond.selects "GivenUpModel" ⟨"GivenUpModel", "isIn", "(II)Z"⟩ ⟨"GivenUpModel", "isIn", "(II)Z"⟩ ∈ TBL := TBL_mem 89 (by decide +kernel) (by decide)
theorem wd_92 : Cond.selects "GivenUpModel" ⟨"GivenUpModel", "isMaid", "(I)Z"⟩ ⟨"GivenUpModel", "isMaid", "(I)Z"⟩ ∈ TBL := TBL_mem 92 (by decide +kernel) (by decide)
theorem wd_107 : Cond.selects "GivenUpModel" ⟨"GivenUpModel", "saidBy", "(II)I"⟩ ⟨"GivenUpModel", "saidBy", "(II)I"⟩ ∈ TBL := TBL_mem 107 (by decide +kernel) (by decide)
theorem wd_160 : Cond.initialized "GivenUpModel" ∈ TBL := TBL_mem 160 (by decide +kernel) (by decide)
theorem wd_1552 : Cond.fieldLink "GivenUpModel" 7 "GivenUpModel" "at" "[I" ∈ TBL := TBL_mem 1552 (by decide +kernel) (by decide)
theorem wd_1554 : Cond.fieldLink "GivenUpModel" 81 "GivenUpModel" "status" "I" ∈ TBL := TBL_mem 1554 (by decide +kernel) (by decide)
theorem wd_1564 : Cond.fieldLink "GivenUpModel" 132 "GivenUpModel" "token" "I" ∈ TBL := TBL_mem 1564 (by decide +kernel) (by decide)
theorem wd_1567 : Cond.fieldLink "GivenUpModel" 129 "GivenUpModel" "value" "I" ∈ TBL := TBL_mem 1567 (by decide +kernel) (by decide)
theorem wd_1755 : Cond.methodLink "GivenUpModel" 87 ⟨"GivenUpModel", "refuse", "(I)I"⟩ ∈ TBL := TBL_mem 1755 (by decide +kernel) (by decide)
theorem wd_1757 : Cond.instanceMethod ⟨"GivenUpModel", "refuse", "(I)I"⟩ ∈ TBL := TBL_mem 1757 (by decide +kernel) (by decide)
theorem wd_1758 : Cond.code ⟨"GivenUpModel", "refuse", "(I)I"⟩ prog_14_method_7_code 2 (some .int) ∈ TBL := TBL_mem 1758 (by decide +kernel) (by decide)
theorem wd_1846 : Cond.methodLink "GivenUpModel" 91 ⟨"GivenUpModel", "gives", "(I)I"⟩ ∈ TBL := TBL_mem 1846 (by decide +kernel) (by decide)
theorem wd_1848 : Cond.instanceMethod ⟨"GivenUpModel", "gives", "(I)I"⟩ ∈ TBL := TBL_mem 1848 (by decide +kernel) (by decide)
theorem wd_1849 : Cond.code ⟨"GivenUpModel", "gives", "(I)I"⟩ prog_14_method_8_code 2 (some .int) ∈ TBL := TBL_mem 1849 (by decide +kernel) (by decide)
theorem wd_1882 : Cond.methodLink "GivenUpModel" 265 ⟨"GivenUpModel", "isSuitor", "(I)Z"⟩ ∈ TBL := TBL_mem 1882 (by decide +kernel) (by decide)
theorem wd_1884 : Cond.instanceMethod ⟨"GivenUpModel", "isSuitor", "(I)Z"⟩ ∈ TBL := TBL_mem 1884 (by decide +kernel) (by decide)
theorem wd_1885 : Cond.code ⟨"GivenUpModel", "isSuitor", "(I)Z"⟩ prog_14_method_59_code 2 (some .boolean) ∈ TBL := TBL_mem 1885 (by decide +kernel) (by decide)
theorem wd_1886 : Cond.methodLink "GivenUpModel" 289 ⟨"GivenUpModel", "suitorRow", "(I)I"⟩ ∈ TBL := TBL_mem 1886 (by decide +kernel) (by decide)
theorem wd_1887 : Cond.static ⟨"GivenUpModel", "suitorRow", "(I)I"⟩ ∈ TBL := TBL_mem 1887 (by decide +kernel) (by decide)
theorem wd_1888 : Cond.code ⟨"GivenUpModel", "suitorRow", "(I)I"⟩ prog_14_method_56_code 1 (some .int) ∈ TBL := TBL_mem 1888 (by decide +kernel) (by decide)
theorem wd_1889 : Cond.methodLink "GivenUpModel" 280 ⟨"GivenUpModel", "thingsOf", "(I)I"⟩ ∈ TBL := TBL_mem 1889 (by decide +kernel) (by decide)
theorem wd_1891 : Cond.instanceMethod ⟨"GivenUpModel", "thingsOf", "(I)I"⟩ ∈ TBL := TBL_mem 1891 (by decide +kernel) (by decide)
theorem wd_1892 : Cond.code ⟨"GivenUpModel", "thingsOf", "(I)I"⟩ prog_14_method_67_code 4 (some .int) ∈ TBL := TBL_mem 1892 (by decide +kernel) (by decide)
theorem wd_1893 : Cond.methodLink "GivenUpModel" 274 ⟨"GivenUpModel", "ownerOf", "(I)I"⟩ ∈ TBL := TBL_mem 1893 (by decide +kernel) (by decide)
theorem wd_1895 : Cond.instanceMethod ⟨"GivenUpModel", "ownerOf", "(I)I"⟩ ∈ TBL := TBL_mem 1895 (by decide +kernel) (by decide)
theorem wd_1896 : Cond.code ⟨"GivenUpModel", "ownerOf", "(I)I"⟩ prog_14_method_65_code 2 (some .int) ∈ TBL := TBL_mem 1896 (by decide +kernel) (by decide)
theorem wd_1897 : Cond.methodLink "GivenUpModel" 271 ⟨"GivenUpModel", "thingRow", "(I)I"⟩ ∈ TBL := TBL_mem 1897 (by decide +kernel) (by decide)
theorem wd_1898 : Cond.static ⟨"GivenUpModel", "thingRow", "(I)I"⟩ ∈ TBL := TBL_mem 1898 (by decide +kernel) (by decide)
theorem wd_1899 : Cond.code ⟨"GivenUpModel", "thingRow", "(I)I"⟩ prog_14_method_58_code 1 (some .int) ∈ TBL := TBL_mem 1899 (by decide +kernel) (by decide)
theorem wd_1900 : Cond.methodLink "GivenUpModel" 304 ⟨"GivenUpModel", "worthOf", "(I)I"⟩ ∈ TBL := TBL_mem 1900 (by decide +kernel) (by decide)
theorem wd_1902 : Cond.instanceMethod ⟨"GivenUpModel", "worthOf", "(I)I"⟩ ∈ TBL := TBL_mem 1902 (by decide +kernel) (by decide)
theorem wd_1903 : Cond.code ⟨"GivenUpModel", "worthOf", "(I)I"⟩ prog_14_method_68_code 4 (some .int) ∈ TBL := TBL_mem 1903 (by decide +kernel) (by decide)
theorem wd_1904 : Cond.methodLink "GivenUpModel" 277 ⟨"GivenUpModel", "isIn", "(II)Z"⟩ ∈ TBL := TBL_mem 1904 (by decide +kernel) (by decide)
theorem wd_1906 : Cond.instanceMethod ⟨"GivenUpModel", "isIn", "(II)Z"⟩ ∈ TBL := TBL_mem 1906 (by decide +kernel) (by decide)
theorem wd_1907 : Cond.code ⟨"GivenUpModel", "isIn", "(II)Z"⟩ prog_14_method_63_code 3 (some .boolean) ∈ TBL := TBL_mem 1907 (by decide +kernel) (by decide)
theorem wd_1920 : Cond.methodLink "GivenUpModel" 268 ⟨"GivenUpModel", "isMaid", "(I)Z"⟩ ∈ TBL := TBL_mem 1920 (by decide +kernel) (by decide)
theorem wd_1922 : Cond.instanceMethod ⟨"GivenUpModel", "isMaid", "(I)Z"⟩ ∈ TBL := TBL_mem 1922 (by decide +kernel) (by decide)
theorem wd_1923 : Cond.code ⟨"GivenUpModel", "isMaid", "(I)Z"⟩ prog_14_method_60_code 2 (some .boolean) ∈ TBL := TBL_mem 1923 (by decide +kernel) (by decide)
theorem wd_1924 : Cond.methodLink "GivenUpModel" 286 ⟨"GivenUpModel", "maidRow", "(I)I"⟩ ∈ TBL := TBL_mem 1924 (by decide +kernel) (by decide)
theorem wd_1925 : Cond.static ⟨"GivenUpModel", "maidRow", "(I)I"⟩ ∈ TBL := TBL_mem 1925 (by decide +kernel) (by decide)
theorem wd_1926 : Cond.code ⟨"GivenUpModel", "maidRow", "(I)I"⟩ prog_14_method_57_code 1 (some .int) ∈ TBL := TBL_mem 1926 (by decide +kernel) (by decide)
theorem wd_2022 : Cond.methodLink "GivenUpModel" 283 ⟨"GivenUpModel", "saidBy", "(II)I"⟩ ∈ TBL := TBL_mem 2022 (by decide +kernel) (by decide)
theorem wd_2024 : Cond.instanceMethod ⟨"GivenUpModel", "saidBy", "(II)I"⟩ ∈ TBL := TBL_mem 2024 (by decide +kernel) (by decide)
theorem wd_2025 : Cond.code ⟨"GivenUpModel", "saidBy", "(II)I"⟩ prog_14_method_69_code 5 (some .int) ∈ TBL := TBL_mem 2025 (by decide +kernel) (by decide)
theorem clf_0 : CLF 0 "GivenUp$Courtship" TX0 7 tyX0 := ⟨rfl, rfl, rfl, inX0, tyX0_ok, nmX0, by decide +kernel⟩
theorem clf_1 : CLF 1 "GivenUp$Deeds" TX1 7 tyX1 := ⟨rfl, rfl, rfl, inX1, tyX1_ok, nmX1, by decide +kernel⟩
theorem clf_2 : CLF 2 "GivenUp$Life" TX2 4 tyX2 := ⟨rfl, rfl, rfl, inX2, tyX2_ok, nmX2, by decide +kernel⟩
theorem clf_3 : CLF 3 "GivenUp$Plan" TX3 17 tyX3 := ⟨rfl, rfl, rfl, inX3, tyX3_ok, nmX3, by decide +kernel⟩
theorem clf_4 : CLF 4 "GivenUp$Text" TX4 11 tyX4 := ⟨rfl, rfl, rfl, inX4, tyX4_ok, nmX4, by decide +kernel⟩
theorem clf_5 : CLF 5 "GivenUp$Tray" TX5 4 tyX5 := ⟨rfl, rfl, rfl, inX5, tyX5_ok, nmX5, by decide +kernel⟩
theorem clf_6 : CLF 6 "GivenUp$Valley" TX6 20 tyX6 := ⟨rfl, rfl, rfl, inX6, tyX6_ok, nmX6, by decide +kernel⟩
theorem clf_7 : CLF 7 "GivenUp$ValleyReader" TX7 3 tyX7 := ⟨rfl, rfl, rfl, inX7, tyX7_ok, nmX7, by decide +kernel⟩
theorem clf_8 : CLF 8 "GivenUp$Village" TX8 6 tyX8 := ⟨rfl, rfl, rfl, inX8, tyX8_ok, nmX8, by decide +kernel⟩
theorem clf_9 : CLF 9 "GivenUp$Years" TX9 9 tyX9 := ⟨rfl, rfl, rfl, inX9, tyX9_ok, nmX9, by decide +kernel⟩
theorem clf_10 : CLF 10 "GivenUp$YearsReader" TX10 3 tyX10 := ⟨rfl, rfl, rfl, inX10, tyX10_ok, nmX10, by decide +kernel⟩
theorem clf_11 : CLF 11 "GivenUp" TX11 20 tyX11 := ⟨rfl, rfl, rfl, inX11, tyX11_ok, nmX11, by decide +kernel⟩
theorem clf_12 : CLF 12 "GivenUpModel" TX12 41 tyX12 := ⟨rfl, rfl, rfl, inX12, tyX12_ok, nmX12, by decide +kernel⟩
theorem aald4_ok : ∀ k, k < SHT.length → (sh k).1 = 4 → (ft k 0).2 = (5, 0) ∧ 0 + alen k ≤ cnt 5 := by decide +kernel
theorem aald5_ok : ∀ k, k < SHT.length → (sh k).1 = 5 → (ft k 0).2 = (6, 2) ∧ 2 + alen k ≤ cnt 6 := by decide +kernel
def DEC (cc : ByteArray) (pcs : Nat → Nat) (D : List (Nat × Instr × Nat)) : Prop := ∀ (i : Nat) (q : Nat × Instr × Nat), D[i]? = some q → pcs i = q.1 → decode cc (pcs i) = .ok q.2
theorem DEC_of {cc : ByteArray} {pcs : Nat → Nat} {D : List (Nat × Instr × Nat)} (h : D.all (fun q => decide (decode cc q.1 = .ok q.2)) = true) : DEC cc pcs D := fun i q hq hp => by
  rw [hp]
  exact of_decide_eq_true (List.all_eq_true.mp h q (List.mem_of_getElem? hq))
theorem RTX_room {R : Room} {s : State} {m : MethodId} {args : Array Value} {below : List Frame} {meth : Method} {cells slots : Nat} {Q : State → Prop} {D : va_G} {dA : Nat → ClassId} {ad : Nat → Nat → Nat} {A : Nat → Prop} {RR : RetP} {ret : Option FieldType} (h : RTX s m args below meth cells slots Q D dA ad A RR ret) : cells ≤ R.cells ∧ slots ≤ R.slots := ⟨by rw [h.1]; exact Nat.zero_le _, by rw [h.2.1]; exact Nat.zero_le _⟩
/-- a switch's targets, by program -/
theorem swt_of (offs : Array Int) (ts : List Nat) (f : Nat → Int → Prop) [∀ t o, Decidable (f t o)] (h : (List.range ts.length).all (fun i => match offs[i]?, ts[i]? with
    | some o, some t => decide (f t o)
    | _, _ => false) = true) : ∀ i : Nat, i < ts.length → ∃ off : Int, offs[i]? = some off ∧ ∃ t : Nat, ts[i]? = some t ∧ f t off := by
  intro i hi
  have h1 := List.all_eq_true.mp h i (List.mem_range.mpr hi)
  cases ho : offs[i]? with
  | none => simp [ho] at h1
  | some o =>
    cases ht : ts[i]? with
    | none => simp [ho, ht] at h1
    | some t =>
      simp only [ho, ht, decide_eq_true_eq] at h1
      exact ⟨o, rfl, t, rfl, h1⟩
