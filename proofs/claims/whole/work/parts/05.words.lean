/-! PART 05: the words that are used, each by its place; kinds of objects; lists of decoded instructions -/
theorem wd_87 : Cond.selects "GivenUpModel" ⟨"GivenUpModel", "ownerOf", "(I)I"⟩ ⟨"GivenUpModel", "ownerOf", "(I)I"⟩ ∈ TBL := TBL_mem 87 (by decide +kernel) (by decide)
theorem wd_160 : Cond.initialized "GivenUpModel" ∈ TBL := TBL_mem 160 (by decide +kernel) (by decide)
theorem wd_1552 : Cond.fieldLink "GivenUpModel" 7 "GivenUpModel" "at" "[I" ∈ TBL := TBL_mem 1552 (by decide +kernel) (by decide)
theorem wd_1893 : Cond.methodLink "GivenUpModel" 274 ⟨"GivenUpModel", "ownerOf", "(I)I"⟩ ∈ TBL := TBL_mem 1893 (by decide +kernel) (by decide)
theorem wd_1895 : Cond.instanceMethod ⟨"GivenUpModel", "ownerOf", "(I)I"⟩ ∈ TBL := TBL_mem 1895 (by decide +kernel) (by decide)
theorem wd_1896 : Cond.code ⟨"GivenUpModel", "ownerOf", "(I)I"⟩ prog_14_method_65_code 2 (some .int) ∈ TBL := TBL_mem 1896 (by decide +kernel) (by decide)
theorem wd_1897 : Cond.methodLink "GivenUpModel" 271 ⟨"GivenUpModel", "thingRow", "(I)I"⟩ ∈ TBL := TBL_mem 1897 (by decide +kernel) (by decide)
theorem wd_1898 : Cond.static ⟨"GivenUpModel", "thingRow", "(I)I"⟩ ∈ TBL := TBL_mem 1898 (by decide +kernel) (by decide)
theorem wd_1899 : Cond.code ⟨"GivenUpModel", "thingRow", "(I)I"⟩ prog_14_method_58_code 1 (some .int) ∈ TBL := TBL_mem 1899 (by decide +kernel) (by decide)
theorem clf_0 : CLF 0 "GivenUp$Courtship" TX0 7 tyX0 := ⟨rfl, rfl, rfl, inX0, tyX0_ok, nmX0, by decide +kernel⟩
theorem clf_1 : CLF 1 "GivenUp$Deeds" TX1 7 tyX1 := ⟨rfl, rfl, rfl, inX1, tyX1_ok, nmX1, by decide +kernel⟩
theorem clf_2 : CLF 2 "GivenUp$Life" TX2 4 tyX2 := ⟨rfl, rfl, rfl, inX2, tyX2_ok, nmX2, by decide +kernel⟩
theorem clf_3 : CLF 3 "GivenUp$Plan" TX3 17 tyX3 := ⟨rfl, rfl, rfl, inX3, tyX3_ok, nmX3, by decide +kernel⟩
theorem clf_4 : CLF 4 "GivenUp$Text" TX4 11 tyX4 := ⟨rfl, rfl, rfl, inX4, tyX4_ok, nmX4, by decide +kernel⟩
theorem clf_5 : CLF 5 "GivenUp$Tray" TX5 4 tyX5 := ⟨rfl, rfl, rfl, inX5, tyX5_ok, nmX5, by decide +kernel⟩
theorem clf_6 : CLF 6 "GivenUp$Valley" TX6 20 tyX6 := ⟨rfl, rfl, rfl, inX6, tyX6_ok, nmX6, by decide +kernel⟩
theorem clf_7 : CLF 7 "GivenUp$ValleyReader" TX7 3 tyX7 := ⟨rfl, rfl, rfl, inX7, tyX7_ok, nmX7, by decide +kernel⟩
theorem clf_8 : CLF 8 "GivenUp$Village" TX8 6 tyX8 := ⟨rfl, rfl, rfl, inX8, tyX8_ok, nmX8, by decide +kernel⟩
theorem clf_9 : CLF 9 "GivenUp$Years" TX9 9 tyX9 := ⟨rfl, rfl, rfl, inX9, tyX9_ok, nmX9, by decide +kernel⟩
theorem clf_10 : CLF 10 "GivenUp$YearsReader" TX10 3 tyX10 := ⟨rfl, rfl, rfl, inX10, tyX10_ok, nmX10, by decide +kernel⟩
theorem clf_11 : CLF 11 "GivenUp" TX11 20 tyX11 := ⟨rfl, rfl, rfl, inX11, tyX11_ok, nmX11, by decide +kernel⟩
theorem clf_12 : CLF 12 "GivenUpModel" TX12 41 tyX12 := ⟨rfl, rfl, rfl, inX12, tyX12_ok, nmX12, by decide +kernel⟩
theorem aald4_ok : ∀ k, k < SHT.length → (sh k).1 = 4 → (ft k 0).2 = (5, 0) ∧ 0 + alen k ≤ cnt 5 := by decide +kernel
theorem aald5_ok : ∀ k, k < SHT.length → (sh k).1 = 5 → (ft k 0).2 = (6, 2) ∧ 2 + alen k ≤ cnt 6 := by decide +kernel
def DEC (cc : ByteArray) (pcs : Nat → Nat) (D : List (Nat × Instr × Nat)) : Prop := ∀ (i : Nat) (q : Nat × Instr × Nat), D[i]? = some q → pcs i = q.1 → decode cc (pcs i) = .ok q.2
theorem DEC_of {cc : ByteArray} {pcs : Nat → Nat} {D : List (Nat × Instr × Nat)} (h : D.all (fun q => decide (decode cc q.1 = .ok q.2)) = true) : DEC cc pcs D := fun i q hq hp => by
  rw [hp]
  exact of_decide_eq_true (List.all_eq_true.mp h q (List.mem_of_getElem? hq))
theorem RTX_room {R : Room} {s : State} {m : MethodId} {args : Array Value} {below : List Frame} {meth : Method} {cells slots : Nat} {Q : State → Prop} {D : va_G} {dA : Nat → ClassId} {ad : Nat → Nat → Nat} {A : Nat → Prop} {RR : RetP} {ret : Option FieldType} (h : RTX s m args below meth cells slots Q D dA ad A RR ret) : cells ≤ R.cells ∧ slots ≤ R.slots := ⟨by rw [h.1]; exact Nat.zero_le _, by rw [h.2.1]; exact Nat.zero_le _⟩
/-- a switch's targets, by program -/
theorem swt_of (offs : Array Int) (ts : List Nat) (f : Nat → Int → Prop) [∀ t o, Decidable (f t o)] (h : (List.range ts.length).all (fun i => match offs[i]?, ts[i]? with
    | some o, some t => decide (f t o)
    | _, _ => false) = true) : ∀ i : Nat, i < ts.length → ∃ off : Int, offs[i]? = some off ∧ ∃ t : Nat, ts[i]? = some t ∧ f t off := by
  intro i hi
  have h1 := List.all_eq_true.mp h i (List.mem_range.mpr hi)
  cases ho : offs[i]? with
  | none => simp [ho] at h1
  | some o =>
    cases ht : ts[i]? with
    | none => simp [ho, ht] at h1
    | some t =>
      simp only [ho, ht, decide_eq_true_eq] at h1
      exact ⟨o, rfl, t, rfl, h1⟩
