/-! PART 39: further words -/
theorem wd_146 : Cond.initialized "java/lang/StringLatin1" ∈ TBL := TBL_c1 4 rfl rfl
theorem wd_147 : Cond.initialized "jdk/internal/util/Preconditions" ∈ TBL := TBL_c1 5 rfl rfl
theorem wd_185 : Cond.methodLink "java/lang/String" 335 ⟨"java/lang/String", "coder", "()B"⟩ ∈ TBL := TBL_c1 43 rfl rfl
theorem wd_186 : Cond.instanceMethod ⟨"java/lang/String", "coder", "()B"⟩ ∈ TBL := TBL_c1 44 rfl rfl
theorem wd_187 : Cond.selects "java/lang/String" ⟨"java/lang/String", "coder", "()B"⟩ ⟨"java/lang/String", "coder", "()B"⟩ ∈ TBL := TBL_c1 45 rfl rfl
theorem wd_188 : Cond.code ⟨"java/lang/String", "coder", "()B"⟩ prog_17_method_152_code 1 (some .byte) ∈ TBL := TBL_c1 46 rfl rfl
theorem wd_189 : Cond.fieldLink "java/lang/String" 38 "java/lang/String" "COMPACT_STRINGS" "Z" ∈ TBL := TBL_c1 47 rfl rfl
theorem wd_199 : Cond.methodLink "java/lang/String" 495 ⟨"java/lang/StringLatin1", "charAt", "([BI)C"⟩ ∈ TBL := TBL_c1 57 rfl rfl
theorem wd_200 : Cond.static ⟨"java/lang/StringLatin1", "charAt", "([BI)C"⟩ ∈ TBL := TBL_c1 58 rfl rfl
theorem wd_201 : Cond.code ⟨"java/lang/StringLatin1", "charAt", "([BI)C"⟩ prog_18_method_2_code 2 (some .char) ∈ TBL := TBL_c1 59 rfl rfl
theorem wd_205 : Cond.fieldLink "java/lang/String" 1053 "jdk/internal/util/Preconditions" "SIOOBE_FORMATTER" "Ljava/util/function/BiFunction;" ∈ TBL := TBL_c1 63 rfl rfl
theorem wd_207 : Cond.methodLink "java/lang/String" 1059 ⟨"jdk/internal/util/Preconditions", "checkIndex", "(IILjava/util/function/BiFunction;)I"⟩ ∈ TBL := TBL_c1 65 rfl rfl
theorem wd_208 : Cond.static ⟨"jdk/internal/util/Preconditions", "checkIndex", "(IILjava/util/function/BiFunction;)I"⟩ ∈ TBL := TBL_c1 66 rfl rfl
theorem wd_209 : Cond.code ⟨"jdk/internal/util/Preconditions", "checkIndex", "(IILjava/util/function/BiFunction;)I"⟩ prog_22_method_11_code 3 (some .int) ∈ TBL := TBL_c1 67 rfl rfl
theorem wd_2332 : Cond.fieldLink "java/lang/String" 9 "java/lang/String" "value" "[B" ∈ TBL := TBL_c10 30 rfl rfl
theorem wd_2333 : Cond.fieldLink "java/lang/String" 15 "java/lang/String" "coder" "B" ∈ TBL := TBL_c10 31 rfl rfl
