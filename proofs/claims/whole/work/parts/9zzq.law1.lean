/-! PART 9ZZQ: the law's loop: its steps on the script, its returns -/

noncomputable section
theorem wd_772 : Cond.methodLink "GivenUpLaw" 13 ⟨"GivenUp", "status", "()I"⟩ ∈ TBL := TBL_c3 150 rfl rfl
theorem wd_773 : Cond.instanceMethod ⟨"GivenUp", "status", "()I"⟩ ∈ TBL := TBL_c3 151 rfl rfl
theorem wd_774 : Cond.selects "GivenUp" ⟨"GivenUp", "status", "()I"⟩ ⟨"GivenUp", "status", "()I"⟩ ∈ TBL := TBL_c3 152 rfl rfl
theorem wd_775 : Cond.code ⟨"GivenUp", "status", "()I"⟩ prog_1_method_2_code 1 (some .int) ∈ TBL := TBL_c3 153 rfl rfl
theorem wd_776 : Cond.methodLink "GivenUpLaw" 18 ⟨"GivenUp", "top", "()J"⟩ ∈ TBL := TBL_c3 154 rfl rfl
theorem wd_777 : Cond.instanceMethod ⟨"GivenUp", "top", "()J"⟩ ∈ TBL := TBL_c3 155 rfl rfl
theorem wd_778 : Cond.selects "GivenUp" ⟨"GivenUp", "top", "()J"⟩ ⟨"GivenUp", "top", "()J"⟩ ∈ TBL := TBL_c3 156 rfl rfl
theorem wd_779 : Cond.code ⟨"GivenUp", "top", "()J"⟩ prog_1_method_3_code 1 (some .long) ∈ TBL := TBL_c3 157 rfl rfl
theorem wd_780 : Cond.methodLink "GivenUpLaw" 23 ⟨"GivenUp", "bottom", "()J"⟩ ∈ TBL := TBL_c3 158 rfl rfl
theorem wd_781 : Cond.instanceMethod ⟨"GivenUp", "bottom", "()J"⟩ ∈ TBL := TBL_c3 159 rfl rfl
theorem wd_782 : Cond.selects "GivenUp" ⟨"GivenUp", "bottom", "()J"⟩ ⟨"GivenUp", "bottom", "()J"⟩ ∈ TBL := TBL_c3 160 rfl rfl
theorem wd_783 : Cond.code ⟨"GivenUp", "bottom", "()J"⟩ prog_1_method_4_code 1 (some .long) ∈ TBL := TBL_c3 161 rfl rfl
theorem wd_784 : Cond.methodLink "GivenUpLaw" 27 ⟨"GivenUp", "tray", "(III)Z"⟩ ∈ TBL := TBL_c3 162 rfl rfl
theorem wd_785 : Cond.instanceMethod ⟨"GivenUp", "tray", "(III)Z"⟩ ∈ TBL := TBL_c3 163 rfl rfl
theorem wd_786 : Cond.selects "GivenUp" ⟨"GivenUp", "tray", "(III)Z"⟩ ⟨"GivenUp", "tray", "(III)Z"⟩ ∈ TBL := TBL_c3 164 rfl rfl
theorem wd_787 : Cond.code ⟨"GivenUp", "tray", "(III)Z"⟩ prog_1_method_5_code 4 (some .boolean) ∈ TBL := TBL_c3 165 rfl rfl
theorem wd_804 : Cond.methodLink "GivenUpLaw" 34 ⟨"GivenUp", "write", "(IIJ)Z"⟩ ∈ TBL := TBL_c3 182 rfl rfl
theorem wd_805 : Cond.instanceMethod ⟨"GivenUp", "write", "(IIJ)Z"⟩ ∈ TBL := TBL_c3 183 rfl rfl
theorem wd_806 : Cond.selects "GivenUp" ⟨"GivenUp", "write", "(IIJ)Z"⟩ ⟨"GivenUp", "write", "(IIJ)Z"⟩ ∈ TBL := TBL_c3 184 rfl rfl
theorem wd_807 : Cond.code ⟨"GivenUp", "write", "(IIJ)Z"⟩ prog_1_method_6_code 6 (some .boolean) ∈ TBL := TBL_c3 185 rfl rfl
theorem wd_817 : Cond.methodLink "GivenUpLaw" 39 ⟨"GivenUp", "read", "(II)J"⟩ ∈ TBL := TBL_c3 195 rfl rfl
theorem wd_818 : Cond.instanceMethod ⟨"GivenUp", "read", "(II)J"⟩ ∈ TBL := TBL_c3 196 rfl rfl
theorem wd_819 : Cond.selects "GivenUp" ⟨"GivenUp", "read", "(II)J"⟩ ⟨"GivenUp", "read", "(II)J"⟩ ∈ TBL := TBL_c3 197 rfl rfl
theorem wd_820 : Cond.code ⟨"GivenUp", "read", "(II)J"⟩ prog_1_method_7_code 4 (some .long) ∈ TBL := TBL_c3 198 rfl rfl
theorem wd_825 : Cond.methodLink "GivenUpLaw" 44 ⟨"GivenUp", "pour", "(IIIII)Z"⟩ ∈ TBL := TBL_c3 203 rfl rfl
theorem wd_826 : Cond.instanceMethod ⟨"GivenUp", "pour", "(IIIII)Z"⟩ ∈ TBL := TBL_c3 204 rfl rfl
theorem wd_827 : Cond.selects "GivenUp" ⟨"GivenUp", "pour", "(IIIII)Z"⟩ ⟨"GivenUp", "pour", "(IIIII)Z"⟩ ∈ TBL := TBL_c3 205 rfl rfl
theorem wd_828 : Cond.code ⟨"GivenUp", "pour", "(IIIII)Z"⟩ prog_1_method_8_code 8 (some .boolean) ∈ TBL := TBL_c3 206 rfl rfl
theorem wd_832 : Cond.methodLink "GivenUpLaw" 49 ⟨"GivenUp", "feed", "(IIIII)I"⟩ ∈ TBL := TBL_c3 210 rfl rfl
theorem wd_833 : Cond.instanceMethod ⟨"GivenUp", "feed", "(IIIII)I"⟩ ∈ TBL := TBL_c3 211 rfl rfl
theorem wd_834 : Cond.selects "GivenUp" ⟨"GivenUp", "feed", "(IIIII)I"⟩ ⟨"GivenUp", "feed", "(IIIII)I"⟩ ∈ TBL := TBL_c3 212 rfl rfl
theorem wd_835 : Cond.code ⟨"GivenUp", "feed", "(IIIII)I"⟩ prog_1_method_9_code 6 (some .int) ∈ TBL := TBL_c3 213 rfl rfl
theorem wd_840 : Cond.methodLink "GivenUpLaw" 54 ⟨"GivenUp", "valley", "(I)I"⟩ ∈ TBL := TBL_c3 218 rfl rfl
theorem wd_841 : Cond.instanceMethod ⟨"GivenUp", "valley", "(I)I"⟩ ∈ TBL := TBL_c3 219 rfl rfl
theorem wd_842 : Cond.selects "GivenUp" ⟨"GivenUp", "valley", "(I)I"⟩ ⟨"GivenUp", "valley", "(I)I"⟩ ∈ TBL := TBL_c3 220 rfl rfl
theorem wd_843 : Cond.code ⟨"GivenUp", "valley", "(I)I"⟩ prog_1_method_10_code 4 (some .int) ∈ TBL := TBL_c3 221 rfl rfl
theorem wd_968 : Cond.methodLink "GivenUpLaw" 59 ⟨"GivenUp", "years", "(I)I"⟩ ∈ TBL := TBL_c4 106 rfl rfl
theorem wd_969 : Cond.instanceMethod ⟨"GivenUp", "years", "(I)I"⟩ ∈ TBL := TBL_c4 107 rfl rfl
theorem wd_970 : Cond.selects "GivenUp" ⟨"GivenUp", "years", "(I)I"⟩ ⟨"GivenUp", "years", "(I)I"⟩ ∈ TBL := TBL_c4 108 rfl rfl
theorem wd_971 : Cond.code ⟨"GivenUp", "years", "(I)I"⟩ prog_1_method_11_code 3 (some .int) ∈ TBL := TBL_c4 109 rfl rfl
theorem wd_1008 : Cond.methodLink "GivenUpLaw" 63 ⟨"GivenUp", "fault", "(I)I"⟩ ∈ TBL := TBL_c4 146 rfl rfl
theorem wd_1009 : Cond.instanceMethod ⟨"GivenUp", "fault", "(I)I"⟩ ∈ TBL := TBL_c4 147 rfl rfl
theorem wd_1010 : Cond.selects "GivenUp" ⟨"GivenUp", "fault", "(I)I"⟩ ⟨"GivenUp", "fault", "(I)I"⟩ ∈ TBL := TBL_c4 148 rfl rfl
theorem wd_1011 : Cond.code ⟨"GivenUp", "fault", "(I)I"⟩ prog_1_method_12_code 2 (some .int) ∈ TBL := TBL_c4 149 rfl rfl
theorem wd_1012 : Cond.methodLink "GivenUpLaw" 67 ⟨"GivenUp", "told", "(I)I"⟩ ∈ TBL := TBL_c4 150 rfl rfl
theorem wd_1013 : Cond.instanceMethod ⟨"GivenUp", "told", "(I)I"⟩ ∈ TBL := TBL_c4 151 rfl rfl
theorem wd_1014 : Cond.selects "GivenUp" ⟨"GivenUp", "told", "(I)I"⟩ ⟨"GivenUp", "told", "(I)I"⟩ ∈ TBL := TBL_c4 152 rfl rfl
theorem wd_1015 : Cond.code ⟨"GivenUp", "told", "(I)I"⟩ prog_1_method_13_code 2 (some .int) ∈ TBL := TBL_c4 153 rfl rfl
theorem wd_1024 : Cond.methodLink "GivenUpLaw" 71 ⟨"GivenUp", "suitor", "(II)I"⟩ ∈ TBL := TBL_c4 162 rfl rfl
theorem wd_1025 : Cond.instanceMethod ⟨"GivenUp", "suitor", "(II)I"⟩ ∈ TBL := TBL_c4 163 rfl rfl
theorem wd_1026 : Cond.selects "GivenUp" ⟨"GivenUp", "suitor", "(II)I"⟩ ⟨"GivenUp", "suitor", "(II)I"⟩ ∈ TBL := TBL_c4 164 rfl rfl
theorem wd_1027 : Cond.code ⟨"GivenUp", "suitor", "(II)I"⟩ prog_1_method_14_code 3 (some .int) ∈ TBL := TBL_c4 165 rfl rfl
theorem wd_1049 : Cond.methodLink "GivenUpLaw" 76 ⟨"GivenUp", "maid", "(II)I"⟩ ∈ TBL := TBL_c4 187 rfl rfl
theorem wd_1050 : Cond.instanceMethod ⟨"GivenUp", "maid", "(II)I"⟩ ∈ TBL := TBL_c4 188 rfl rfl
theorem wd_1051 : Cond.selects "GivenUp" ⟨"GivenUp", "maid", "(II)I"⟩ ⟨"GivenUp", "maid", "(II)I"⟩ ∈ TBL := TBL_c4 189 rfl rfl
theorem wd_1052 : Cond.code ⟨"GivenUp", "maid", "(II)I"⟩ prog_1_method_15_code 3 (some .int) ∈ TBL := TBL_c4 190 rfl rfl
theorem wd_1057 : Cond.methodLink "GivenUpLaw" 80 ⟨"GivenUp", "thing", "(II)I"⟩ ∈ TBL := TBL_c4 195 rfl rfl
theorem wd_1058 : Cond.instanceMethod ⟨"GivenUp", "thing", "(II)I"⟩ ∈ TBL := TBL_c4 196 rfl rfl
theorem wd_1059 : Cond.selects "GivenUp" ⟨"GivenUp", "thing", "(II)I"⟩ ⟨"GivenUp", "thing", "(II)I"⟩ ∈ TBL := TBL_c4 197 rfl rfl
theorem wd_1060 : Cond.code ⟨"GivenUp", "thing", "(II)I"⟩ prog_1_method_16_code 3 (some .int) ∈ TBL := TBL_c4 198 rfl rfl
theorem wd_1075 : Cond.methodLink "GivenUpLaw" 84 ⟨"GivenUp", "says", "(II)I"⟩ ∈ TBL := TBL_c4 213 rfl rfl
theorem wd_1076 : Cond.instanceMethod ⟨"GivenUp", "says", "(II)I"⟩ ∈ TBL := TBL_c4 214 rfl rfl
theorem wd_1077 : Cond.selects "GivenUp" ⟨"GivenUp", "says", "(II)I"⟩ ⟨"GivenUp", "says", "(II)I"⟩ ∈ TBL := TBL_c4 215 rfl rfl
theorem wd_1078 : Cond.code ⟨"GivenUp", "says", "(II)I"⟩ prog_1_method_17_code 3 (some .int) ∈ TBL := TBL_c4 216 rfl rfl
theorem wd_1083 : Cond.methodLink "GivenUpLaw" 88 ⟨"GivenUp", "likes", "(II)I"⟩ ∈ TBL := TBL_c4 221 rfl rfl
theorem wd_1084 : Cond.instanceMethod ⟨"GivenUp", "likes", "(II)I"⟩ ∈ TBL := TBL_c4 222 rfl rfl
theorem wd_1085 : Cond.selects "GivenUp" ⟨"GivenUp", "likes", "(II)I"⟩ ⟨"GivenUp", "likes", "(II)I"⟩ ∈ TBL := TBL_c4 223 rfl rfl
theorem wd_1086 : Cond.code ⟨"GivenUp", "likes", "(II)I"⟩ prog_1_method_18_code 3 (some .int) ∈ TBL := TBL_c4 224 rfl rfl
theorem wd_1091 : Cond.methodLink "GivenUpLaw" 92 ⟨"GivenUp", "give", "(I)I"⟩ ∈ TBL := TBL_c4 229 rfl rfl
theorem wd_1092 : Cond.instanceMethod ⟨"GivenUp", "give", "(I)I"⟩ ∈ TBL := TBL_c4 230 rfl rfl
theorem wd_1093 : Cond.selects "GivenUp" ⟨"GivenUp", "give", "(I)I"⟩ ⟨"GivenUp", "give", "(I)I"⟩ ∈ TBL := TBL_c4 231 rfl rfl
theorem wd_1094 : Cond.code ⟨"GivenUp", "give", "(I)I"⟩ prog_1_method_19_code 2 (some .int) ∈ TBL := TBL_c4 232 rfl rfl
theorem wd_1103 : Cond.methodLink "GivenUpLaw" 96 ⟨"GivenUp", "feign", "(I)I"⟩ ∈ TBL := TBL_c5 1 rfl rfl
theorem wd_1104 : Cond.instanceMethod ⟨"GivenUp", "feign", "(I)I"⟩ ∈ TBL := TBL_c5 2 rfl rfl
theorem wd_1105 : Cond.selects "GivenUp" ⟨"GivenUp", "feign", "(I)I"⟩ ⟨"GivenUp", "feign", "(I)I"⟩ ∈ TBL := TBL_c5 3 rfl rfl
theorem wd_1106 : Cond.code ⟨"GivenUp", "feign", "(I)I"⟩ prog_1_method_20_code 2 (some .int) ∈ TBL := TBL_c5 4 rfl rfl
theorem wd_1115 : Cond.methodLink "GivenUpLaw" 100 ⟨"GivenUp", "found", "(I)I"⟩ ∈ TBL := TBL_c5 13 rfl rfl
theorem wd_1116 : Cond.instanceMethod ⟨"GivenUp", "found", "(I)I"⟩ ∈ TBL := TBL_c5 14 rfl rfl
theorem wd_1117 : Cond.selects "GivenUp" ⟨"GivenUp", "found", "(I)I"⟩ ⟨"GivenUp", "found", "(I)I"⟩ ∈ TBL := TBL_c5 15 rfl rfl
theorem wd_1118 : Cond.code ⟨"GivenUp", "found", "(I)I"⟩ prog_1_method_21_code 2 (some .int) ∈ TBL := TBL_c5 16 rfl rfl
theorem wd_1120 : Cond.methodLink "GivenUpLaw" 104 ⟨"GivenUp", "may", "(I)I"⟩ ∈ TBL := TBL_c5 18 rfl rfl
theorem wd_1121 : Cond.instanceMethod ⟨"GivenUp", "may", "(I)I"⟩ ∈ TBL := TBL_c5 19 rfl rfl
theorem wd_1122 : Cond.selects "GivenUp" ⟨"GivenUp", "may", "(I)I"⟩ ⟨"GivenUp", "may", "(I)I"⟩ ∈ TBL := TBL_c5 20 rfl rfl
theorem wd_1123 : Cond.code ⟨"GivenUp", "may", "(I)I"⟩ prog_1_method_22_code 2 (some .int) ∈ TBL := TBL_c5 21 rfl rfl
theorem wd_1128 : Cond.methodLink "GivenUpLaw" 108 ⟨"GivenUp", "week", "()I"⟩ ∈ TBL := TBL_c5 26 rfl rfl
theorem wd_1129 : Cond.instanceMethod ⟨"GivenUp", "week", "()I"⟩ ∈ TBL := TBL_c5 27 rfl rfl
theorem wd_1130 : Cond.selects "GivenUp" ⟨"GivenUp", "week", "()I"⟩ ⟨"GivenUp", "week", "()I"⟩ ∈ TBL := TBL_c5 28 rfl rfl
theorem wd_1131 : Cond.code ⟨"GivenUp", "week", "()I"⟩ prog_1_method_23_code 1 (some .int) ∈ TBL := TBL_c5 29 rfl rfl
theorem wd_1136 : Cond.methodLink "GivenUpLaw" 112 ⟨"GivenUp", "heard", "(II)I"⟩ ∈ TBL := TBL_c5 34 rfl rfl
theorem wd_1137 : Cond.instanceMethod ⟨"GivenUp", "heard", "(II)I"⟩ ∈ TBL := TBL_c5 35 rfl rfl
theorem wd_1138 : Cond.selects "GivenUp" ⟨"GivenUp", "heard", "(II)I"⟩ ⟨"GivenUp", "heard", "(II)I"⟩ ∈ TBL := TBL_c5 36 rfl rfl
theorem wd_1139 : Cond.code ⟨"GivenUp", "heard", "(II)I"⟩ prog_1_method_24_code 3 (some .int) ∈ TBL := TBL_c5 37 rfl rfl
theorem wd_1148 : Cond.methodLink "GivenUpLaw" 116 ⟨"GivenUp", "yes", "(II)I"⟩ ∈ TBL := TBL_c5 46 rfl rfl
theorem wd_1149 : Cond.instanceMethod ⟨"GivenUp", "yes", "(II)I"⟩ ∈ TBL := TBL_c5 47 rfl rfl
theorem wd_1150 : Cond.selects "GivenUp" ⟨"GivenUp", "yes", "(II)I"⟩ ⟨"GivenUp", "yes", "(II)I"⟩ ∈ TBL := TBL_c5 48 rfl rfl
theorem wd_1151 : Cond.code ⟨"GivenUp", "yes", "(II)I"⟩ prog_1_method_25_code 3 (some .int) ∈ TBL := TBL_c5 49 rfl rfl
theorem wd_1162 : Cond.methodLink "GivenUpLaw" 120 ⟨"GivenUp", "lacks", "(II)I"⟩ ∈ TBL := TBL_c5 60 rfl rfl
theorem wd_1163 : Cond.instanceMethod ⟨"GivenUp", "lacks", "(II)I"⟩ ∈ TBL := TBL_c5 61 rfl rfl
theorem wd_1164 : Cond.selects "GivenUp" ⟨"GivenUp", "lacks", "(II)I"⟩ ⟨"GivenUp", "lacks", "(II)I"⟩ ∈ TBL := TBL_c5 62 rfl rfl
theorem wd_1165 : Cond.code ⟨"GivenUp", "lacks", "(II)I"⟩ prog_1_method_26_code 3 (some .int) ∈ TBL := TBL_c5 63 rfl rfl
theorem wd_1166 : Cond.methodLink "GivenUpLaw" 124 ⟨"GivenUp", "wed", "(II)I"⟩ ∈ TBL := TBL_c5 64 rfl rfl
theorem wd_1167 : Cond.instanceMethod ⟨"GivenUp", "wed", "(II)I"⟩ ∈ TBL := TBL_c5 65 rfl rfl
theorem wd_1168 : Cond.selects "GivenUp" ⟨"GivenUp", "wed", "(II)I"⟩ ⟨"GivenUp", "wed", "(II)I"⟩ ∈ TBL := TBL_c5 66 rfl rfl
theorem wd_1169 : Cond.code ⟨"GivenUp", "wed", "(II)I"⟩ prog_1_method_27_code 3 (some .int) ∈ TBL := TBL_c5 67 rfl rfl
theorem wd_1175 : Cond.methodLink "GivenUpLaw" 128 ⟨"GivenUp", "back", "(I)I"⟩ ∈ TBL := TBL_c5 73 rfl rfl
theorem wd_1176 : Cond.instanceMethod ⟨"GivenUp", "back", "(I)I"⟩ ∈ TBL := TBL_c5 74 rfl rfl
theorem wd_1177 : Cond.selects "GivenUp" ⟨"GivenUp", "back", "(I)I"⟩ ⟨"GivenUp", "back", "(I)I"⟩ ∈ TBL := TBL_c5 75 rfl rfl
theorem wd_1178 : Cond.code ⟨"GivenUp", "back", "(I)I"⟩ prog_1_method_28_code 2 (some .int) ∈ TBL := TBL_c5 76 rfl rfl
theorem wd_1194 : Cond.methodLink "GivenUpLaw" 132 ⟨"GivenUp", "toFair", "()I"⟩ ∈ TBL := TBL_c5 92 rfl rfl
theorem wd_1195 : Cond.instanceMethod ⟨"GivenUp", "toFair", "()I"⟩ ∈ TBL := TBL_c5 93 rfl rfl
theorem wd_1196 : Cond.selects "GivenUp" ⟨"GivenUp", "toFair", "()I"⟩ ⟨"GivenUp", "toFair", "()I"⟩ ∈ TBL := TBL_c5 94 rfl rfl
theorem wd_1197 : Cond.code ⟨"GivenUp", "toFair", "()I"⟩ prog_1_method_29_code 1 (some .int) ∈ TBL := TBL_c5 95 rfl rfl
theorem wd_1199 : Cond.methodLink "GivenUpLaw" 136 ⟨"GivenUp", "bare", "(I)I"⟩ ∈ TBL := TBL_c5 97 rfl rfl
theorem wd_1200 : Cond.instanceMethod ⟨"GivenUp", "bare", "(I)I"⟩ ∈ TBL := TBL_c5 98 rfl rfl
theorem wd_1201 : Cond.selects "GivenUp" ⟨"GivenUp", "bare", "(I)I"⟩ ⟨"GivenUp", "bare", "(I)I"⟩ ∈ TBL := TBL_c5 99 rfl rfl
theorem wd_1202 : Cond.code ⟨"GivenUp", "bare", "(I)I"⟩ prog_1_method_30_code 2 (some .int) ∈ TBL := TBL_c5 100 rfl rfl
theorem wd_1207 : Cond.methodLink "GivenUpLaw" 140 ⟨"GivenUp", "wouldHave", "(I)I"⟩ ∈ TBL := TBL_c5 105 rfl rfl
theorem wd_1208 : Cond.instanceMethod ⟨"GivenUp", "wouldHave", "(I)I"⟩ ∈ TBL := TBL_c5 106 rfl rfl
theorem wd_1209 : Cond.selects "GivenUp" ⟨"GivenUp", "wouldHave", "(I)I"⟩ ⟨"GivenUp", "wouldHave", "(I)I"⟩ ∈ TBL := TBL_c5 107 rfl rfl
theorem wd_1210 : Cond.code ⟨"GivenUp", "wouldHave", "(I)I"⟩ prog_1_method_31_code 2 (some .int) ∈ TBL := TBL_c5 108 rfl rfl
theorem wd_1219 : Cond.methodLink "GivenUpLaw" 144 ⟨"GivenUp", "proud", "(I)I"⟩ ∈ TBL := TBL_c5 117 rfl rfl
theorem wd_1220 : Cond.instanceMethod ⟨"GivenUp", "proud", "(I)I"⟩ ∈ TBL := TBL_c5 118 rfl rfl
theorem wd_1221 : Cond.selects "GivenUp" ⟨"GivenUp", "proud", "(I)I"⟩ ⟨"GivenUp", "proud", "(I)I"⟩ ∈ TBL := TBL_c5 119 rfl rfl
theorem wd_1222 : Cond.code ⟨"GivenUp", "proud", "(I)I"⟩ prog_1_method_32_code 2 (some .int) ∈ TBL := TBL_c5 120 rfl rfl
theorem wd_1228 : Cond.methodLink "GivenUpLaw" 148 ⟨"GivenUp", "dearest", "(II)I"⟩ ∈ TBL := TBL_c5 126 rfl rfl
theorem wd_1229 : Cond.instanceMethod ⟨"GivenUp", "dearest", "(II)I"⟩ ∈ TBL := TBL_c5 127 rfl rfl
theorem wd_1230 : Cond.selects "GivenUp" ⟨"GivenUp", "dearest", "(II)I"⟩ ⟨"GivenUp", "dearest", "(II)I"⟩ ∈ TBL := TBL_c5 128 rfl rfl
theorem wd_1231 : Cond.code ⟨"GivenUp", "dearest", "(II)I"⟩ prog_1_method_33_code 3 (some .int) ∈ TBL := TBL_c5 129 rfl rfl
theorem wd_1241 : Cond.methodLink "GivenUpLaw" 152 ⟨"GivenUp", "share", "(II)Z"⟩ ∈ TBL := TBL_c5 139 rfl rfl
theorem wd_1242 : Cond.instanceMethod ⟨"GivenUp", "share", "(II)Z"⟩ ∈ TBL := TBL_c5 140 rfl rfl
theorem wd_1243 : Cond.selects "GivenUp" ⟨"GivenUp", "share", "(II)Z"⟩ ⟨"GivenUp", "share", "(II)Z"⟩ ∈ TBL := TBL_c5 141 rfl rfl
theorem wd_1244 : Cond.code ⟨"GivenUp", "share", "(II)Z"⟩ prog_1_method_34_code 4 (some .boolean) ∈ TBL := TBL_c5 142 rfl rfl
theorem wd_1253 : Cond.methodLink "GivenUpLaw" 157 ⟨"GivenUp", "like", "(III)Z"⟩ ∈ TBL := TBL_c5 151 rfl rfl
theorem wd_1254 : Cond.instanceMethod ⟨"GivenUp", "like", "(III)Z"⟩ ∈ TBL := TBL_c5 152 rfl rfl
theorem wd_1255 : Cond.selects "GivenUp" ⟨"GivenUp", "like", "(III)Z"⟩ ⟨"GivenUp", "like", "(III)Z"⟩ ∈ TBL := TBL_c5 153 rfl rfl
theorem wd_1256 : Cond.code ⟨"GivenUp", "like", "(III)Z"⟩ prog_1_method_35_code 4 (some .boolean) ∈ TBL := TBL_c5 154 rfl rfl
theorem wd_1257 : Cond.methodLink "GivenUpLaw" 161 ⟨"GivenUp", "bar", "(II)Z"⟩ ∈ TBL := TBL_c5 155 rfl rfl
theorem wd_1258 : Cond.instanceMethod ⟨"GivenUp", "bar", "(II)Z"⟩ ∈ TBL := TBL_c5 156 rfl rfl
theorem wd_1259 : Cond.selects "GivenUp" ⟨"GivenUp", "bar", "(II)Z"⟩ ⟨"GivenUp", "bar", "(II)Z"⟩ ∈ TBL := TBL_c5 157 rfl rfl
theorem wd_1260 : Cond.code ⟨"GivenUp", "bar", "(II)Z"⟩ prog_1_method_36_code 3 (some .boolean) ∈ TBL := TBL_c5 158 rfl rfl
theorem wd_1261 : Cond.methodLink "GivenUpLaw" 165 ⟨"GivenUp", "least", "(III)I"⟩ ∈ TBL := TBL_c5 159 rfl rfl
theorem wd_1262 : Cond.instanceMethod ⟨"GivenUp", "least", "(III)I"⟩ ∈ TBL := TBL_c5 160 rfl rfl
theorem wd_1263 : Cond.selects "GivenUp" ⟨"GivenUp", "least", "(III)I"⟩ ⟨"GivenUp", "least", "(III)I"⟩ ∈ TBL := TBL_c5 161 rfl rfl
theorem wd_1264 : Cond.code ⟨"GivenUp", "least", "(III)I"⟩ prog_1_method_37_code 5 (some .int) ∈ TBL := TBL_c5 162 rfl rfl
theorem wd_1306 : Cond.methodLink "GivenUpLaw" 170 ⟨"GivenUp", "leastSet", "(III)I"⟩ ∈ TBL := TBL_c5 204 rfl rfl
theorem wd_1307 : Cond.instanceMethod ⟨"GivenUp", "leastSet", "(III)I"⟩ ∈ TBL := TBL_c5 205 rfl rfl
theorem wd_1308 : Cond.selects "GivenUp" ⟨"GivenUp", "leastSet", "(III)I"⟩ ⟨"GivenUp", "leastSet", "(III)I"⟩ ∈ TBL := TBL_c5 206 rfl rfl
theorem wd_1309 : Cond.code ⟨"GivenUp", "leastSet", "(III)I"⟩ prog_1_method_38_code 5 (some .int) ∈ TBL := TBL_c5 207 rfl rfl
theorem wd_1310 : Cond.methodLink "GivenUpLaw" 174 ⟨"GivenUp", "fewest", "(III)I"⟩ ∈ TBL := TBL_c5 208 rfl rfl
theorem wd_1311 : Cond.instanceMethod ⟨"GivenUp", "fewest", "(III)I"⟩ ∈ TBL := TBL_c5 209 rfl rfl
theorem wd_1312 : Cond.selects "GivenUp" ⟨"GivenUp", "fewest", "(III)I"⟩ ⟨"GivenUp", "fewest", "(III)I"⟩ ∈ TBL := TBL_c5 210 rfl rfl
theorem wd_1313 : Cond.code ⟨"GivenUp", "fewest", "(III)I"⟩ prog_1_method_39_code 5 (some .int) ∈ TBL := TBL_c5 211 rfl rfl
theorem wd_1314 : Cond.methodLink "GivenUpLaw" 178 ⟨"GivenUp", "soonest", "(II)I"⟩ ∈ TBL := TBL_c5 212 rfl rfl
theorem wd_1315 : Cond.instanceMethod ⟨"GivenUp", "soonest", "(II)I"⟩ ∈ TBL := TBL_c5 213 rfl rfl
theorem wd_1316 : Cond.selects "GivenUp" ⟨"GivenUp", "soonest", "(II)I"⟩ ⟨"GivenUp", "soonest", "(II)I"⟩ ∈ TBL := TBL_c5 214 rfl rfl
theorem wd_1317 : Cond.code ⟨"GivenUp", "soonest", "(II)I"⟩ prog_1_method_40_code 4 (some .int) ∈ TBL := TBL_c5 215 rfl rfl
theorem wd_1318 : Cond.methodLink "GivenUpLaw" 182 ⟨"GivenUp", "most", "(III)I"⟩ ∈ TBL := TBL_c5 216 rfl rfl
theorem wd_1319 : Cond.instanceMethod ⟨"GivenUp", "most", "(III)I"⟩ ∈ TBL := TBL_c5 217 rfl rfl
theorem wd_1320 : Cond.selects "GivenUp" ⟨"GivenUp", "most", "(III)I"⟩ ⟨"GivenUp", "most", "(III)I"⟩ ∈ TBL := TBL_c5 218 rfl rfl
theorem wd_1321 : Cond.code ⟨"GivenUp", "most", "(III)I"⟩ prog_1_method_41_code 4 (some .int) ∈ TBL := TBL_c5 219 rfl rfl
theorem wd_1322 : Cond.methodLink "GivenUpLaw" 186 ⟨"GivenUp", "rivals", "(III)I"⟩ ∈ TBL := TBL_c5 220 rfl rfl
theorem wd_1323 : Cond.instanceMethod ⟨"GivenUp", "rivals", "(III)I"⟩ ∈ TBL := TBL_c5 221 rfl rfl
theorem wd_1324 : Cond.selects "GivenUp" ⟨"GivenUp", "rivals", "(III)I"⟩ ⟨"GivenUp", "rivals", "(III)I"⟩ ∈ TBL := TBL_c5 222 rfl rfl
theorem wd_1325 : Cond.code ⟨"GivenUp", "rivals", "(III)I"⟩ prog_1_method_42_code 6 (some .int) ∈ TBL := TBL_c5 223 rfl rfl
theorem wd_1326 : Cond.methodLink "GivenUpLaw" 190 ⟨"GivenUp", "cheapest", "(II)I"⟩ ∈ TBL := TBL_c5 224 rfl rfl
theorem wd_1327 : Cond.instanceMethod ⟨"GivenUp", "cheapest", "(II)I"⟩ ∈ TBL := TBL_c5 225 rfl rfl
theorem wd_1328 : Cond.selects "GivenUp" ⟨"GivenUp", "cheapest", "(II)I"⟩ ⟨"GivenUp", "cheapest", "(II)I"⟩ ∈ TBL := TBL_c5 226 rfl rfl
theorem wd_1329 : Cond.code ⟨"GivenUp", "cheapest", "(II)I"⟩ prog_1_method_43_code 6 (some .int) ∈ TBL := TBL_c5 227 rfl rfl
theorem wd_1334 : Cond.methodLink "GivenUpLaw" 194 ⟨"GivenUp", "within", "(II)I"⟩ ∈ TBL := TBL_c5 232 rfl rfl
theorem wd_1335 : Cond.instanceMethod ⟨"GivenUp", "within", "(II)I"⟩ ∈ TBL := TBL_c5 233 rfl rfl
theorem wd_1336 : Cond.selects "GivenUp" ⟨"GivenUp", "within", "(II)I"⟩ ⟨"GivenUp", "within", "(II)I"⟩ ∈ TBL := TBL_c5 234 rfl rfl
theorem wd_1337 : Cond.code ⟨"GivenUp", "within", "(II)I"⟩ prog_1_method_44_code 5 (some .int) ∈ TBL := TBL_c5 235 rfl rfl
theorem wd_1338 : Cond.methodLink "GivenUpLaw" 198 ⟨"GivenUp", "village", "(II)I"⟩ ∈ TBL := TBL_c5 236 rfl rfl
theorem wd_1339 : Cond.instanceMethod ⟨"GivenUp", "village", "(II)I"⟩ ∈ TBL := TBL_c5 237 rfl rfl
theorem wd_1340 : Cond.selects "GivenUp" ⟨"GivenUp", "village", "(II)I"⟩ ⟨"GivenUp", "village", "(II)I"⟩ ∈ TBL := TBL_c5 238 rfl rfl
theorem wd_1341 : Cond.code ⟨"GivenUp", "village", "(II)I"⟩ prog_1_method_45_code 3 (some .int) ∈ TBL := TBL_c5 239 rfl rfl
theorem wd_1361 : Cond.methodLink "GivenUpLaw" 202 ⟨"GivenUp", "villager", "(II)I"⟩ ∈ TBL := TBL_c6 19 rfl rfl
theorem wd_1362 : Cond.instanceMethod ⟨"GivenUp", "villager", "(II)I"⟩ ∈ TBL := TBL_c6 20 rfl rfl
theorem wd_1363 : Cond.selects "GivenUp" ⟨"GivenUp", "villager", "(II)I"⟩ ⟨"GivenUp", "villager", "(II)I"⟩ ∈ TBL := TBL_c6 21 rfl rfl
theorem wd_1364 : Cond.code ⟨"GivenUp", "villager", "(II)I"⟩ prog_1_method_46_code 3 (some .int) ∈ TBL := TBL_c6 22 rfl rfl
theorem wd_1365 : Cond.methodLink "GivenUpLaw" 206 ⟨"GivenUp", "bolts", "(I)I"⟩ ∈ TBL := TBL_c6 23 rfl rfl
theorem wd_1366 : Cond.instanceMethod ⟨"GivenUp", "bolts", "(I)I"⟩ ∈ TBL := TBL_c6 24 rfl rfl
theorem wd_1367 : Cond.selects "GivenUp" ⟨"GivenUp", "bolts", "(I)I"⟩ ⟨"GivenUp", "bolts", "(I)I"⟩ ∈ TBL := TBL_c6 25 rfl rfl
theorem wd_1368 : Cond.code ⟨"GivenUp", "bolts", "(I)I"⟩ prog_1_method_47_code 3 (some .int) ∈ TBL := TBL_c6 26 rfl rfl
theorem wd_1392 : Cond.methodLink "GivenUpLaw" 210 ⟨"GivenUp", "bolter", "(II)I"⟩ ∈ TBL := TBL_c6 50 rfl rfl
theorem wd_1393 : Cond.instanceMethod ⟨"GivenUp", "bolter", "(II)I"⟩ ∈ TBL := TBL_c6 51 rfl rfl
theorem wd_1394 : Cond.selects "GivenUp" ⟨"GivenUp", "bolter", "(II)I"⟩ ⟨"GivenUp", "bolter", "(II)I"⟩ ∈ TBL := TBL_c6 52 rfl rfl
theorem wd_1395 : Cond.code ⟨"GivenUp", "bolter", "(II)I"⟩ prog_1_method_48_code 4 (some .int) ∈ TBL := TBL_c6 53 rfl rfl
theorem wd_1396 : Cond.methodLink "GivenUpLaw" 214 ⟨"GivenUp", "asked", "(I)I"⟩ ∈ TBL := TBL_c6 54 rfl rfl
theorem wd_1397 : Cond.instanceMethod ⟨"GivenUp", "asked", "(I)I"⟩ ∈ TBL := TBL_c6 55 rfl rfl
theorem wd_1398 : Cond.selects "GivenUp" ⟨"GivenUp", "asked", "(I)I"⟩ ⟨"GivenUp", "asked", "(I)I"⟩ ∈ TBL := TBL_c6 56 rfl rfl
theorem wd_1399 : Cond.code ⟨"GivenUp", "asked", "(I)I"⟩ prog_1_method_49_code 2 (some .int) ∈ TBL := TBL_c6 57 rfl rfl
theorem wd_1414 : Cond.methodLink "GivenUpLaw" 218 ⟨"GivenUp", "refusals", "()I"⟩ ∈ TBL := TBL_c6 72 rfl rfl
theorem wd_1415 : Cond.instanceMethod ⟨"GivenUp", "refusals", "()I"⟩ ∈ TBL := TBL_c6 73 rfl rfl
theorem wd_1416 : Cond.selects "GivenUp" ⟨"GivenUp", "refusals", "()I"⟩ ⟨"GivenUp", "refusals", "()I"⟩ ∈ TBL := TBL_c6 74 rfl rfl
theorem wd_1417 : Cond.code ⟨"GivenUp", "refusals", "()I"⟩ prog_1_method_50_code 1 (some .int) ∈ TBL := TBL_c6 75 rfl rfl
theorem wd_1418 : Cond.methodLink "GivenUpLaw" 222 ⟨"GivenUp", "keep", "(I)I"⟩ ∈ TBL := TBL_c6 76 rfl rfl
theorem wd_1419 : Cond.instanceMethod ⟨"GivenUp", "keep", "(I)I"⟩ ∈ TBL := TBL_c6 77 rfl rfl
theorem wd_1420 : Cond.selects "GivenUp" ⟨"GivenUp", "keep", "(I)I"⟩ ⟨"GivenUp", "keep", "(I)I"⟩ ∈ TBL := TBL_c6 78 rfl rfl
theorem wd_1421 : Cond.code ⟨"GivenUp", "keep", "(I)I"⟩ prog_1_method_51_code 6 (some .int) ∈ TBL := TBL_c6 79 rfl rfl
theorem wd_1422 : Cond.methodLink "GivenUpLaw" 226 ⟨"GivenUp", "orders", "(I)J"⟩ ∈ TBL := TBL_c6 80 rfl rfl
theorem wd_1423 : Cond.instanceMethod ⟨"GivenUp", "orders", "(I)J"⟩ ∈ TBL := TBL_c6 81 rfl rfl
theorem wd_1424 : Cond.selects "GivenUp" ⟨"GivenUp", "orders", "(I)J"⟩ ⟨"GivenUp", "orders", "(I)J"⟩ ∈ TBL := TBL_c6 82 rfl rfl
theorem wd_1425 : Cond.code ⟨"GivenUp", "orders", "(I)J"⟩ prog_1_method_52_code 2 (some .long) ∈ TBL := TBL_c6 83 rfl rfl
theorem wd_1434 : Cond.methodLink "GivenUpLaw" 231 ⟨"GivenUp", "ends", "(II)I"⟩ ∈ TBL := TBL_c6 92 rfl rfl
theorem wd_1435 : Cond.instanceMethod ⟨"GivenUp", "ends", "(II)I"⟩ ∈ TBL := TBL_c6 93 rfl rfl
theorem wd_1436 : Cond.selects "GivenUp" ⟨"GivenUp", "ends", "(II)I"⟩ ⟨"GivenUp", "ends", "(II)I"⟩ ∈ TBL := TBL_c6 94 rfl rfl
theorem wd_1437 : Cond.code ⟨"GivenUp", "ends", "(II)I"⟩ prog_1_method_53_code 4 (some .int) ∈ TBL := TBL_c6 95 rfl rfl
theorem wd_1446 : Cond.methodLink "GivenUpLaw" 235 ⟨"GivenUp", "needs", "(I)I"⟩ ∈ TBL := TBL_c6 104 rfl rfl
theorem wd_1447 : Cond.instanceMethod ⟨"GivenUp", "needs", "(I)I"⟩ ∈ TBL := TBL_c6 105 rfl rfl
theorem wd_1448 : Cond.selects "GivenUp" ⟨"GivenUp", "needs", "(I)I"⟩ ⟨"GivenUp", "needs", "(I)I"⟩ ∈ TBL := TBL_c6 106 rfl rfl
theorem wd_1449 : Cond.code ⟨"GivenUp", "needs", "(I)I"⟩ prog_1_method_54_code 2 (some .int) ∈ TBL := TBL_c6 107 rfl rfl
theorem wd_1450 : Cond.methodLink "GivenUpLaw" 239 ⟨"GivenUp", "never", "(I)I"⟩ ∈ TBL := TBL_c6 108 rfl rfl
theorem wd_1451 : Cond.instanceMethod ⟨"GivenUp", "never", "(I)I"⟩ ∈ TBL := TBL_c6 109 rfl rfl
theorem wd_1452 : Cond.selects "GivenUp" ⟨"GivenUp", "never", "(I)I"⟩ ⟨"GivenUp", "never", "(I)I"⟩ ∈ TBL := TBL_c6 110 rfl rfl
theorem wd_1453 : Cond.code ⟨"GivenUp", "never", "(I)I"⟩ prog_1_method_55_code 2 (some .int) ∈ TBL := TBL_c6 111 rfl rfl
theorem wd_1454 : Cond.methodLink "GivenUpLaw" 243 ⟨"GivenUp", "ways", "(I)J"⟩ ∈ TBL := TBL_c6 112 rfl rfl
theorem wd_1455 : Cond.instanceMethod ⟨"GivenUp", "ways", "(I)J"⟩ ∈ TBL := TBL_c6 113 rfl rfl
theorem wd_1456 : Cond.selects "GivenUp" ⟨"GivenUp", "ways", "(I)J"⟩ ⟨"GivenUp", "ways", "(I)J"⟩ ∈ TBL := TBL_c6 114 rfl rfl
theorem wd_1457 : Cond.code ⟨"GivenUp", "ways", "(I)J"⟩ prog_1_method_56_code 2 (some .long) ∈ TBL := TBL_c6 115 rfl rfl
theorem wd_1458 : Cond.methodLink "GivenUpLaw" 247 ⟨"GivenUp", "lies", "(III)I"⟩ ∈ TBL := TBL_c6 116 rfl rfl
theorem wd_1459 : Cond.instanceMethod ⟨"GivenUp", "lies", "(III)I"⟩ ∈ TBL := TBL_c6 117 rfl rfl
theorem wd_1460 : Cond.selects "GivenUp" ⟨"GivenUp", "lies", "(III)I"⟩ ⟨"GivenUp", "lies", "(III)I"⟩ ∈ TBL := TBL_c6 118 rfl rfl
theorem wd_1461 : Cond.code ⟨"GivenUp", "lies", "(III)I"⟩ prog_1_method_57_code 5 (some .int) ∈ TBL := TBL_c6 119 rfl rfl
theorem wd_1463 : Cond.methodLink "GivenUpLaw" 251 ⟨"GivenUp", "cheats", "(I)I"⟩ ∈ TBL := TBL_c6 121 rfl rfl
theorem wd_1464 : Cond.instanceMethod ⟨"GivenUp", "cheats", "(I)I"⟩ ∈ TBL := TBL_c6 122 rfl rfl
theorem wd_1465 : Cond.selects "GivenUp" ⟨"GivenUp", "cheats", "(I)I"⟩ ⟨"GivenUp", "cheats", "(I)I"⟩ ∈ TBL := TBL_c6 123 rfl rfl
theorem wd_1466 : Cond.code ⟨"GivenUp", "cheats", "(I)I"⟩ prog_1_method_58_code 5 (some .int) ∈ TBL := TBL_c6 124 rfl rfl
theorem wd_1467 : Cond.methodLink "GivenUpLaw" 255 ⟨"GivenUp", "live", "(I)I"⟩ ∈ TBL := TBL_c6 125 rfl rfl
theorem wd_1468 : Cond.instanceMethod ⟨"GivenUp", "live", "(I)I"⟩ ∈ TBL := TBL_c6 126 rfl rfl
theorem wd_1469 : Cond.selects "GivenUp" ⟨"GivenUp", "live", "(I)I"⟩ ⟨"GivenUp", "live", "(I)I"⟩ ∈ TBL := TBL_c6 127 rfl rfl
theorem wd_1470 : Cond.code ⟨"GivenUp", "live", "(I)I"⟩ prog_1_method_59_code 2 (some .int) ∈ TBL := TBL_c6 128 rfl rfl
theorem wd_1516 : Cond.methodLink "GivenUpLaw" 259 ⟨"GivenUp", "lived", "(I)I"⟩ ∈ TBL := TBL_c6 174 rfl rfl
theorem wd_1517 : Cond.instanceMethod ⟨"GivenUp", "lived", "(I)I"⟩ ∈ TBL := TBL_c6 175 rfl rfl
theorem wd_1518 : Cond.selects "GivenUp" ⟨"GivenUp", "lived", "(I)I"⟩ ⟨"GivenUp", "lived", "(I)I"⟩ ∈ TBL := TBL_c6 176 rfl rfl
theorem wd_1519 : Cond.code ⟨"GivenUp", "lived", "(I)I"⟩ prog_1_method_60_code 2 (some .int) ∈ TBL := TBL_c6 177 rfl rfl
theorem wd_1520 : Cond.methodLink "GivenUpLaw" 263 ⟨"GivenUp", "mean", "(III)Z"⟩ ∈ TBL := TBL_c6 178 rfl rfl
theorem wd_1521 : Cond.instanceMethod ⟨"GivenUp", "mean", "(III)Z"⟩ ∈ TBL := TBL_c6 179 rfl rfl
theorem wd_1522 : Cond.selects "GivenUp" ⟨"GivenUp", "mean", "(III)Z"⟩ ⟨"GivenUp", "mean", "(III)Z"⟩ ∈ TBL := TBL_c6 180 rfl rfl
theorem wd_1523 : Cond.code ⟨"GivenUp", "mean", "(III)Z"⟩ prog_1_method_61_code 7 (some .boolean) ∈ TBL := TBL_c6 181 rfl rfl
theorem wd_1534 : Cond.methodLink "GivenUpLaw" 267 ⟨"GivenUp", "mark", "()I"⟩ ∈ TBL := TBL_c6 192 rfl rfl
theorem wd_1535 : Cond.instanceMethod ⟨"GivenUp", "mark", "()I"⟩ ∈ TBL := TBL_c6 193 rfl rfl
theorem wd_1536 : Cond.selects "GivenUp" ⟨"GivenUp", "mark", "()I"⟩ ⟨"GivenUp", "mark", "()I"⟩ ∈ TBL := TBL_c6 194 rfl rfl
theorem wd_1537 : Cond.code ⟨"GivenUp", "mark", "()I"⟩ prog_1_method_62_code 1 (some .int) ∈ TBL := TBL_c6 195 rfl rfl
theorem wd_1538 : Cond.methodLink "GivenUpLaw" 271 ⟨"GivenUp", "undo", "()I"⟩ ∈ TBL := TBL_c6 196 rfl rfl
theorem wd_1539 : Cond.instanceMethod ⟨"GivenUp", "undo", "()I"⟩ ∈ TBL := TBL_c6 197 rfl rfl
theorem wd_1540 : Cond.selects "GivenUp" ⟨"GivenUp", "undo", "()I"⟩ ⟨"GivenUp", "undo", "()I"⟩ ∈ TBL := TBL_c6 198 rfl rfl
theorem wd_1541 : Cond.code ⟨"GivenUp", "undo", "()I"⟩ prog_1_method_63_code 1 (some .int) ∈ TBL := TBL_c6 199 rfl rfl
theorem wd_1676 : Cond.methodLink "GivenUpLaw" 17 ⟨"GivenUpModel", "status", "()I"⟩ ∈ TBL := TBL_c7 94 rfl rfl
theorem wd_1677 : Cond.instanceMethod ⟨"GivenUpModel", "status", "()I"⟩ ∈ TBL := TBL_c7 95 rfl rfl
theorem wd_1678 : Cond.selects "GivenUpModel" ⟨"GivenUpModel", "status", "()I"⟩ ⟨"GivenUpModel", "status", "()I"⟩ ∈ TBL := TBL_c7 96 rfl rfl
theorem wd_1679 : Cond.code ⟨"GivenUpModel", "status", "()I"⟩ prog_14_method_3_code 1 (some .int) ∈ TBL := TBL_c7 97 rfl rfl
theorem wd_1680 : Cond.methodLink "GivenUpLaw" 22 ⟨"GivenUpModel", "top", "()J"⟩ ∈ TBL := TBL_c7 98 rfl rfl
theorem wd_1681 : Cond.instanceMethod ⟨"GivenUpModel", "top", "()J"⟩ ∈ TBL := TBL_c7 99 rfl rfl
theorem wd_1682 : Cond.selects "GivenUpModel" ⟨"GivenUpModel", "top", "()J"⟩ ⟨"GivenUpModel", "top", "()J"⟩ ∈ TBL := TBL_c7 100 rfl rfl
theorem wd_1683 : Cond.code ⟨"GivenUpModel", "top", "()J"⟩ prog_14_method_4_code 1 (some .long) ∈ TBL := TBL_c7 101 rfl rfl
theorem wd_1684 : Cond.methodLink "GivenUpLaw" 26 ⟨"GivenUpModel", "bottom", "()J"⟩ ∈ TBL := TBL_c7 102 rfl rfl
theorem wd_1685 : Cond.instanceMethod ⟨"GivenUpModel", "bottom", "()J"⟩ ∈ TBL := TBL_c7 103 rfl rfl
theorem wd_1686 : Cond.selects "GivenUpModel" ⟨"GivenUpModel", "bottom", "()J"⟩ ⟨"GivenUpModel", "bottom", "()J"⟩ ∈ TBL := TBL_c7 104 rfl rfl
theorem wd_1687 : Cond.code ⟨"GivenUpModel", "bottom", "()J"⟩ prog_14_method_5_code 1 (some .long) ∈ TBL := TBL_c7 105 rfl rfl
theorem wd_1688 : Cond.methodLink "GivenUpLaw" 31 ⟨"GivenUpModel", "tray", "(III)Z"⟩ ∈ TBL := TBL_c7 106 rfl rfl
theorem wd_1689 : Cond.instanceMethod ⟨"GivenUpModel", "tray", "(III)Z"⟩ ∈ TBL := TBL_c7 107 rfl rfl
theorem wd_1690 : Cond.selects "GivenUpModel" ⟨"GivenUpModel", "tray", "(III)Z"⟩ ⟨"GivenUpModel", "tray", "(III)Z"⟩ ∈ TBL := TBL_c7 108 rfl rfl
theorem wd_1691 : Cond.code ⟨"GivenUpModel", "tray", "(III)Z"⟩ prog_14_method_14_code 5 (some .boolean) ∈ TBL := TBL_c7 109 rfl rfl
theorem wd_1699 : Cond.methodLink "GivenUpLaw" 38 ⟨"GivenUpModel", "write", "(IIJ)Z"⟩ ∈ TBL := TBL_c7 117 rfl rfl
theorem wd_1700 : Cond.instanceMethod ⟨"GivenUpModel", "write", "(IIJ)Z"⟩ ∈ TBL := TBL_c7 118 rfl rfl
theorem wd_1701 : Cond.selects "GivenUpModel" ⟨"GivenUpModel", "write", "(IIJ)Z"⟩ ⟨"GivenUpModel", "write", "(IIJ)Z"⟩ ∈ TBL := TBL_c7 119 rfl rfl
theorem wd_1702 : Cond.code ⟨"GivenUpModel", "write", "(IIJ)Z"⟩ prog_14_method_16_code 6 (some .boolean) ∈ TBL := TBL_c7 120 rfl rfl
theorem wd_1710 : Cond.methodLink "GivenUpLaw" 43 ⟨"GivenUpModel", "read", "(II)J"⟩ ∈ TBL := TBL_c7 128 rfl rfl
theorem wd_1711 : Cond.instanceMethod ⟨"GivenUpModel", "read", "(II)J"⟩ ∈ TBL := TBL_c7 129 rfl rfl
theorem wd_1712 : Cond.selects "GivenUpModel" ⟨"GivenUpModel", "read", "(II)J"⟩ ⟨"GivenUpModel", "read", "(II)J"⟩ ∈ TBL := TBL_c7 130 rfl rfl
theorem wd_1713 : Cond.code ⟨"GivenUpModel", "read", "(II)J"⟩ prog_14_method_17_code 3 (some .long) ∈ TBL := TBL_c7 131 rfl rfl
theorem wd_1715 : Cond.methodLink "GivenUpLaw" 48 ⟨"GivenUpModel", "pour", "(IIIII)Z"⟩ ∈ TBL := TBL_c7 133 rfl rfl
theorem wd_1716 : Cond.instanceMethod ⟨"GivenUpModel", "pour", "(IIIII)Z"⟩ ∈ TBL := TBL_c7 134 rfl rfl
theorem wd_1717 : Cond.selects "GivenUpModel" ⟨"GivenUpModel", "pour", "(IIIII)Z"⟩ ⟨"GivenUpModel", "pour", "(IIIII)Z"⟩ ∈ TBL := TBL_c7 135 rfl rfl
theorem wd_1718 : Cond.code ⟨"GivenUpModel", "pour", "(IIIII)Z"⟩ prog_14_method_18_code 8 (some .boolean) ∈ TBL := TBL_c7 136 rfl rfl
theorem wd_1719 : Cond.methodLink "GivenUpLaw" 53 ⟨"GivenUpModel", "feed", "(IIIII)I"⟩ ∈ TBL := TBL_c7 137 rfl rfl
theorem wd_1720 : Cond.instanceMethod ⟨"GivenUpModel", "feed", "(IIIII)I"⟩ ∈ TBL := TBL_c7 138 rfl rfl
theorem wd_1721 : Cond.selects "GivenUpModel" ⟨"GivenUpModel", "feed", "(IIIII)I"⟩ ⟨"GivenUpModel", "feed", "(IIIII)I"⟩ ∈ TBL := TBL_c7 139 rfl rfl
theorem wd_1722 : Cond.code ⟨"GivenUpModel", "feed", "(IIIII)I"⟩ prog_14_method_20_code 6 (some .int) ∈ TBL := TBL_c7 140 rfl rfl
theorem wd_1727 : Cond.methodLink "GivenUpLaw" 66 ⟨"GivenUpModel", "fault", "(I)I"⟩ ∈ TBL := TBL_c7 145 rfl rfl
theorem wd_1728 : Cond.instanceMethod ⟨"GivenUpModel", "fault", "(I)I"⟩ ∈ TBL := TBL_c7 146 rfl rfl
theorem wd_1729 : Cond.selects "GivenUpModel" ⟨"GivenUpModel", "fault", "(I)I"⟩ ⟨"GivenUpModel", "fault", "(I)I"⟩ ∈ TBL := TBL_c7 147 rfl rfl
theorem wd_1730 : Cond.code ⟨"GivenUpModel", "fault", "(I)I"⟩ prog_14_method_36_code 2 (some .int) ∈ TBL := TBL_c7 148 rfl rfl
theorem wd_1731 : Cond.methodLink "GivenUpLaw" 58 ⟨"GivenUpModel", "valley", "(I)I"⟩ ∈ TBL := TBL_c7 149 rfl rfl
theorem wd_1732 : Cond.instanceMethod ⟨"GivenUpModel", "valley", "(I)I"⟩ ∈ TBL := TBL_c7 150 rfl rfl
theorem wd_1733 : Cond.selects "GivenUpModel" ⟨"GivenUpModel", "valley", "(I)I"⟩ ⟨"GivenUpModel", "valley", "(I)I"⟩ ∈ TBL := TBL_c7 151 rfl rfl
theorem wd_1734 : Cond.code ⟨"GivenUpModel", "valley", "(I)I"⟩ prog_14_method_49_code 4 (some .int) ∈ TBL := TBL_c7 152 rfl rfl
theorem wd_1850 : Cond.methodLink "GivenUpLaw" 62 ⟨"GivenUpModel", "years", "(I)I"⟩ ∈ TBL := TBL_c8 28 rfl rfl
theorem wd_1851 : Cond.instanceMethod ⟨"GivenUpModel", "years", "(I)I"⟩ ∈ TBL := TBL_c8 29 rfl rfl
theorem wd_1852 : Cond.selects "GivenUpModel" ⟨"GivenUpModel", "years", "(I)I"⟩ ⟨"GivenUpModel", "years", "(I)I"⟩ ∈ TBL := TBL_c8 30 rfl rfl
theorem wd_1853 : Cond.code ⟨"GivenUpModel", "years", "(I)I"⟩ prog_14_method_55_code 4 (some .int) ∈ TBL := TBL_c8 31 rfl rfl
theorem wd_1874 : Cond.methodLink "GivenUpLaw" 70 ⟨"GivenUpModel", "told", "(I)I"⟩ ∈ TBL := TBL_c8 52 rfl rfl
theorem wd_1875 : Cond.instanceMethod ⟨"GivenUpModel", "told", "(I)I"⟩ ∈ TBL := TBL_c8 53 rfl rfl
theorem wd_1876 : Cond.selects "GivenUpModel" ⟨"GivenUpModel", "told", "(I)I"⟩ ⟨"GivenUpModel", "told", "(I)I"⟩ ∈ TBL := TBL_c8 54 rfl rfl
theorem wd_1877 : Cond.code ⟨"GivenUpModel", "told", "(I)I"⟩ prog_14_method_75_code 2 (some .int) ∈ TBL := TBL_c8 55 rfl rfl
theorem wd_1878 : Cond.methodLink "GivenUpLaw" 75 ⟨"GivenUpModel", "suitor", "(II)I"⟩ ∈ TBL := TBL_c8 56 rfl rfl
theorem wd_1879 : Cond.instanceMethod ⟨"GivenUpModel", "suitor", "(II)I"⟩ ∈ TBL := TBL_c8 57 rfl rfl
theorem wd_1880 : Cond.selects "GivenUpModel" ⟨"GivenUpModel", "suitor", "(II)I"⟩ ⟨"GivenUpModel", "suitor", "(II)I"⟩ ∈ TBL := TBL_c8 58 rfl rfl
theorem wd_1881 : Cond.code ⟨"GivenUpModel", "suitor", "(II)I"⟩ prog_14_method_76_code 4 (some .int) ∈ TBL := TBL_c8 59 rfl rfl
theorem wd_1916 : Cond.methodLink "GivenUpLaw" 79 ⟨"GivenUpModel", "maid", "(II)I"⟩ ∈ TBL := TBL_c8 94 rfl rfl
theorem wd_1917 : Cond.instanceMethod ⟨"GivenUpModel", "maid", "(II)I"⟩ ∈ TBL := TBL_c8 95 rfl rfl
theorem wd_1918 : Cond.selects "GivenUpModel" ⟨"GivenUpModel", "maid", "(II)I"⟩ ⟨"GivenUpModel", "maid", "(II)I"⟩ ∈ TBL := TBL_c8 96 rfl rfl
theorem wd_1919 : Cond.code ⟨"GivenUpModel", "maid", "(II)I"⟩ prog_14_method_78_code 4 (some .int) ∈ TBL := TBL_c8 97 rfl rfl
theorem wd_1931 : Cond.methodLink "GivenUpLaw" 83 ⟨"GivenUpModel", "thing", "(II)I"⟩ ∈ TBL := TBL_c8 109 rfl rfl
theorem wd_1932 : Cond.instanceMethod ⟨"GivenUpModel", "thing", "(II)I"⟩ ∈ TBL := TBL_c8 110 rfl rfl
theorem wd_1933 : Cond.selects "GivenUpModel" ⟨"GivenUpModel", "thing", "(II)I"⟩ ⟨"GivenUpModel", "thing", "(II)I"⟩ ∈ TBL := TBL_c8 111 rfl rfl
theorem wd_1934 : Cond.code ⟨"GivenUpModel", "thing", "(II)I"⟩ prog_14_method_79_code 3 (some .int) ∈ TBL := TBL_c8 112 rfl rfl
theorem wd_1958 : Cond.methodLink "GivenUpLaw" 87 ⟨"GivenUpModel", "says", "(II)I"⟩ ∈ TBL := TBL_c8 136 rfl rfl
theorem wd_1959 : Cond.instanceMethod ⟨"GivenUpModel", "says", "(II)I"⟩ ∈ TBL := TBL_c8 137 rfl rfl
theorem wd_1960 : Cond.selects "GivenUpModel" ⟨"GivenUpModel", "says", "(II)I"⟩ ⟨"GivenUpModel", "says", "(II)I"⟩ ∈ TBL := TBL_c8 138 rfl rfl
theorem wd_1961 : Cond.code ⟨"GivenUpModel", "says", "(II)I"⟩ prog_14_method_80_code 3 (some .int) ∈ TBL := TBL_c8 139 rfl rfl
theorem wd_1962 : Cond.methodLink "GivenUpLaw" 91 ⟨"GivenUpModel", "likes", "(II)I"⟩ ∈ TBL := TBL_c8 140 rfl rfl
theorem wd_1963 : Cond.instanceMethod ⟨"GivenUpModel", "likes", "(II)I"⟩ ∈ TBL := TBL_c8 141 rfl rfl
theorem wd_1964 : Cond.selects "GivenUpModel" ⟨"GivenUpModel", "likes", "(II)I"⟩ ⟨"GivenUpModel", "likes", "(II)I"⟩ ∈ TBL := TBL_c8 142 rfl rfl
theorem wd_1965 : Cond.code ⟨"GivenUpModel", "likes", "(II)I"⟩ prog_14_method_81_code 3 (some .int) ∈ TBL := TBL_c8 143 rfl rfl
theorem wd_1970 : Cond.methodLink "GivenUpLaw" 95 ⟨"GivenUpModel", "give", "(I)I"⟩ ∈ TBL := TBL_c8 148 rfl rfl
theorem wd_1971 : Cond.instanceMethod ⟨"GivenUpModel", "give", "(I)I"⟩ ∈ TBL := TBL_c8 149 rfl rfl
theorem wd_1972 : Cond.selects "GivenUpModel" ⟨"GivenUpModel", "give", "(I)I"⟩ ⟨"GivenUpModel", "give", "(I)I"⟩ ∈ TBL := TBL_c8 150 rfl rfl
theorem wd_1973 : Cond.code ⟨"GivenUpModel", "give", "(I)I"⟩ prog_14_method_84_code 2 (some .int) ∈ TBL := TBL_c8 151 rfl rfl
theorem wd_1986 : Cond.methodLink "GivenUpLaw" 99 ⟨"GivenUpModel", "feign", "(I)I"⟩ ∈ TBL := TBL_c8 164 rfl rfl
theorem wd_1987 : Cond.instanceMethod ⟨"GivenUpModel", "feign", "(I)I"⟩ ∈ TBL := TBL_c8 165 rfl rfl
theorem wd_1988 : Cond.selects "GivenUpModel" ⟨"GivenUpModel", "feign", "(I)I"⟩ ⟨"GivenUpModel", "feign", "(I)I"⟩ ∈ TBL := TBL_c8 166 rfl rfl
theorem wd_1989 : Cond.code ⟨"GivenUpModel", "feign", "(I)I"⟩ prog_14_method_86_code 2 (some .int) ∈ TBL := TBL_c8 167 rfl rfl
theorem wd_1994 : Cond.methodLink "GivenUpLaw" 103 ⟨"GivenUpModel", "found", "(I)I"⟩ ∈ TBL := TBL_c8 172 rfl rfl
theorem wd_1995 : Cond.instanceMethod ⟨"GivenUpModel", "found", "(I)I"⟩ ∈ TBL := TBL_c8 173 rfl rfl
theorem wd_1996 : Cond.selects "GivenUpModel" ⟨"GivenUpModel", "found", "(I)I"⟩ ⟨"GivenUpModel", "found", "(I)I"⟩ ∈ TBL := TBL_c8 174 rfl rfl
theorem wd_1997 : Cond.code ⟨"GivenUpModel", "found", "(I)I"⟩ prog_14_method_87_code 2 (some .int) ∈ TBL := TBL_c8 175 rfl rfl
theorem wd_1998 : Cond.methodLink "GivenUpLaw" 107 ⟨"GivenUpModel", "may", "(I)I"⟩ ∈ TBL := TBL_c8 176 rfl rfl
theorem wd_1999 : Cond.instanceMethod ⟨"GivenUpModel", "may", "(I)I"⟩ ∈ TBL := TBL_c8 177 rfl rfl
theorem wd_2000 : Cond.selects "GivenUpModel" ⟨"GivenUpModel", "may", "(I)I"⟩ ⟨"GivenUpModel", "may", "(I)I"⟩ ∈ TBL := TBL_c8 178 rfl rfl
theorem wd_2001 : Cond.code ⟨"GivenUpModel", "may", "(I)I"⟩ prog_14_method_89_code 2 (some .int) ∈ TBL := TBL_c8 179 rfl rfl
theorem wd_2006 : Cond.methodLink "GivenUpLaw" 111 ⟨"GivenUpModel", "week", "()I"⟩ ∈ TBL := TBL_c8 184 rfl rfl
theorem wd_2007 : Cond.instanceMethod ⟨"GivenUpModel", "week", "()I"⟩ ∈ TBL := TBL_c8 185 rfl rfl
theorem wd_2008 : Cond.selects "GivenUpModel" ⟨"GivenUpModel", "week", "()I"⟩ ⟨"GivenUpModel", "week", "()I"⟩ ∈ TBL := TBL_c8 186 rfl rfl
theorem wd_2009 : Cond.code ⟨"GivenUpModel", "week", "()I"⟩ prog_14_method_91_code 1 (some .int) ∈ TBL := TBL_c8 187 rfl rfl
theorem wd_2014 : Cond.methodLink "GivenUpLaw" 115 ⟨"GivenUpModel", "heard", "(II)I"⟩ ∈ TBL := TBL_c8 192 rfl rfl
theorem wd_2015 : Cond.instanceMethod ⟨"GivenUpModel", "heard", "(II)I"⟩ ∈ TBL := TBL_c8 193 rfl rfl
theorem wd_2016 : Cond.selects "GivenUpModel" ⟨"GivenUpModel", "heard", "(II)I"⟩ ⟨"GivenUpModel", "heard", "(II)I"⟩ ∈ TBL := TBL_c8 194 rfl rfl
theorem wd_2017 : Cond.code ⟨"GivenUpModel", "heard", "(II)I"⟩ prog_14_method_92_code 3 (some .int) ∈ TBL := TBL_c8 195 rfl rfl
theorem wd_2026 : Cond.methodLink "GivenUpLaw" 119 ⟨"GivenUpModel", "yes", "(II)I"⟩ ∈ TBL := TBL_c8 204 rfl rfl
theorem wd_2027 : Cond.instanceMethod ⟨"GivenUpModel", "yes", "(II)I"⟩ ∈ TBL := TBL_c8 205 rfl rfl
theorem wd_2028 : Cond.selects "GivenUpModel" ⟨"GivenUpModel", "yes", "(II)I"⟩ ⟨"GivenUpModel", "yes", "(II)I"⟩ ∈ TBL := TBL_c8 206 rfl rfl
theorem wd_2029 : Cond.code ⟨"GivenUpModel", "yes", "(II)I"⟩ prog_14_method_93_code 3 (some .int) ∈ TBL := TBL_c8 207 rfl rfl
theorem wd_2038 : Cond.methodLink "GivenUpLaw" 123 ⟨"GivenUpModel", "lacks", "(II)I"⟩ ∈ TBL := TBL_c8 216 rfl rfl
theorem wd_2039 : Cond.instanceMethod ⟨"GivenUpModel", "lacks", "(II)I"⟩ ∈ TBL := TBL_c8 217 rfl rfl
theorem wd_2040 : Cond.selects "GivenUpModel" ⟨"GivenUpModel", "lacks", "(II)I"⟩ ⟨"GivenUpModel", "lacks", "(II)I"⟩ ∈ TBL := TBL_c8 218 rfl rfl
theorem wd_2041 : Cond.code ⟨"GivenUpModel", "lacks", "(II)I"⟩ prog_14_method_94_code 3 (some .int) ∈ TBL := TBL_c8 219 rfl rfl
theorem wd_2042 : Cond.methodLink "GivenUpLaw" 127 ⟨"GivenUpModel", "wed", "(II)I"⟩ ∈ TBL := TBL_c8 220 rfl rfl
theorem wd_2043 : Cond.instanceMethod ⟨"GivenUpModel", "wed", "(II)I"⟩ ∈ TBL := TBL_c8 221 rfl rfl
theorem wd_2044 : Cond.selects "GivenUpModel" ⟨"GivenUpModel", "wed", "(II)I"⟩ ⟨"GivenUpModel", "wed", "(II)I"⟩ ∈ TBL := TBL_c8 222 rfl rfl
theorem wd_2045 : Cond.code ⟨"GivenUpModel", "wed", "(II)I"⟩ prog_14_method_96_code 3 (some .int) ∈ TBL := TBL_c8 223 rfl rfl
theorem wd_2050 : Cond.methodLink "GivenUpLaw" 131 ⟨"GivenUpModel", "back", "(I)I"⟩ ∈ TBL := TBL_c8 228 rfl rfl
theorem wd_2051 : Cond.instanceMethod ⟨"GivenUpModel", "back", "(I)I"⟩ ∈ TBL := TBL_c8 229 rfl rfl
theorem wd_2052 : Cond.selects "GivenUpModel" ⟨"GivenUpModel", "back", "(I)I"⟩ ⟨"GivenUpModel", "back", "(I)I"⟩ ∈ TBL := TBL_c8 230 rfl rfl
theorem wd_2053 : Cond.code ⟨"GivenUpModel", "back", "(I)I"⟩ prog_14_method_100_code 2 (some .int) ∈ TBL := TBL_c8 231 rfl rfl
theorem wd_2067 : Cond.methodLink "GivenUpLaw" 135 ⟨"GivenUpModel", "toFair", "()I"⟩ ∈ TBL := TBL_c9 5 rfl rfl
theorem wd_2068 : Cond.instanceMethod ⟨"GivenUpModel", "toFair", "()I"⟩ ∈ TBL := TBL_c9 6 rfl rfl
theorem wd_2069 : Cond.selects "GivenUpModel" ⟨"GivenUpModel", "toFair", "()I"⟩ ⟨"GivenUpModel", "toFair", "()I"⟩ ∈ TBL := TBL_c9 7 rfl rfl
theorem wd_2070 : Cond.code ⟨"GivenUpModel", "toFair", "()I"⟩ prog_14_method_101_code 1 (some .int) ∈ TBL := TBL_c9 8 rfl rfl
theorem wd_2071 : Cond.methodLink "GivenUpLaw" 139 ⟨"GivenUpModel", "bare", "(I)I"⟩ ∈ TBL := TBL_c9 9 rfl rfl
theorem wd_2072 : Cond.instanceMethod ⟨"GivenUpModel", "bare", "(I)I"⟩ ∈ TBL := TBL_c9 10 rfl rfl
theorem wd_2073 : Cond.selects "GivenUpModel" ⟨"GivenUpModel", "bare", "(I)I"⟩ ⟨"GivenUpModel", "bare", "(I)I"⟩ ∈ TBL := TBL_c9 11 rfl rfl
theorem wd_2074 : Cond.code ⟨"GivenUpModel", "bare", "(I)I"⟩ prog_14_method_103_code 2 (some .int) ∈ TBL := TBL_c9 12 rfl rfl
theorem wd_2079 : Cond.methodLink "GivenUpLaw" 143 ⟨"GivenUpModel", "wouldHave", "(I)I"⟩ ∈ TBL := TBL_c9 17 rfl rfl
theorem wd_2080 : Cond.instanceMethod ⟨"GivenUpModel", "wouldHave", "(I)I"⟩ ∈ TBL := TBL_c9 18 rfl rfl
theorem wd_2081 : Cond.selects "GivenUpModel" ⟨"GivenUpModel", "wouldHave", "(I)I"⟩ ⟨"GivenUpModel", "wouldHave", "(I)I"⟩ ∈ TBL := TBL_c9 19 rfl rfl
theorem wd_2082 : Cond.code ⟨"GivenUpModel", "wouldHave", "(I)I"⟩ prog_14_method_105_code 4 (some .int) ∈ TBL := TBL_c9 20 rfl rfl
theorem wd_2087 : Cond.methodLink "GivenUpLaw" 147 ⟨"GivenUpModel", "proud", "(I)I"⟩ ∈ TBL := TBL_c9 25 rfl rfl
theorem wd_2088 : Cond.instanceMethod ⟨"GivenUpModel", "proud", "(I)I"⟩ ∈ TBL := TBL_c9 26 rfl rfl
theorem wd_2089 : Cond.selects "GivenUpModel" ⟨"GivenUpModel", "proud", "(I)I"⟩ ⟨"GivenUpModel", "proud", "(I)I"⟩ ∈ TBL := TBL_c9 27 rfl rfl
theorem wd_2090 : Cond.code ⟨"GivenUpModel", "proud", "(I)I"⟩ prog_14_method_106_code 4 (some .int) ∈ TBL := TBL_c9 28 rfl rfl
theorem wd_2091 : Cond.methodLink "GivenUpLaw" 151 ⟨"GivenUpModel", "dearest", "(II)I"⟩ ∈ TBL := TBL_c9 29 rfl rfl
theorem wd_2092 : Cond.instanceMethod ⟨"GivenUpModel", "dearest", "(II)I"⟩ ∈ TBL := TBL_c9 30 rfl rfl
theorem wd_2093 : Cond.selects "GivenUpModel" ⟨"GivenUpModel", "dearest", "(II)I"⟩ ⟨"GivenUpModel", "dearest", "(II)I"⟩ ∈ TBL := TBL_c9 31 rfl rfl
theorem wd_2094 : Cond.code ⟨"GivenUpModel", "dearest", "(II)I"⟩ prog_14_method_107_code 6 (some .int) ∈ TBL := TBL_c9 32 rfl rfl
theorem wd_2095 : Cond.methodLink "GivenUpLaw" 156 ⟨"GivenUpModel", "share", "(II)Z"⟩ ∈ TBL := TBL_c9 33 rfl rfl
theorem wd_2096 : Cond.instanceMethod ⟨"GivenUpModel", "share", "(II)Z"⟩ ∈ TBL := TBL_c9 34 rfl rfl
theorem wd_2097 : Cond.selects "GivenUpModel" ⟨"GivenUpModel", "share", "(II)Z"⟩ ⟨"GivenUpModel", "share", "(II)Z"⟩ ∈ TBL := TBL_c9 35 rfl rfl
theorem wd_2098 : Cond.code ⟨"GivenUpModel", "share", "(II)Z"⟩ prog_14_method_108_code 4 (some .boolean) ∈ TBL := TBL_c9 36 rfl rfl
theorem wd_2103 : Cond.methodLink "GivenUpLaw" 160 ⟨"GivenUpModel", "like", "(III)Z"⟩ ∈ TBL := TBL_c9 41 rfl rfl
theorem wd_2104 : Cond.instanceMethod ⟨"GivenUpModel", "like", "(III)Z"⟩ ∈ TBL := TBL_c9 42 rfl rfl
theorem wd_2105 : Cond.selects "GivenUpModel" ⟨"GivenUpModel", "like", "(III)Z"⟩ ⟨"GivenUpModel", "like", "(III)Z"⟩ ∈ TBL := TBL_c9 43 rfl rfl
theorem wd_2106 : Cond.code ⟨"GivenUpModel", "like", "(III)Z"⟩ prog_14_method_109_code 4 (some .boolean) ∈ TBL := TBL_c9 44 rfl rfl
theorem wd_2111 : Cond.methodLink "GivenUpLaw" 164 ⟨"GivenUpModel", "bar", "(II)Z"⟩ ∈ TBL := TBL_c9 49 rfl rfl
theorem wd_2112 : Cond.instanceMethod ⟨"GivenUpModel", "bar", "(II)Z"⟩ ∈ TBL := TBL_c9 50 rfl rfl
theorem wd_2113 : Cond.selects "GivenUpModel" ⟨"GivenUpModel", "bar", "(II)Z"⟩ ⟨"GivenUpModel", "bar", "(II)Z"⟩ ∈ TBL := TBL_c9 51 rfl rfl
theorem wd_2114 : Cond.code ⟨"GivenUpModel", "bar", "(II)Z"⟩ prog_14_method_110_code 3 (some .boolean) ∈ TBL := TBL_c9 52 rfl rfl
theorem wd_2116 : Cond.methodLink "GivenUpLaw" 169 ⟨"GivenUpModel", "least", "(III)I"⟩ ∈ TBL := TBL_c9 54 rfl rfl
theorem wd_2117 : Cond.instanceMethod ⟨"GivenUpModel", "least", "(III)I"⟩ ∈ TBL := TBL_c9 55 rfl rfl
theorem wd_2118 : Cond.selects "GivenUpModel" ⟨"GivenUpModel", "least", "(III)I"⟩ ⟨"GivenUpModel", "least", "(III)I"⟩ ∈ TBL := TBL_c9 56 rfl rfl
theorem wd_2119 : Cond.code ⟨"GivenUpModel", "least", "(III)I"⟩ prog_14_method_117_code 6 (some .int) ∈ TBL := TBL_c9 57 rfl rfl
theorem wd_2143 : Cond.methodLink "GivenUpLaw" 173 ⟨"GivenUpModel", "leastSet", "(III)I"⟩ ∈ TBL := TBL_c9 81 rfl rfl
theorem wd_2144 : Cond.instanceMethod ⟨"GivenUpModel", "leastSet", "(III)I"⟩ ∈ TBL := TBL_c9 82 rfl rfl
theorem wd_2145 : Cond.selects "GivenUpModel" ⟨"GivenUpModel", "leastSet", "(III)I"⟩ ⟨"GivenUpModel", "leastSet", "(III)I"⟩ ∈ TBL := TBL_c9 83 rfl rfl
theorem wd_2146 : Cond.code ⟨"GivenUpModel", "leastSet", "(III)I"⟩ prog_14_method_118_code 5 (some .int) ∈ TBL := TBL_c9 84 rfl rfl
theorem wd_2147 : Cond.methodLink "GivenUpLaw" 177 ⟨"GivenUpModel", "fewest", "(III)I"⟩ ∈ TBL := TBL_c9 85 rfl rfl
theorem wd_2148 : Cond.instanceMethod ⟨"GivenUpModel", "fewest", "(III)I"⟩ ∈ TBL := TBL_c9 86 rfl rfl
theorem wd_2149 : Cond.selects "GivenUpModel" ⟨"GivenUpModel", "fewest", "(III)I"⟩ ⟨"GivenUpModel", "fewest", "(III)I"⟩ ∈ TBL := TBL_c9 87 rfl rfl
theorem wd_2150 : Cond.code ⟨"GivenUpModel", "fewest", "(III)I"⟩ prog_14_method_119_code 6 (some .int) ∈ TBL := TBL_c9 88 rfl rfl
theorem wd_2151 : Cond.methodLink "GivenUpLaw" 181 ⟨"GivenUpModel", "soonest", "(II)I"⟩ ∈ TBL := TBL_c9 89 rfl rfl
theorem wd_2152 : Cond.instanceMethod ⟨"GivenUpModel", "soonest", "(II)I"⟩ ∈ TBL := TBL_c9 90 rfl rfl
theorem wd_2153 : Cond.selects "GivenUpModel" ⟨"GivenUpModel", "soonest", "(II)I"⟩ ⟨"GivenUpModel", "soonest", "(II)I"⟩ ∈ TBL := TBL_c9 91 rfl rfl
theorem wd_2154 : Cond.code ⟨"GivenUpModel", "soonest", "(II)I"⟩ prog_14_method_121_code 5 (some .int) ∈ TBL := TBL_c9 92 rfl rfl
theorem wd_2160 : Cond.methodLink "GivenUpLaw" 185 ⟨"GivenUpModel", "most", "(III)I"⟩ ∈ TBL := TBL_c9 98 rfl rfl
theorem wd_2161 : Cond.instanceMethod ⟨"GivenUpModel", "most", "(III)I"⟩ ∈ TBL := TBL_c9 99 rfl rfl
theorem wd_2162 : Cond.selects "GivenUpModel" ⟨"GivenUpModel", "most", "(III)I"⟩ ⟨"GivenUpModel", "most", "(III)I"⟩ ∈ TBL := TBL_c9 100 rfl rfl
theorem wd_2163 : Cond.code ⟨"GivenUpModel", "most", "(III)I"⟩ prog_14_method_122_code 8 (some .int) ∈ TBL := TBL_c9 101 rfl rfl
theorem wd_2164 : Cond.methodLink "GivenUpLaw" 189 ⟨"GivenUpModel", "rivals", "(III)I"⟩ ∈ TBL := TBL_c9 102 rfl rfl
theorem wd_2165 : Cond.instanceMethod ⟨"GivenUpModel", "rivals", "(III)I"⟩ ∈ TBL := TBL_c9 103 rfl rfl
theorem wd_2166 : Cond.selects "GivenUpModel" ⟨"GivenUpModel", "rivals", "(III)I"⟩ ⟨"GivenUpModel", "rivals", "(III)I"⟩ ∈ TBL := TBL_c9 104 rfl rfl
theorem wd_2167 : Cond.code ⟨"GivenUpModel", "rivals", "(III)I"⟩ prog_14_method_123_code 7 (some .int) ∈ TBL := TBL_c9 105 rfl rfl
theorem wd_2168 : Cond.methodLink "GivenUpLaw" 193 ⟨"GivenUpModel", "cheapest", "(II)I"⟩ ∈ TBL := TBL_c9 106 rfl rfl
theorem wd_2169 : Cond.instanceMethod ⟨"GivenUpModel", "cheapest", "(II)I"⟩ ∈ TBL := TBL_c9 107 rfl rfl
theorem wd_2170 : Cond.selects "GivenUpModel" ⟨"GivenUpModel", "cheapest", "(II)I"⟩ ⟨"GivenUpModel", "cheapest", "(II)I"⟩ ∈ TBL := TBL_c9 108 rfl rfl
theorem wd_2171 : Cond.code ⟨"GivenUpModel", "cheapest", "(II)I"⟩ prog_14_method_125_code 7 (some .int) ∈ TBL := TBL_c9 109 rfl rfl
theorem wd_2176 : Cond.methodLink "GivenUpLaw" 197 ⟨"GivenUpModel", "within", "(II)I"⟩ ∈ TBL := TBL_c9 114 rfl rfl
theorem wd_2177 : Cond.instanceMethod ⟨"GivenUpModel", "within", "(II)I"⟩ ∈ TBL := TBL_c9 115 rfl rfl
theorem wd_2178 : Cond.selects "GivenUpModel" ⟨"GivenUpModel", "within", "(II)I"⟩ ⟨"GivenUpModel", "within", "(II)I"⟩ ∈ TBL := TBL_c9 116 rfl rfl
theorem wd_2179 : Cond.code ⟨"GivenUpModel", "within", "(II)I"⟩ prog_14_method_126_code 5 (some .int) ∈ TBL := TBL_c9 117 rfl rfl
theorem wd_2180 : Cond.methodLink "GivenUpLaw" 201 ⟨"GivenUpModel", "village", "(II)I"⟩ ∈ TBL := TBL_c9 118 rfl rfl
theorem wd_2181 : Cond.instanceMethod ⟨"GivenUpModel", "village", "(II)I"⟩ ∈ TBL := TBL_c9 119 rfl rfl
theorem wd_2182 : Cond.selects "GivenUpModel" ⟨"GivenUpModel", "village", "(II)I"⟩ ⟨"GivenUpModel", "village", "(II)I"⟩ ∈ TBL := TBL_c9 120 rfl rfl
theorem wd_2183 : Cond.code ⟨"GivenUpModel", "village", "(II)I"⟩ prog_14_method_128_code 3 (some .int) ∈ TBL := TBL_c9 121 rfl rfl
theorem wd_2188 : Cond.methodLink "GivenUpLaw" 205 ⟨"GivenUpModel", "villager", "(II)I"⟩ ∈ TBL := TBL_c9 126 rfl rfl
theorem wd_2189 : Cond.instanceMethod ⟨"GivenUpModel", "villager", "(II)I"⟩ ∈ TBL := TBL_c9 127 rfl rfl
theorem wd_2190 : Cond.selects "GivenUpModel" ⟨"GivenUpModel", "villager", "(II)I"⟩ ⟨"GivenUpModel", "villager", "(II)I"⟩ ∈ TBL := TBL_c9 128 rfl rfl
theorem wd_2191 : Cond.code ⟨"GivenUpModel", "villager", "(II)I"⟩ prog_14_method_129_code 3 (some .int) ∈ TBL := TBL_c9 129 rfl rfl
theorem wd_2192 : Cond.methodLink "GivenUpLaw" 209 ⟨"GivenUpModel", "bolts", "(I)I"⟩ ∈ TBL := TBL_c9 130 rfl rfl
theorem wd_2193 : Cond.instanceMethod ⟨"GivenUpModel", "bolts", "(I)I"⟩ ∈ TBL := TBL_c9 131 rfl rfl
theorem wd_2194 : Cond.selects "GivenUpModel" ⟨"GivenUpModel", "bolts", "(I)I"⟩ ⟨"GivenUpModel", "bolts", "(I)I"⟩ ∈ TBL := TBL_c9 132 rfl rfl
theorem wd_2195 : Cond.code ⟨"GivenUpModel", "bolts", "(I)I"⟩ prog_14_method_132_code 6 (some .int) ∈ TBL := TBL_c9 133 rfl rfl
theorem wd_2204 : Cond.methodLink "GivenUpLaw" 213 ⟨"GivenUpModel", "bolter", "(II)I"⟩ ∈ TBL := TBL_c9 142 rfl rfl
theorem wd_2205 : Cond.instanceMethod ⟨"GivenUpModel", "bolter", "(II)I"⟩ ∈ TBL := TBL_c9 143 rfl rfl
theorem wd_2206 : Cond.selects "GivenUpModel" ⟨"GivenUpModel", "bolter", "(II)I"⟩ ⟨"GivenUpModel", "bolter", "(II)I"⟩ ∈ TBL := TBL_c9 144 rfl rfl
theorem wd_2207 : Cond.code ⟨"GivenUpModel", "bolter", "(II)I"⟩ prog_14_method_133_code 6 (some .int) ∈ TBL := TBL_c9 145 rfl rfl
theorem wd_2208 : Cond.methodLink "GivenUpLaw" 217 ⟨"GivenUpModel", "asked", "(I)I"⟩ ∈ TBL := TBL_c9 146 rfl rfl
theorem wd_2209 : Cond.instanceMethod ⟨"GivenUpModel", "asked", "(I)I"⟩ ∈ TBL := TBL_c9 147 rfl rfl
theorem wd_2210 : Cond.selects "GivenUpModel" ⟨"GivenUpModel", "asked", "(I)I"⟩ ⟨"GivenUpModel", "asked", "(I)I"⟩ ∈ TBL := TBL_c9 148 rfl rfl
theorem wd_2211 : Cond.code ⟨"GivenUpModel", "asked", "(I)I"⟩ prog_14_method_138_code 2 (some .int) ∈ TBL := TBL_c9 149 rfl rfl
theorem wd_2228 : Cond.methodLink "GivenUpLaw" 221 ⟨"GivenUpModel", "refusals", "()I"⟩ ∈ TBL := TBL_c9 166 rfl rfl
theorem wd_2229 : Cond.instanceMethod ⟨"GivenUpModel", "refusals", "()I"⟩ ∈ TBL := TBL_c9 167 rfl rfl
theorem wd_2230 : Cond.selects "GivenUpModel" ⟨"GivenUpModel", "refusals", "()I"⟩ ⟨"GivenUpModel", "refusals", "()I"⟩ ∈ TBL := TBL_c9 168 rfl rfl
theorem wd_2231 : Cond.code ⟨"GivenUpModel", "refusals", "()I"⟩ prog_14_method_139_code 1 (some .int) ∈ TBL := TBL_c9 169 rfl rfl
theorem wd_2232 : Cond.methodLink "GivenUpLaw" 225 ⟨"GivenUpModel", "keep", "(I)I"⟩ ∈ TBL := TBL_c9 170 rfl rfl
theorem wd_2233 : Cond.instanceMethod ⟨"GivenUpModel", "keep", "(I)I"⟩ ∈ TBL := TBL_c9 171 rfl rfl
theorem wd_2234 : Cond.selects "GivenUpModel" ⟨"GivenUpModel", "keep", "(I)I"⟩ ⟨"GivenUpModel", "keep", "(I)I"⟩ ∈ TBL := TBL_c9 172 rfl rfl
theorem wd_2235 : Cond.code ⟨"GivenUpModel", "keep", "(I)I"⟩ prog_14_method_140_code 4 (some .int) ∈ TBL := TBL_c9 173 rfl rfl
theorem wd_2236 : Cond.methodLink "GivenUpLaw" 230 ⟨"GivenUpModel", "orders", "(I)J"⟩ ∈ TBL := TBL_c9 174 rfl rfl
theorem wd_2237 : Cond.instanceMethod ⟨"GivenUpModel", "orders", "(I)J"⟩ ∈ TBL := TBL_c9 175 rfl rfl
theorem wd_2238 : Cond.selects "GivenUpModel" ⟨"GivenUpModel", "orders", "(I)J"⟩ ⟨"GivenUpModel", "orders", "(I)J"⟩ ∈ TBL := TBL_c9 176 rfl rfl
theorem wd_2239 : Cond.code ⟨"GivenUpModel", "orders", "(I)J"⟩ prog_14_method_142_code 2 (some .long) ∈ TBL := TBL_c9 177 rfl rfl
theorem wd_2248 : Cond.methodLink "GivenUpLaw" 234 ⟨"GivenUpModel", "ends", "(II)I"⟩ ∈ TBL := TBL_c9 186 rfl rfl
theorem wd_2249 : Cond.instanceMethod ⟨"GivenUpModel", "ends", "(II)I"⟩ ∈ TBL := TBL_c9 187 rfl rfl
theorem wd_2250 : Cond.selects "GivenUpModel" ⟨"GivenUpModel", "ends", "(II)I"⟩ ⟨"GivenUpModel", "ends", "(II)I"⟩ ∈ TBL := TBL_c9 188 rfl rfl
theorem wd_2251 : Cond.code ⟨"GivenUpModel", "ends", "(II)I"⟩ prog_14_method_143_code 6 (some .int) ∈ TBL := TBL_c9 189 rfl rfl
theorem wd_2252 : Cond.methodLink "GivenUpLaw" 238 ⟨"GivenUpModel", "needs", "(I)I"⟩ ∈ TBL := TBL_c9 190 rfl rfl
theorem wd_2253 : Cond.instanceMethod ⟨"GivenUpModel", "needs", "(I)I"⟩ ∈ TBL := TBL_c9 191 rfl rfl
theorem wd_2254 : Cond.selects "GivenUpModel" ⟨"GivenUpModel", "needs", "(I)I"⟩ ⟨"GivenUpModel", "needs", "(I)I"⟩ ∈ TBL := TBL_c9 192 rfl rfl
theorem wd_2255 : Cond.code ⟨"GivenUpModel", "needs", "(I)I"⟩ prog_14_method_147_code 2 (some .int) ∈ TBL := TBL_c9 193 rfl rfl
theorem wd_2256 : Cond.methodLink "GivenUpLaw" 242 ⟨"GivenUpModel", "never", "(I)I"⟩ ∈ TBL := TBL_c9 194 rfl rfl
theorem wd_2257 : Cond.instanceMethod ⟨"GivenUpModel", "never", "(I)I"⟩ ∈ TBL := TBL_c9 195 rfl rfl
theorem wd_2258 : Cond.selects "GivenUpModel" ⟨"GivenUpModel", "never", "(I)I"⟩ ⟨"GivenUpModel", "never", "(I)I"⟩ ∈ TBL := TBL_c9 196 rfl rfl
theorem wd_2259 : Cond.code ⟨"GivenUpModel", "never", "(I)I"⟩ prog_14_method_149_code 2 (some .int) ∈ TBL := TBL_c9 197 rfl rfl
theorem wd_2264 : Cond.methodLink "GivenUpLaw" 246 ⟨"GivenUpModel", "ways", "(I)J"⟩ ∈ TBL := TBL_c9 202 rfl rfl
theorem wd_2265 : Cond.instanceMethod ⟨"GivenUpModel", "ways", "(I)J"⟩ ∈ TBL := TBL_c9 203 rfl rfl
theorem wd_2266 : Cond.selects "GivenUpModel" ⟨"GivenUpModel", "ways", "(I)J"⟩ ⟨"GivenUpModel", "ways", "(I)J"⟩ ∈ TBL := TBL_c9 204 rfl rfl
theorem wd_2267 : Cond.code ⟨"GivenUpModel", "ways", "(I)J"⟩ prog_14_method_150_code 2 (some .long) ∈ TBL := TBL_c9 205 rfl rfl
theorem wd_2268 : Cond.methodLink "GivenUpLaw" 250 ⟨"GivenUpModel", "lies", "(III)I"⟩ ∈ TBL := TBL_c9 206 rfl rfl
theorem wd_2269 : Cond.instanceMethod ⟨"GivenUpModel", "lies", "(III)I"⟩ ∈ TBL := TBL_c9 207 rfl rfl
theorem wd_2270 : Cond.selects "GivenUpModel" ⟨"GivenUpModel", "lies", "(III)I"⟩ ⟨"GivenUpModel", "lies", "(III)I"⟩ ∈ TBL := TBL_c9 208 rfl rfl
theorem wd_2271 : Cond.code ⟨"GivenUpModel", "lies", "(III)I"⟩ prog_14_method_151_code 5 (some .int) ∈ TBL := TBL_c9 209 rfl rfl
theorem wd_2272 : Cond.methodLink "GivenUpLaw" 254 ⟨"GivenUpModel", "cheats", "(I)I"⟩ ∈ TBL := TBL_c9 210 rfl rfl
theorem wd_2273 : Cond.instanceMethod ⟨"GivenUpModel", "cheats", "(I)I"⟩ ∈ TBL := TBL_c9 211 rfl rfl
theorem wd_2274 : Cond.selects "GivenUpModel" ⟨"GivenUpModel", "cheats", "(I)I"⟩ ⟨"GivenUpModel", "cheats", "(I)I"⟩ ∈ TBL := TBL_c9 212 rfl rfl
theorem wd_2275 : Cond.code ⟨"GivenUpModel", "cheats", "(I)I"⟩ prog_14_method_152_code 4 (some .int) ∈ TBL := TBL_c9 213 rfl rfl
theorem wd_2276 : Cond.methodLink "GivenUpLaw" 258 ⟨"GivenUpModel", "live", "(I)I"⟩ ∈ TBL := TBL_c9 214 rfl rfl
theorem wd_2277 : Cond.instanceMethod ⟨"GivenUpModel", "live", "(I)I"⟩ ∈ TBL := TBL_c9 215 rfl rfl
theorem wd_2278 : Cond.selects "GivenUpModel" ⟨"GivenUpModel", "live", "(I)I"⟩ ⟨"GivenUpModel", "live", "(I)I"⟩ ∈ TBL := TBL_c9 216 rfl rfl
theorem wd_2279 : Cond.code ⟨"GivenUpModel", "live", "(I)I"⟩ prog_14_method_160_code 3 (some .int) ∈ TBL := TBL_c9 217 rfl rfl
theorem wd_2310 : Cond.methodLink "GivenUpLaw" 262 ⟨"GivenUpModel", "lived", "(I)I"⟩ ∈ TBL := TBL_c10 8 rfl rfl
theorem wd_2311 : Cond.instanceMethod ⟨"GivenUpModel", "lived", "(I)I"⟩ ∈ TBL := TBL_c10 9 rfl rfl
theorem wd_2312 : Cond.selects "GivenUpModel" ⟨"GivenUpModel", "lived", "(I)I"⟩ ⟨"GivenUpModel", "lived", "(I)I"⟩ ∈ TBL := TBL_c10 10 rfl rfl
theorem wd_2313 : Cond.code ⟨"GivenUpModel", "lived", "(I)I"⟩ prog_14_method_161_code 2 (some .int) ∈ TBL := TBL_c10 11 rfl rfl
theorem wd_2314 : Cond.methodLink "GivenUpLaw" 266 ⟨"GivenUpModel", "mean", "(III)Z"⟩ ∈ TBL := TBL_c10 12 rfl rfl
theorem wd_2315 : Cond.instanceMethod ⟨"GivenUpModel", "mean", "(III)Z"⟩ ∈ TBL := TBL_c10 13 rfl rfl
theorem wd_2316 : Cond.selects "GivenUpModel" ⟨"GivenUpModel", "mean", "(III)Z"⟩ ⟨"GivenUpModel", "mean", "(III)Z"⟩ ∈ TBL := TBL_c10 14 rfl rfl
theorem wd_2317 : Cond.code ⟨"GivenUpModel", "mean", "(III)Z"⟩ prog_14_method_162_code 8 (some .boolean) ∈ TBL := TBL_c10 15 rfl rfl
theorem wd_2319 : Cond.methodLink "GivenUpLaw" 270 ⟨"GivenUpModel", "mark", "()I"⟩ ∈ TBL := TBL_c10 17 rfl rfl
theorem wd_2320 : Cond.instanceMethod ⟨"GivenUpModel", "mark", "()I"⟩ ∈ TBL := TBL_c10 18 rfl rfl
theorem wd_2321 : Cond.selects "GivenUpModel" ⟨"GivenUpModel", "mark", "()I"⟩ ⟨"GivenUpModel", "mark", "()I"⟩ ∈ TBL := TBL_c10 19 rfl rfl
theorem wd_2322 : Cond.code ⟨"GivenUpModel", "mark", "()I"⟩ prog_14_method_164_code 1 (some .int) ∈ TBL := TBL_c10 20 rfl rfl
theorem wd_2327 : Cond.methodLink "GivenUpLaw" 274 ⟨"GivenUpModel", "undo", "()I"⟩ ∈ TBL := TBL_c10 25 rfl rfl
theorem wd_2328 : Cond.instanceMethod ⟨"GivenUpModel", "undo", "()I"⟩ ∈ TBL := TBL_c10 26 rfl rfl
theorem wd_2329 : Cond.selects "GivenUpModel" ⟨"GivenUpModel", "undo", "()I"⟩ ⟨"GivenUpModel", "undo", "()I"⟩ ∈ TBL := TBL_c10 27 rfl rfl
theorem wd_2330 : Cond.code ⟨"GivenUpModel", "undo", "()I"⟩ prog_14_method_165_code 1 (some .int) ∈ TBL := TBL_c10 28 rfl rfl
theorem wd_2331 : Cond.constantLong "GivenUpLaw" 32 4294967295 ∈ TBL := TBL_c10 29 rfl rfl
def RRl : RetP := fun r _ => r = some (vI 1)
abbrev LSl (i : Nat) : LsT := [some (vR 74 0), some (vR 11 0), some (vR 12 0), some (vI (nI i))]
theorem inb_law {i L : Nat} (k : Nat) (hi : i + 6 ≤ L) (hL : L ≤ 3072) (hk : k < 6) : inb (nI i + nI k) L = true := by
  rw [nI_add]
  exact inb_nI (by omega) (by omega)
def s_scl (L : Nat) : StpT := fun _ K n ls st m => match st with
  | Sum.inr (Sum.inr (k, _)) :: st' => cond (Nat.beq k 74) (K (n + 1) ls (Sum.inl (nI L) :: st') m) False
  | _ => False
theorem mo_s_scl {L : Nat} : monoS (s_scl L) := by
  intro R K K' h n ls st m hs
  unfold s_scl at hs ⊢
  split at hs
  · cases q : (Nat.beq _ _) <;> rw [q] at hs
    · exact hs
    · exact h _ _ _ _ hs
  · exact hs
def s_sca (L : Nat) (xs : Nat → Int32) : StpT := fun _ K n ls st m => match st with
  | Sum.inl i :: Sum.inr (Sum.inr (k, _)) :: st' => cond (Nat.beq k 74) (inb i L = true ∧ K (n + 1) ls (Sum.inl (xs i.toNatClampNeg) :: st') m) False
  | _ => False
theorem mo_s_sca {L : Nat} {xs : Nat → Int32} : monoS (s_sca L xs) := by
  intro R K K' h n ls st m hs
  unfold s_sca at hs ⊢
  split at hs
  · cases q : (Nat.beq _ _) <;> rw [q] at hs
    · exact hs
    · exact ⟨hs.1, h _ _ _ _ hs.2⟩
  · exact hs
/-- what the law's loop stands on -/
def LC (p : Program) (s : State) (m : MethodId) (c : Code) (b L : Nat) (xs : Nat → Int32) (D : va_G) (dA : Nat → ClassId) (ad : Nat → Nat → Nat) (A : Nat → Prop) : Prop := CX p s m #[Value.ref b] c code "GivenUpLaw" 4 D dA ad A ∧ va_X b L xs s s.heap ∧ b < s.heap.size ∧ ¬ A b ∧ ad 74 0 = b ∧ A = (fun q => s.heap.size ≤ q)
abbrev LK (p : Program) (l : Launch) (e : Env) (s : State) (m : MethodId) (below : List Frame) (meth : Method) (c : Code) (b cells slots : Nat) (D : va_G) (dA : Nat → ClassId) (ad : Nat → Nat → Nat) (A : Nat → Prop) (pcs : Nat → Nat) : KonT := XK p l e room_1 s m #[Value.ref b] below meth c cells slots (lw_Z below #[Value.ref b] s) 4 D dA ad A pcs
section LWS
variable {p : Program} {l : Launch} {e : Env} {s : State} {m : MethodId} {below : List Frame} {meth : Method} {c : Code} {b L cells slots : Nat} {xs : Nat → Int32} {D : va_G} {dA : Nat → ClassId} {ad : Nat → Nat → Nat} {A : Nat → Prop} {pcs : Nat → Nat}
theorem LK_pc {pcs' : Nat → Nat} {i i' : Nat} {ls : LsT} {st : List MV} {mm : MM} (h : pcs i = pcs' i') (k : LK p l e s m below meth c b cells slots D dA ad A pcs i ls st mm) : LK p l e s m below meth c b cells slots D dA ad A pcs' i' ls st mm := by
  intro h1 h2 h3 h4 H locs arr hP hD hS hz hLH
  rw [← h]
  exact k h1 h2 h3 h4 H locs arr hP hD hS hz hLH
theorem sl_scl (hLC : LC p s m c b L xs D dA ad A) {n : Nat} (hd : decode code (pcs n) = .ok (.arraylength, 1)) (hn : pcs (n + 1) = pcs n + 1) : SND RRl (LK p l e s m below meth c b cells slots D dA ad A pcs) n (s_scl L) := by
  refine ⟨mo_s_scl, fun ls st mm h => ?_⟩
  obtain ⟨⟨hx, hb, hml, hown, hts, hK, hN, hE, hAW⟩, hX, hbl, hbA, had, hAe⟩ := hLC
  intro hl hol hos hom H locs arr hP hD hS hz hL
  unfold s_scl at h
  split at h
  · rename_i k g st'
    cases q : Nat.beq k 74 <;> rw [q] at h
    · exact h.elim
    · have e := Nat.eq_of_beq_eq_true q
      subst e
      have hg : g < 1 := oks_h hos
      have hg : g = 0 := by omega
      subst hg
      have k1 := h hl hol (oks_c (v := Sum.inl (nI L)) trivial (oks_t hos)) hom H locs arr hP hD hS hz hL
      rw [hn] at k1
      show W p l _ room_1 s m _ below meth c H locs cells slots _ (F0 m (pcs n) arr (Value.ref (ad 74 0) :: st'.map (cv ad)))
      rw [had]
      exact va_slen hx hb hX hbl hbA hS hd k1
  · exact h.elim
theorem sl_sca (hLC : LC p s m c b L xs D dA ad A) {n : Nat} (hd : decode code (pcs n) = .ok (.iaload, 1)) (hn : pcs (n + 1) = pcs n + 1) : SND RRl (LK p l e s m below meth c b cells slots D dA ad A pcs) n (s_sca L xs) := by
  refine ⟨mo_s_sca, fun ls st mm h => ?_⟩
  obtain ⟨⟨hx, hb, hml, hown, hts, hK, hN, hE, hAW⟩, hX, hbl, hbA, had, hAe⟩ := hLC
  intro hl hol hos hom H locs arr hP hD hS hz hL
  unfold s_sca at h
  split at h
  · rename_i i k g st'
    cases q : Nat.beq k 74 <;> rw [q] at h
    · exact h.elim
    · have e := Nat.eq_of_beq_eq_true q
      subst e
      have hg : g < 1 := oks_h (oks_t hos)
      have hg : g = 0 := by omega
      subst hg
      obtain ⟨h1, h2⟩ := h
      have k1 := h2 hl hol (oks_c (v := Sum.inl (xs i.toNatClampNeg)) trivial (oks_t (oks_t hos))) hom H locs arr hP hD hS hz hL
      rw [hn] at k1
      show W p l _ room_1 s m _ below meth c H locs cells slots _ (F0 m (pcs n) arr (Value.int i :: Value.ref (ad 74 0) :: st'.map (cv ad)))
      rw [had]
      exact va_sld hx hb hX hbl hbA hS (inb_of h1) hd k1
  · exact h.elim
theorem sl_ret (hLC : LC p s m c b L xs D dA ad A) (hLR : meth.sig.returnType = ret ∧ meth.locks = false ∧ cells ≤ 600000 ∧ slots ≤ 7302250) {n : Nat} (hd : decode code (pcs n) = .ok (.ireturn, 1)) : SND RRl (LK p l e s m below meth c b cells slots D dA ad A pcs) n s_iret := by
  refine ⟨mo_s_iret, fun ls st mm h => ?_⟩
  obtain ⟨⟨hx, hb, hml, hown, hts, hK, hN, hE, hAW⟩, hX, hbl, hbA, had, hAe⟩ := hLC
  obtain ⟨hr, hlk, hc1, hc2⟩ := hLR
  intro hl hol hos hom H locs arr hP hD hS hz hL
  unfold s_iret at h
  split at h
  · rename_i x
    have hx1 : x = 1 := by
      have h' : some (vI x) = some (vI 1) := h
      exact Sum.inl.inj (Option.some.inj h')
    subst hx1
    refine va_forget (fun q hq => ?_) ?_
    · have := hS.2.2 q hq
      rw [hAe] at this
      exact this
    · exact W.widen hc1 hc2 (lw_ret hx hb hr hlk hd)
  · exact h.elim
end LWS

end
